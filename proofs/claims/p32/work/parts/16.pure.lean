def biF (kn on : Int64) : Nat → Int32 := fun k => biI kn on k
theorem tb_set {w : Int64} {k j : Nat} (hk : k < 64) (hj : j < 64) : tb (w ||| bitM k) j = (tb w j || decide (j = k)) := by rw [tb_or, tb_bit k hk j hj]
theorem tb_clr {w : Int64} {k j : Nat} (hk : k < 64) (hj : j < 64) : tb (w &&& (bitM k ^^^ (-1))) j = (tb w j && !decide (j = k)) := by rw [tb_and, tb_not hj, tb_bit k hk j hj]
def cuN (f b : Int64) (q : Int32) : Nat := cnt (fun k => decide (kdI f b k = q)) 64
def lcN (line k : Nat) : Nat := if line < 8 then 8 * line + k else 8 * k + line - 8
theorem lcN_lt {line k : Nat} (h1 : line < 16) (h2 : k < 8) : lcN line k < 64 := by unfold lcN; split <;> omega
/-- a count over the 64 cells that are in a line is a count over its eight -/
theorem cnt_line (p : Nat → Bool) : ∀ line, line < 16 → cnt (fun k => tb (lineM line) k && p k) 64 = cnt (fun j => p (lcN line j)) 8 := by
  intro line hl
  have h1 : cnt (fun k => tb (lineM line) k && p k) 64 = cnt (fun k => (if line < 8 then decide (k / 8 = line) else decide (k % 8 = line - 8)) && p k) 64 := by
    apply cnt_cong
    intro k hk
    unfold lineM
    by_cases h : line < 8
    · rw [if_pos h, if_pos h, tb_row line h k hk]
    · rw [if_neg h, if_neg h, tb_col (line - 8) (by omega) k hk]
  rw [h1]
  rcases (show line = 0 ∨ line = 1 ∨ line = 2 ∨ line = 3 ∨ line = 4 ∨ line = 5 ∨ line = 6 ∨ line = 7 ∨ line = 8 ∨ line = 9 ∨ line = 10 ∨ line = 11 ∨ line = 12 ∨ line = 13 ∨ line = 14 ∨ line = 15 by omega) with rfl | rfl | rfl | rfl | rfl | rfl | rfl | rfl | rfl | rfl | rfl | rfl | rfl | rfl | rfl | rfl <;> simp [cnt, lcN]
theorem mi_pc {kn on : Int64} {line : Nat} (hl : line < 16) : cnt (fun k => decide (biF kn on (lcN line k) = -1)) 8 = pc (msW (lineM line) kn) := by
  unfold pc
  rw [← cnt_line (fun k => decide (biF kn on k = -1)) line hl]
  apply cnt_cong
  intro k hk
  unfold msW
  rw [tb_and, tb_not hk]
  congr 1
  unfold biF biI
  cases tb kn k <;> cases tb on k <;> decide
theorem pa_pc {kn on : Int64} {line : Nat} (hl : line < 16) (hok : ∀ k, k < 64 → tb on k = true → tb kn k = true) : cnt (fun k => decide (biF kn on (lcN line k) = 1)) 8 = pc (lineM line &&& on) := by
  unfold pc
  rw [← cnt_line (fun k => decide (biF kn on k = 1)) line hl]
  apply cnt_cong
  intro k hk
  rw [tb_and]
  congr 1
  have := hok k hk
  unfold biF biI
  cases h1 : tb kn k <;> cases h2 : tb on k <;> simp_all
  all_goals decide

theorem tb_line {line k : Nat} (hl : line < 16) (hk : k < 64) : tb (lineM line) k = (if line < 8 then decide (k / 8 = line) else decide (k % 8 = line - 8)) := by
  unfold lineM
  by_cases h : line < 8
  · rw [if_pos h, if_pos h, tb_row line h k hk]
  · rw [if_neg h, if_neg h, tb_col (line - 8) (by omega) k hk]
theorem in_line {line p : Nat} (hl : line < 16) (hp : p < 64) : tb (lineM line) p = true ↔ ∃ j, j < 8 ∧ lcN line j = p := by
  rw [tb_line hl hp]
  unfold lcN
  by_cases h : line < 8
  · simp only [h, if_true, decide_eq_true_eq]
    constructor
    · intro e; exact ⟨p % 8, by omega, by omega⟩
    · rintro ⟨j, hj, e⟩; omega
  · simp only [h, if_false, decide_eq_true_eq]
    constructor
    · intro e; exact ⟨p / 8, by omega, by omega⟩
    · rintro ⟨j, hj, e⟩; omega
theorem lcN_inj {line i j : Nat} (hi : i < 8) (hj : j < 8) (h : lcN line i = lcN line j) : i = j := by
  unfold lcN at h; split at h <;> omega
theorem tb_ms {w kn : Int64} {k : Nat} (hk : k < 64) : tb (msW w kn) k = (tb w k && !tb kn k) := by unfold msW; rw [tb_and, tb_not hk]
theorem kd_cases (f b : Int64) (k : Nat) : kdI f b k = if tb f k then (if tb b k then 3 else 1) else (if tb b k then 0 else 2) := rfl
theorem nI_nm1 {k : Nat} (hk : k < 64) : ¬ nI k = -1 := by
  intro h
  have h2 := congrArg Int32.toInt h
  rw [nI_toInt (by omega)] at h2
  exact absurd h2 (by show ¬ (k : Int) = -1; omega)
def okS (s : Int64 × Int64) : Prop := ∀ k, k < 64 → tb s.2 k = true → tb s.1 k = true
theorem ok_tl {w : Int64} {s : Int64 × Int64} (h : okS s) : okS (tl w s) := by
  intro k hk h2
  have h0 := h k hk
  simp only [tl, tlO, tlK] at h2 ⊢
  by_cases h1 : pc (msW w s.1) = 1
  · rw [if_pos h1] at h2 ⊢
    rw [tb_or]
    cases hod : od (w &&& s.2)
    · rw [hod] at h2
      rw [h0 (by simpa using h2), Bool.true_or]
    · rw [hod, if_pos rfl, tb_or, Bool.or_eq_true] at h2
      rcases h2 with h2 | h2
      · rw [h0 h2, Bool.true_or]
      · rw [h2, Bool.or_true]
  · rw [if_neg h1] at h2 ⊢
    exact h0 h2
def lnS (s : Int64 × Int64) : Nat → Int64 × Int64
  | 0 => s
  | j + 1 => tl (lineM j) (lnS s j)
theorem lnS_rd (s : Int64 × Int64) : lnS s 16 = rd s := rfl
theorem ok_lnS {s : Int64 × Int64} (h : okS s) : ∀ j, okS (lnS s j)
  | 0 => h
  | j + 1 => ok_tl (ok_lnS h j)
theorem ok_rdn {s : Int64 × Int64} (h : okS s) : ∀ r, okS (rdn s r)
  | 0 => h
  | r + 1 => by
    show okS (rd (rdn s r))
    rw [← lnS_rd]
    exact ok_lnS (ok_rdn h r) 16
theorem lnS_ge (s : Int64 × Int64) (k : Nat) (h : tb s.1 k = true) : ∀ j, tb (lnS s j).1 k = true
  | 0 => h
  | j + 1 => tl_ge _ _ k (lnS_ge s k h j)
theorem cnt_mono {p q : Nat → Bool} (h : ∀ k, p k = true → q k = true) : ∀ n, cnt p n ≤ cnt q n
  | 0 => Nat.le_refl _
  | n + 1 => by
    have := cnt_mono h n
    unfold cnt
    cases hp : p n
    · simp only [Bool.false_eq_true, if_false]; split <;> omega
    · rw [h n hp]; simp only [if_true]; omega
theorem cnt_strict {p q : Nat → Bool} (h : ∀ k, p k = true → q k = true) {j : Nat} (h1 : p j = false) (h2 : q j = true) : ∀ {n : Nat}, j < n → cnt p n < cnt q n
  | 0, hj => absurd hj (Nat.not_lt_zero _)
  | n + 1, hj => by
    by_cases e : j = n
    · subst e
      have := cnt_mono h j
      unfold cnt; rw [h1, h2]; simp only [Bool.false_eq_true, if_false, if_true]; omega
    · have := cnt_strict h h1 h2 (n := n) (by omega)
      unfold cnt
      cases hp : p n
      · simp only [Bool.false_eq_true, if_false]; split <;> omega
      · rw [h n hp]; simp only [if_true]; omega
theorem pc_grow {a b : Int64} (h : ∀ k, tb a k = true → tb b k = true) (hne : ¬ b = a) : pc a < pc b := by
  have h1 : ∃ j, j < 64 ∧ tb a j = false ∧ tb b j = true := by
    refine Classical.byContradiction fun hn => hne ?_
    apply tb_ext
    intro k hk
    cases ha : tb a k
    · cases hb : tb b k
      · rfl
      · exact absurd ⟨k, hk, ha, hb⟩ hn
    · exact h k ha
  obtain ⟨j, hj, h2, h3⟩ := h1
  exact cnt_strict h h2 h3 hj
theorem rd_ge (s : Int64 × Int64) (k : Nat) (h : tb s.1 k = true) : tb (rd s).1 k = true := by rw [← lnS_rd]; exact lnS_ge s k h 16
/-- whether the reference goes on after r rounds -/
def goB (s : Int64 × Int64) : Nat → Bool
  | 0 => true
  | r + 1 => decide (¬ (rdn s (r + 1)).1 = (rdn s r).1)
theorem go_up {s : Int64 × Int64} {r : Nat} (h1 : goB s (r + 1) = true) (h0 : r ≤ pc (rdn s r).1) : r + 1 ≤ pc (rdn s (r + 1)).1 := by
  have h2 : ¬ (rdn s (r + 1)).1 = (rdn s r).1 := by simpa [goB] using h1
  have := pc_grow (fun k hk => rd_ge (rdn s r) k hk) h2
  have e : pc (rdn s (r + 1)).1 = pc (rd (rdn s r)).1 := rfl
  omega
theorem go_fa {sd so : Int64} {r : Nat} (h : goB (sd, so) r = false) (hr : r ≤ 65) : rdn (sd, so) r = fa sd so := by
  cases r with
  | zero => exact absurd h (by show ¬ true = false; decide)
  | succ r =>
    have h2 : (rdn (sd, so) (r + 1)).1 = (rdn (sd, so) r).1 := by simpa [goB] using h
    exact fa_stop h2 (by omega)
theorem un_pc (kn on : Int64) : cnt (fun k => decide (biF kn on k = -1)) 64 = pc (kn ^^^ (-1)) := by
  unfold pc
  apply cnt_cong
  intro k hk
  rw [tb_not hk]
  unfold biF biI
  cases tb kn k <;> cases tb on k <;> decide
theorem pc_eq0 {w : Int64} : pc w = 0 ↔ w = 0 := by
  constructor
  · intro h
    apply tb_ext
    intro k hk
    rw [tb_0]
    cases hw : tb w k
    · rfl
    · have h1 := cnt_strict (p := fun _ => false) (q := tb w) (fun _ h => absurd h (by decide)) rfl hw hk
      have h2 : cnt (tb w) 64 = 0 := h
      omega
  · rintro rfl; exact pc_0
theorem dgM {kn on : Int64} {line : Nat} : (decide (pc (msW (lineM line) kn) = 0) && decide (pc (lineM line &&& on) % 2 = 1)) = dgB kn on line := by
  unfold dgB od
  congr 1
  exact decide_eq_decide.mpr pc_eq0
theorem dlS_lt {P : Nat → Bool} {idx : Nat} : ∀ {n j : Nat}, dlS P idx n = some j → j < n
  | 0, j, h => by simp [dlS] at h
  | n + 1, j, h => by
    unfold dlS at h
    cases h0 : dlS P idx n with
    | some i => rw [h0] at h; simp at h; have := dlS_lt h0; omega
    | none => rw [h0] at h; simp at h; omega
theorem dlS_none {P : Nat → Bool} {idx : Nat} : ∀ n, dlS P idx n = none ↔ cnt P n ≤ idx
  | 0 => by simp [dlS, cnt]
  | n + 1 => by
    have ih := dlS_none (P := P) (idx := idx) n
    rw [show cnt P (n + 1) = cnt P n + (if P n = true then 1 else 0) from rfl]
    unfold dlS
    cases h0 : dlS P idx n with
    | some i =>
      rw [h0] at ih
      have : ¬ cnt P n ≤ idx := fun h => by have := ih.mpr h; cases this
      simp only [reduceCtorEq, false_iff]
      split <;> omega
    | none =>
      rw [h0] at ih
      have h1 : cnt P n ≤ idx := ih.mp rfl
      cases hp : P n
      · simp; exact h1
      · by_cases e : cnt P n = idx
        · simp [e]
        · simp [e]; omega
theorem dlI_m1 {P : Nat → Bool} {idx : Nat} : dlI P idx = -1 ↔ cnt P 16 ≤ idx := by
  rw [← dlS_none 16]
  unfold dlI
  cases h : dlS P idx 16 with
  | none => simp
  | some j =>
    have := dlS_lt h
    have h2 := nI_nm1 (k := j) (by omega)
    simp [h2]

theorem allB_iff {p : Nat → Bool} : ∀ {n : Nat}, allB p n = true ↔ ∀ k, k < n → p k = true
  | 0 => by simp [allB]
  | n + 1 => by
    unfold allB
    rw [Bool.and_eq_true, allB_iff (n := n)]
    constructor
    · rintro ⟨h1, h2⟩ k hk
      rcases Nat.lt_or_ge k n with h | h
      · exact h1 k h
      · rw [show k = n by omega]; exact h2
    · intro h; exact ⟨fun k hk => h k (by omega), h n (by omega)⟩
theorem tb_bl {f b : Int64} {k : Nat} (hk : k < 64) : tb (blW f b) k = (!tb f k && !tb b k) := by unfold blW; rw [tb_not hk, tb_or]; cases tb f k <;> cases tb b k <;> rfl
theorem kd_bl {f b : Int64} {k : Nat} (hk : k < 64) : decide (kdI f b k = 2) = tb (blW f b) k := by rw [tb_bl hk]; unfold kdI; cases tb f k <;> cases tb b k <;> decide
theorem kd_sd {f b : Int64} {k : Nat} : decide (kdI f b k < 2) = tb (sdW f b) k := by unfold sdW kdI; rw [tb_xor]; cases tb f k <;> cases tb b k <;> decide
theorem kd_on {f b : Int64} {k : Nat} (hk : k < 64) (h : tb (sdW f b) k = true) : kdI f b k = nI (if tb (onW f b) k then 1 else 0) := by
  revert h
  unfold sdW onW kdI; rw [tb_xor, tb_and, tb_not hk]; cases tb f k <;> cases tb b k <;> decide
theorem cp_iff {f b : Int64} {row : Nat} (hr : row < 8) : cpB f b row = true ↔ ∀ k, k < 8 → tb (blW f b) (8 * row + k) = true := by
  unfold cpB
  rw [decide_eq_true_eq]
  constructor
  · intro h k hk
    have h2 := congrArg (fun w => tb w (8 * row + k)) h
    simp only [tb_and, tb_0, tb_not (show 8 * row + k < 64 by omega), tb_row row hr (8 * row + k) (by omega)] at h2
    rw [decide_eq_true (show (8 * row + k) / 8 = row by omega), Bool.true_and] at h2
    cases hb : tb (blW f b) (8 * row + k)
    · rw [hb] at h2; exact absurd h2 (by decide)
    · rfl
  · intro h
    apply tb_ext
    intro k hk
    rw [tb_and, tb_not hk, tb_row row hr k hk, tb_0]
    by_cases e : k / 8 = row
    · have := h (k % 8) (by omega)
      rw [show 8 * row + k % 8 = k by omega] at this
      rw [this]; simp
    · simp [e]
theorem cp_all {f b : Int64} {row : Nat} (hr : row < 8) : allB (fun k => decide (kdI f b (8 * row + k) = 2)) 8 = cpB f b row := by
  have h : allB (fun k => decide (kdI f b (8 * row + k) = 2)) 8 = true ↔ cpB f b row = true := by
    rw [allB_iff, cp_iff hr]
    constructor
    · intro h k hk; rw [← kd_bl (by omega)]; exact h k hk
    · intro h k hk; rw [kd_bl (by omega)]; exact h k hk
  cases h1 : cpB f b row
  · cases h2 : allB (fun k => decide (kdI f b (8 * row + k) = 2)) 8
    · rfl
    · rw [h.mp h2] at h1; exact absurd h1 (by decide)
  · exact h.mpr h1
theorem cc_all {f b : Int64} : (cpB f b 7 && allB (fun k => decide (kdI f b k < 2)) 56) = ccB f b := by
  have h : (cpB f b 7 && allB (fun k => decide (kdI f b k < 2)) 56) = true ↔ ccB f b = true := by
    unfold ccB
    rw [Bool.and_eq_true, Bool.and_eq_true, cp_iff (by decide), allB_iff, decide_eq_true_eq, decide_eq_true_eq]
    constructor
    · rintro ⟨h1, h2⟩
      refine ⟨?_, ?_⟩
      · apply tb_ext
        intro k hk
        rw [tb_or, tb_m1 k hk, tb_row 7 (by decide) k hk]
        by_cases e : k < 56
        · have h3 : tb (sdW f b) k = true := by rw [← kd_sd]; exact h2 k e
          rw [h3, Bool.true_or]
        · rw [decide_eq_true (by omega), Bool.or_true]
      · apply tb_ext
        intro k hk
        rw [tb_and, tb_row 7 (by decide) k hk]
        by_cases e : k / 8 = 7
        · have := h1 (k - 56) (by omega)
          rw [show 8 * 7 + (k - 56) = k by omega] at this
          rw [this, Bool.true_and]
        · simp [e]
    · rintro ⟨h1, h2⟩
      refine ⟨fun k hk => ?_, fun k hk => ?_⟩
      · have h3 := congrArg (fun w => tb w (8 * 7 + k)) h2
        simp only [tb_and, tb_row 7 (by decide) (8 * 7 + k) (by omega)] at h3
        rw [decide_eq_true (by omega), Bool.and_true] at h3
        exact h3
      · have h3 := congrArg (fun w => tb w k) h1
        simp only [tb_or, tb_m1 k (by omega), tb_row 7 (by decide) k (by omega)] at h3
        rw [decide_eq_false (by omega), Bool.or_false] at h3
        rw [kd_sd]; exact h3
  cases h1 : ccB f b
  · cases h2 : (cpB f b 7 && allB (fun k => decide (kdI f b k < 2)) 56)
    · rfl
    · rw [h.mp h2] at h1; exact absurd h1 (by decide)
  · exact h.mpr h1
def xrN (x : Nat) : Nat → Nat
  | 0 => 0
  | i + 1 => (xrN x i + x / 2 ^ (6 - i) % 2) % 2
theorem xrN_lt (x : Nat) : ∀ i, xrN x i < 2
  | 0 => by show 0 < 2; decide
  | i + 1 => Nat.mod_lt _ (by decide)
theorem xor2 {a b : Nat} (ha : a < 2) (hb : b < 2) : nI a ^^^ nI b = nI ((a + b) % 2) := by
  rcases (show a = 0 ∨ a = 1 by omega) with rfl | rfl <;> rcases (show b = 0 ∨ b = 1 by omega) with rfl | rfl <;> decide
theorem xrN_7 : ∀ x, x < 128 → xrN x 7 = pc7 x % 2 := by decide +kernel
theorem bi_y {kn on : Int64} {k : Nat} (h : ¬ biI kn on k = -1) : tb kn k = true ∧ biI kn on k = nI (if tb on k then 1 else 0) := by
  revert h; unfold biI; cases tb kn k <;> cases tb on k <;> decide
theorem bi_n {kn on : Int64} {k : Nat} (h : biI kn on k = -1) : tb kn k = false := by
  revert h; unfold biI; cases tb kn k <;> cases tb on k <;> decide
theorem ok_sd (f b : Int64) : okS (sdW f b, onW f b) := by
  intro k hk; show tb (onW f b) k = true → tb (sdW f b) k = true
  unfold sdW onW; rw [tb_and, tb_not hk, tb_xor]; cases tb f k <;> cases tb b k <;> decide
theorem ok_lf (f b : Int64) (j : Nat) : okS (lfW f b j, onW f b &&& lfW f b j) := by
  intro k hk; show tb (onW f b &&& lfW f b j) k = true → tb (lfW f b j) k = true
  rw [tb_and]; cases tb (onW f b) k <;> cases tb (lfW f b j) k <;> decide

theorem cc_sd {f b : Int64} (h : ccB f b = true) : ∀ k, k < 56 → tb (sdW f b) k = true := by
  rw [← cc_all, Bool.and_eq_true, allB_iff] at h
  intro k hk
  rw [← kd_sd]; exact h.2 k hk
theorem kd_tb {f b : Int64} {k q : Nat} (hk : k < 64) (hq : q < 4) : decide (kdI f b k = nI q) = tb (kdW f b q) k := by
  have h : q = 0 ∨ q = 1 ∨ q = 2 ∨ q = 3 := by omega
  rcases h with rfl | rfl | rfl | rfl
  · show _ = tb (b &&& (f ^^^ (-1))) k
    rw [tb_and, tb_not hk]; unfold kdI; cases tb f k <;> cases tb b k <;> decide
  · show _ = tb (f &&& (b ^^^ (-1))) k
    rw [tb_and, tb_not hk]; unfold kdI; cases tb f k <;> cases tb b k <;> decide
  · exact kd_bl hk
  · show _ = tb (f &&& b) k
    rw [tb_and]; unfold kdI; cases tb f k <;> cases tb b k <;> decide
theorem cu_kd {f b : Int64} {q : Nat} (hq : q < 4) : cuN f b (nI q) = pc (kdW f b q) := cnt_cong (fun k hk => kd_tb hk hq)
theorem cnt_or {p q r : Nat → Bool} : ∀ {n : Nat}, (∀ k, k < n → (p k = true → q k = true → False) ∧ r k = (p k || q k)) → cnt p n + cnt q n = cnt r n
  | 0, _ => rfl
  | n + 1, h => by
    have ih := cnt_or (p := p) (q := q) (r := r) (n := n) (fun k hk => h k (Nat.lt_succ_of_lt hk))
    obtain ⟨h1, h2⟩ := h n (Nat.lt_succ_self n)
    show cnt p n + (if p n = true then 1 else 0) + (cnt q n + (if q n = true then 1 else 0)) = cnt r n + (if r n = true then 1 else 0)
    rw [h2]
    cases hp : p n <;> cases hq : q n
    · simp; omega
    · simp; omega
    · simp; omega
    · exact (h1 hp hq).elim
theorem sd_kd {f b : Int64} (k : Nat) : tb (sdW f b) k = (decide (kdI f b k = 0) || decide (kdI f b k = 1)) := by
  unfold sdW kdI; rw [tb_xor]; cases tb f k <;> cases tb b k <;> decide
theorem svU_at {α : Type} {g : Nat → α} {st : Nat} : ∀ (n : Nat), n ≤ 3 → ∀ z, svU g st n z = if 3 + st ≤ z ∧ z < 3 + st + n then g (z - (3 + st)) else g z
  | 0, _, z => by rw [if_neg (by omega)]; rfl
  | n + 1, hn, z => by
    have ih := svU_at (g := g) (st := st) n (by omega)
    show va_up (svU g st n) (3 + (st + n)) (svU g st n n) z = _
    by_cases e : z = 3 + (st + n)
    · subst e
      rw [va_up_e, ih, if_neg (by omega), if_pos (by omega)]
      congr 1; omega
    · rw [va_up_n _ _ e, ih]
      by_cases h : 3 + st ≤ z ∧ z < 3 + st + n
      · rw [if_pos h, if_pos (by omega)]
      · rw [if_neg h, if_neg (by omega)]
theorem dcU_at {α : Type} {g : Nat → α} : ∀ (n z : Nat), dcU g n z = if 3 ≤ z ∧ z < 3 + n then g (z + 3) else g z
  | 0, z => by rw [if_neg (by omega)]; rfl
  | n + 1, z => by
    have ih := dcU_at (g := g) n
    show va_up (dcU g n) (3 + n) (dcU g n (3 + (n + 3))) z = _
    by_cases e : z = 3 + n
    · subst e
      rw [va_up_e, ih, if_neg (by omega), if_pos (by omega)]
      exact congrArg g (by omega)
    · rw [va_up_n _ _ e, ih]
      by_cases h : 3 ≤ z ∧ z < 3 + n
      · rw [if_pos h, if_pos (by omega)]
      · rw [if_neg h, if_neg (by omega)]
theorem rsU_at {α : Type} {g : Nat → α} {st : Nat} : ∀ (n : Nat), n ≤ 3 → ∀ z, rsU g st n z = if z < n then g (3 + (st + z)) else g z
  | 0, _, z => by rw [if_neg (by omega)]; rfl
  | n + 1, hn, z => by
    have ih := rsU_at (g := g) (st := st) n (by omega)
    show va_up (rsU g st n) n (rsU g st n (3 + (st + n))) z = _
    by_cases e : z = n
    · subst e
      rw [va_up_e, ih, if_neg (by omega), if_pos (by omega)]
    · rw [va_up_n _ _ e, ih]
      by_cases h : z < n
      · rw [if_pos h, if_pos (by omega)]
      · rw [if_neg h, if_neg (by omega)]
theorem or_same {w : Int64} {k : Nat} (hk : k < 64) (h : tb w k = true) : w ||| bitM k = w := by
  apply tb_ext
  intro j hj
  rw [tb_set hk hj]
  by_cases e : j = k
  · subst e; rw [h]; rfl
  · simp [e]
theorem clr_same {w : Int64} {k : Nat} (hk : k < 64) (h : tb w k = false) : w &&& (bitM k ^^^ (-1)) = w := by
  apply tb_ext
  intro j hj
  rw [tb_clr hk hj]
  by_cases e : j = k
  · subst e; rw [h]; rfl
  · simp [e]
theorem pbF_n {f : Int64} {k q j : Nat} (hk : k < 64) (hj : j < 64) (h : j ≠ k) : tb (pbF f k q) j = tb f j := by
  unfold pbF; split
  · rfl
  · rw [tb_set hk hj]; simp [h]
theorem pbB_n {b : Int64} {k q j : Nat} (hk : k < 64) (hj : j < 64) (h : j ≠ k) : tb (pbB b k q) j = tb b j := by
  unfold pbB; split
  · rw [tb_set hk hj]; simp [h]
  · rfl
theorem pr_at {f b : Int64} {r v : Nat} (hr : r < 8) : ∀ (n : Nat), n ≤ 7 → ∀ j, n ≤ j → j < 8 → tb (prF f r v n) (8 * r + j) = tb f (8 * r + j) ∧ tb (prB b r v n) (8 * r + j) = tb b (8 * r + j)
  | 0, _, j, _, _ => ⟨rfl, rfl⟩
  | n + 1, hn, j, h1, h2 => by
    have ih := pr_at (f := f) (b := b) (v := v) hr n (by omega) j (by omega) h2
    exact ⟨(pbF_n (by omega) (by omega) (by omega)).trans ih.1, (pbB_n (by omega) (by omega) (by omega)).trans ih.2⟩
theorem bl_fb {f b : Int64} {k : Nat} (hk : k < 64) (h : tb (blW f b) k = true) : tb f k = false ∧ tb b k = false := by
  rw [tb_bl hk] at h
  cases h1 : tb f k <;> cases h2 : tb b k <;> simp_all
theorem pk_at {ch f b : Int64} : ∀ (n : Nat), n ≤ 8 → ∀ j, n ≤ j → j < 8 → tb (pkF ch f n) (56 + j) = tb f (56 + j) ∧ tb (pkB ch b n) (56 + j) = tb b (56 + j)
  | 0, _, j, _, _ => ⟨rfl, rfl⟩
  | n + 1, hn, j, h1, h2 => by
    have ih := pk_at (ch := ch) (f := f) (b := b) n (by omega) j (by omega) h2
    exact ⟨(pbF_n (by omega) (by omega) (by omega)).trans ih.1, (pbB_n (by omega) (by omega) (by omega)).trans ih.2⟩
theorem cc_cp {f b : Int64} (h : ccB f b = true) : cpB f b 7 = true := by
  rw [← cc_all, Bool.and_eq_true] at h; exact h.1
theorem bl_cy {kn on : Int64} (h : okS (kn, on)) : blW on (kn &&& (on ^^^ (-1))) = kn ^^^ (-1) := by
  apply tb_ext
  intro j hj
  rw [tb_bl hj, tb_and, tb_not hj, tb_not hj]
  have h2 := h j hj
  cases h3 : tb on j
  · simp
  · rw [show tb kn j = true from h2 h3]; rfl
