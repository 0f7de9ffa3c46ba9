/-! the reference's telling, by the same two words -/
theorem tb_line {line k : Nat} (hl : line < 16) (hk : k < 64) : tb (lineM line) k = (if line < 8 then decide (k / 8 = line) else decide (k % 8 = line - 8)) := by
  unfold lineM
  by_cases h : line < 8
  · rw [if_pos h, if_pos h, tb_row line h k hk]
  · rw [if_neg h, if_neg h, tb_col (line - 8) (by omega) k hk]
theorem in_line {line p : Nat} (hl : line < 16) (hp : p < 64) : tb (lineM line) p = true ↔ ∃ j, j < 8 ∧ lcN line j = p := by
  rw [tb_line hl hp]
  unfold lcN
  by_cases h : line < 8
  · simp only [h, if_true, decide_eq_true_eq]
    constructor
    · intro e; exact ⟨p % 8, by omega, by omega⟩
    · rintro ⟨j, hj, e⟩; omega
  · simp only [h, if_false, decide_eq_true_eq]
    constructor
    · intro e; exact ⟨p / 8, by omega, by omega⟩
    · rintro ⟨j, hj, e⟩; omega
theorem lcN_inj {line i j : Nat} (hi : i < 8) (hj : j < 8) (h : lcN line i = lcN line j) : i = j := by
  unfold lcN at h; split at h <;> omega
def tlB (B : Nat → Int32) (line : Nat) (par : Int32) : Nat → (Nat → Int32)
  | 0 => B
  | k + 1 => upd (tlB B line par k) (lcN line k) (if tlB B line par k (lcN line k) = -1 then par else tlB B line par k (lcN line k))
theorem tlB_at {B : Nat → Int32} {line : Nat} {par : Int32} : ∀ (n : Nat), n ≤ 8 → ∀ p, tlB B line par n p = if (∃ j, j < n ∧ lcN line j = p) ∧ B p = -1 then par else B p
  | 0, _, p => by rw [if_neg (by rintro ⟨⟨j, hj, -⟩, -⟩; omega)]; rfl
  | n + 1, hn, p => by
    have ih := tlB_at (B := B) (line := line) (par := par) n (by omega)
    by_cases e : p = lcN line n
    · have h0 : tlB B line par n p = B p := by
        rw [ih p, if_neg]
        rintro ⟨⟨j, hj, he⟩, -⟩
        exact absurd (lcN_inj (by omega) (by omega) (he.trans e)) (by omega)
      show upd _ _ _ p = _
      rw [show upd (tlB B line par n) (lcN line n) (if tlB B line par n (lcN line n) = -1 then par else tlB B line par n (lcN line n)) p = (if tlB B line par n (lcN line n) = -1 then par else tlB B line par n (lcN line n)) from if_pos e, ← e, h0]
      by_cases hb : B p = -1
      · rw [if_pos hb, if_pos ⟨⟨n, by omega, e.symm⟩, hb⟩]
      · rw [if_neg hb, if_neg (fun h => hb h.2)]
    · show upd _ _ _ p = _
      rw [show upd (tlB B line par n) (lcN line n) (if tlB B line par n (lcN line n) = -1 then par else tlB B line par n (lcN line n)) p = tlB B line par n p from if_neg e, ih p]
      by_cases hb : B p = -1
      · by_cases hx : ∃ j, j < n ∧ lcN line j = p
        · obtain ⟨j, hj, he⟩ := hx
          rw [if_pos ⟨⟨j, hj, he⟩, hb⟩, if_pos ⟨⟨j, by omega, he⟩, hb⟩]
        · rw [if_neg (fun h => hx h.1), if_neg]
          rintro ⟨⟨j, hj, he⟩, -⟩
          rcases Nat.lt_or_ge j n with h | h
          · exact hx ⟨j, h, he⟩
          · have : j = n := by omega
            subst this; exact e he.symm
      · rw [if_neg (fun h => hb h.2), if_neg (fun h => hb h.2)]
theorem tb_ms {w kn : Int64} {k : Nat} (hk : k < 64) : tb (msW w kn) k = (tb w k && !tb kn k) := by unfold msW; rw [tb_and, tb_not hk]
theorem tlB_bi {kn on : Int64} {line : Nat} (hl : line < 16) (hok : ∀ k, k < 64 → tb on k = true → tb kn k = true) (h1 : pc (msW (lineM line) kn) = 1) : ∀ p, p < 64 → tlB (biF kn on) line (nI (pc (lineM line &&& on) % 2)) 8 p = biF (tlK (lineM line) kn) (tlO (lineM line) kn on) p := by
  intro p hp
  rw [tlB_at 8 (Nat.le_refl _) p]
  have hin := in_line (line := line) hl hp
  have hm := tb_ms (w := lineM line) (kn := kn) hp
  have hk := hok p hp
  have hK : tb (tlK (lineM line) kn) p = (tb kn p || tb (msW (lineM line) kn) p) := by unfold tlK; rw [if_pos h1, tb_or]
  have hO : tb (tlO (lineM line) kn on) p = (tb on p || (od (lineM line &&& on) && tb (msW (lineM line) kn) p)) := by
    unfold tlO; rw [if_pos h1]
    cases h : od (lineM line &&& on)
    · simp
    · simp [tb_or]
  unfold biF biI
  rw [hK, hO, hm]
  cases hkn : tb kn p
  · have hon : tb on p = false := by
      cases h : tb on p
      · rfl
      · rw [hk h] at hkn; exact absurd hkn (by decide)
    rw [hon]
    cases hw : tb (lineM line) p
    · rw [if_neg]
      · simp
      · rintro ⟨h, -⟩; rw [← hin, hw] at h; exact absurd h (by decide)
    · rw [if_pos ⟨hin.mp hw, by simp⟩]
      unfold od
      rcases Nat.mod_two_eq_zero_or_one (pc (lineM line &&& on)) with h | h
      · simp [h]; rfl
      · simp [h]; rfl
  · rw [if_neg]
    · simp
    · rintro ⟨-, h⟩
      revert h
      cases tb on p <;> decide
def tiB (B g : Nat → Int32) : Nat → (Nat → Int32)
  | 0 => B
  | k + 1 => upd (tiB B g k) k (g k)
theorem tiB_at {B g : Nat → Int32} : ∀ (n p : Nat), tiB B g n p = if p < n then g p else B p
  | 0, p => by rw [if_neg (by omega)]; rfl
  | n + 1, p => by
    by_cases e : p = n
    · subst e; rw [if_pos (by omega)]; exact if_pos rfl
    · show upd _ _ _ p = _
      rw [show upd (tiB B g n) n (g n) p = tiB B g n p from if_neg e, tiB_at n p]
      by_cases h : p < n
      · rw [if_pos h, if_pos (by omega)]
      · rw [if_neg h, if_neg (by omega)]
def tiG (f b : Int64) (but : Int32) (k : Nat) : Int32 := if kdI f b k < 2 ∧ ¬ nI k = but then kdI f b k else -1
theorem tiG_y {f b : Int64} {but : Int32} {k : Nat} (h1 : kdI f b k < 2) (h2 : ¬ nI k = but) : tiG f b but k = kdI f b k := if_pos ⟨h1, h2⟩
theorem tiG_n1 {f b : Int64} {but : Int32} {k : Nat} (h1 : ¬ kdI f b k < 2) : tiG f b but k = -1 := if_neg (fun h => h1 h.1)
theorem tiG_n2 {f b : Int64} {but : Int32} {k : Nat} (h1 : nI k = but) : tiG f b but k = -1 := if_neg (fun h => h.2 h1)
theorem kd_cases (f b : Int64) (k : Nat) : kdI f b k = if tb f k then (if tb b k then 3 else 1) else (if tb b k then 0 else 2) := rfl
theorem nI_nm1 {k : Nat} (hk : k < 64) : ¬ nI k = -1 := by
  intro h
  have h2 := congrArg Int32.toInt h
  rw [nI_toInt (by omega)] at h2
  exact absurd h2 (by show ¬ (k : Int) = -1; omega)
theorem ti_none {f b : Int64} : ∀ k, k < 64 → tiG f b (-1) k = biI (sdW f b) (onW f b) k := by
  intro k hk
  unfold tiG biI sdW onW kdI
  rw [tb_xor, tb_and, tb_not hk]
  have := nI_nm1 hk
  cases tb f k <;> cases tb b k <;> simp [this] <;> decide
theorem ti_but {f b : Int64} {j : Nat} (hj : j < 64) : ∀ k, k < 64 → tiG f b (nI j) k = biI (lfW f b j) (onW f b &&& lfW f b j) k := by
  intro k hk
  unfold tiG biI lfW sdW onW kdI
  simp only [tb_and, tb_xor, tb_not hk, tb_bit j hj k hk]
  by_cases e : k = j
  · subst e; simp
  · have h2 : ¬ nI k = nI j := fun h => e ((nI_eq (by omega) (by omega)).mp h)
    have h3 := tb_m1 k hk
    cases h4 : tb f k <;> cases h5 : tb b k <;> simp [h2, e, h3] <;> decide
def okS (s : Int64 × Int64) : Prop := ∀ k, k < 64 → tb s.2 k = true → tb s.1 k = true
theorem ok_tl {w : Int64} {s : Int64 × Int64} (h : okS s) : okS (tl w s) := by
  intro k hk h2
  have h0 := h k hk
  simp only [tl, tlO, tlK] at h2 ⊢
  by_cases h1 : pc (msW w s.1) = 1
  · rw [if_pos h1] at h2 ⊢
    rw [tb_or]
    cases hod : od (w &&& s.2)
    · rw [hod] at h2
      rw [h0 (by simpa using h2), Bool.true_or]
    · rw [hod, if_pos rfl, tb_or, Bool.or_eq_true] at h2
      rcases h2 with h2 | h2
      · rw [h0 h2, Bool.true_or]
      · rw [h2, Bool.or_true]
  · rw [if_neg h1] at h2 ⊢
    exact h0 h2
def lnS (s : Int64 × Int64) : Nat → Int64 × Int64
  | 0 => s
  | j + 1 => tl (lineM j) (lnS s j)
theorem lnS_rd (s : Int64 × Int64) : lnS s 16 = rd s := rfl
theorem ok_lnS {s : Int64 × Int64} (h : okS s) : ∀ j, okS (lnS s j)
  | 0 => h
  | j + 1 => ok_tl (ok_lnS h j)
theorem ok_rdn {s : Int64 × Int64} (h : okS s) : ∀ r, okS (rdn s r)
  | 0 => h
  | r + 1 => by
    show okS (rd (rdn s r))
    rw [← lnS_rd]
    exact ok_lnS (ok_rdn h r) 16
theorem lnS_ge (s : Int64 × Int64) (k : Nat) (h : tb s.1 k = true) : ∀ j, tb (lnS s j).1 k = true
  | 0 => h
  | j + 1 => tl_ge _ _ k (lnS_ge s k h j)
theorem tl_told {w : Int64} {s : Int64 × Int64} (h : pc (msW w s.1) = 1) : ¬ (tl w s).1 = s.1 := by
  intro h2
  have h3 : s.1 ||| msW w s.1 = s.1 := by simpa [tl, tlK, h] using h2
  rw [or_grow h3 ms_off, pc_0] at h
  exact absurd h (by decide)
theorem goes_step (s : Int64 × Int64) (j : Nat) : decide (¬ (lnS s (j + 1)).1 = s.1) = (decide (pc (msW (lineM j) (lnS s j).1) = 1) || decide (¬ (lnS s j).1 = s.1)) := by
  by_cases h : pc (msW (lineM j) (lnS s j).1) = 1
  · have h1 : ¬ (lnS s (j + 1)).1 = s.1 := by
      intro h2
      have h3 : (lnS s j).1 = s.1 := le_anti (fun k hk => lnS_ge s k hk j) (fun k hk => tl_ge (lineM j) _ k hk) h2
      exact tl_told h ((show (tl (lineM j) (lnS s j)).1 = s.1 from h2).trans h3.symm)
    simp [h, h1]
  · have h1 : (lnS s (j + 1)).1 = (lnS s j).1 := by
      show tlK (lineM j) (lnS s j).1 = _
      unfold tlK; rw [if_neg h]
    rw [h1]; simp [h]
theorem cnt_mono {p q : Nat → Bool} (h : ∀ k, p k = true → q k = true) : ∀ n, cnt p n ≤ cnt q n
  | 0 => Nat.le_refl _
  | n + 1 => by
    have := cnt_mono h n
    unfold cnt
    cases hp : p n
    · simp only [Bool.false_eq_true, if_false]; split <;> omega
    · rw [h n hp]; simp only [if_true]; omega
theorem cnt_strict {p q : Nat → Bool} (h : ∀ k, p k = true → q k = true) {j : Nat} (h1 : p j = false) (h2 : q j = true) : ∀ {n : Nat}, j < n → cnt p n < cnt q n
  | 0, hj => absurd hj (Nat.not_lt_zero _)
  | n + 1, hj => by
    by_cases e : j = n
    · subst e
      have := cnt_mono h j
      unfold cnt; rw [h1, h2]; simp only [Bool.false_eq_true, if_false, if_true]; omega
    · have := cnt_strict h h1 h2 (n := n) (by omega)
      unfold cnt
      cases hp : p n
      · simp only [Bool.false_eq_true, if_false]; split <;> omega
      · rw [h n hp]; simp only [if_true]; omega
theorem pc_grow {a b : Int64} (h : ∀ k, tb a k = true → tb b k = true) (hne : ¬ b = a) : pc a < pc b := by
  have h1 : ∃ j, j < 64 ∧ tb a j = false ∧ tb b j = true := by
    refine Classical.byContradiction fun hn => hne ?_
    apply tb_ext
    intro k hk
    cases ha : tb a k
    · cases hb : tb b k
      · rfl
      · exact absurd ⟨k, hk, ha, hb⟩ hn
    · exact h k ha
  obtain ⟨j, hj, h2, h3⟩ := h1
  exact cnt_strict h h2 h3 hj
theorem rd_ge (s : Int64 × Int64) (k : Nat) (h : tb s.1 k = true) : tb (rd s).1 k = true := by rw [← lnS_rd]; exact lnS_ge s k h 16
/-- whether the reference goes on after r rounds -/
def goB (s : Int64 × Int64) : Nat → Bool
  | 0 => true
  | r + 1 => decide (¬ (rdn s (r + 1)).1 = (rdn s r).1)
theorem go_up {s : Int64 × Int64} {r : Nat} (h1 : goB s (r + 1) = true) (h0 : r ≤ pc (rdn s r).1) : r + 1 ≤ pc (rdn s (r + 1)).1 := by
  have h2 : ¬ (rdn s (r + 1)).1 = (rdn s r).1 := by simpa [goB] using h1
  have := pc_grow (fun k hk => rd_ge (rdn s r) k hk) h2
  have e : pc (rdn s (r + 1)).1 = pc (rd (rdn s r)).1 := rfl
  omega
theorem go_fa {sd so : Int64} {r : Nat} (h : goB (sd, so) r = false) (hr : r ≤ 65) : rdn (sd, so) r = fa sd so := by
  cases r with
  | zero => exact absurd h (by show ¬ true = false; decide)
  | succ r =>
    have h2 : (rdn (sd, so) (r + 1)).1 = (rdn (sd, so) r).1 := by simpa [goB] using h
    exact fa_stop h2 (by omega)
theorem un_pc (kn on : Int64) : cnt (fun k => decide (biF kn on k = -1)) 64 = pc (kn ^^^ (-1)) := by
  unfold pc
  apply cnt_cong
  intro k hk
  rw [tb_not hk]
  unfold biF biI
  cases tb kn k <;> cases tb on k <;> decide
theorem pc_eq0 {w : Int64} : pc w = 0 ↔ w = 0 := by
  constructor
  · intro h
    apply tb_ext
    intro k hk
    rw [tb_0]
    cases hw : tb w k
    · rfl
    · have h1 := cnt_strict (p := fun _ => false) (q := tb w) (fun _ h => absurd h (by decide)) rfl hw hk
      have h2 : cnt (tb w) 64 = 0 := h
      omega
  · rintro rfl; exact pc_0
theorem dgM {kn on : Int64} {line : Nat} : (decide (pc (msW (lineM line) kn) = 0) && decide (pc (lineM line &&& on) % 2 = 1)) = dgB kn on line := by
  unfold dgB od
  congr 1
  exact decide_eq_decide.mpr pc_eq0
theorem dlS_lt {P : Nat → Bool} {idx : Nat} : ∀ {n j : Nat}, dlS P idx n = some j → j < n
  | 0, j, h => by simp [dlS] at h
  | n + 1, j, h => by
    unfold dlS at h
    cases h0 : dlS P idx n with
    | some i => rw [h0] at h; simp at h; have := dlS_lt h0; omega
    | none => rw [h0] at h; simp at h; omega
theorem dlS_none {P : Nat → Bool} {idx : Nat} : ∀ n, dlS P idx n = none ↔ cnt P n ≤ idx
  | 0 => by simp [dlS, cnt]
  | n + 1 => by
    have ih := dlS_none (P := P) (idx := idx) n
    rw [show cnt P (n + 1) = cnt P n + (if P n = true then 1 else 0) from rfl]
    unfold dlS
    cases h0 : dlS P idx n with
    | some i =>
      rw [h0] at ih
      have : ¬ cnt P n ≤ idx := fun h => by have := ih.mpr h; cases this
      simp only [reduceCtorEq, false_iff]
      split <;> omega
    | none =>
      rw [h0] at ih
      have h1 : cnt P n ≤ idx := ih.mp rfl
      cases hp : P n
      · simp; exact h1
      · by_cases e : cnt P n = idx
        · simp [e]
        · simp [e]; omega
theorem dlI_m1 {P : Nat → Bool} {idx : Nat} : dlI P idx = -1 ↔ cnt P 16 ≤ idx := by
  rw [← dlS_none 16]
  unfold dlI
  cases h : dlS P idx 16 with
  | none => simp
  | some j =>
    have := dlS_lt h
    have h2 := nI_nm1 (k := j) (by omega)
    simp [h2]
set_option maxHeartbeats 4000000 in
set_option maxRecDepth 100000 in
theorem c_X5_tellsLine (l : Launch) (D : va_G) (cy : Nat → ClassId) (am : Nat → Nat) (mf : Nat → Int64) (mb : Nat → Int64) (mv : Nat → Nat) (kn : Int64) (on : Int64) (th : Int32) (sv : Nat) (X : Nat → Int32) (ln : Nat) (ap : Nat) (le : Nat) (fc : Nat) (f1 : Int32) (f2 : Int32) (ha : Int64) (R : va_W) (line : Nat) (h1 : line < 16) (hok : ∀ k, k < 64 → tb on k = true → tb kn k = true) : GE l D (gts cy) yX5_tellsLine cX5_tellsLine 5 (some .boolean) 2 0 0 [.ref (am 0), .int (nI line)] (wM am cy th (cS mf mb mv) sv X ln ap le fc f1 f2 (biF kn on) ha R) (gF (some (.int (bI (decide (pc (msW (lineM line) kn) = 1))))) (wM am cy th (cS mf mb mv) sv X ln ap le fc f1 f2 (biF (tlK (lineM line) kn) (tlO (lineM line) kn on)) ha R)) := by
  refine g_intro (by decide +kernel) (lv := [(0, .ref (am 0)), (1, .int (nI line))]) rfl (Nat.le_of_ble_eq_true rfl) ?_
  intro p e s m below meth c C0 G ls hl
  have hx := C0.1
  have hb := C0.2.1
  have hown := C0.2.2.2.2.2.1
  have hts := C0.2.2.2.2.2.2.1
  have hpl := pc_le (msW (lineM line) kn)
  refine lv_aload_n hx hb dX5_tellsLine_0 rfl (lv_at hl 0 rfl) ?_
  refine lv_iload_n hx hb dX5_tellsLine_1 rfl (lv_at hl 1 rfl) ?_
  refine g_callV (As := [.int (nI line)]) (rest := []) (q0 := 0) C0 G (c_X5_missing l D cy (am := am) (mf := mf) (mb := mb) (mv := mv) (kn := kn) (on := on) (th := th) (sv := sv) (X := X) (ln := ln) (ap := ap) (le := le) (fc := fc) (f1 := f1) (f2 := f2) (ha := ha) (R := R) (line := line) (by omega)) k_X5_missing ml_X5_60 rfl rfl dX5_tellsLine_2 rfl rfl hl.1 (Nat.le_of_ble_eq_true rfl) ⟨Nat.le_of_ble_eq_true rfl, Nat.le_of_ble_eq_true rfl⟩ ⟨Nat.le_of_ble_eq_true rfl, Nat.le_of_ble_eq_true rfl⟩ (fun r W2 H locs hp G => ?_)
  obtain ⟨rfl, hw⟩ := hp
  have G := g_wc hw G
  refine W.eq (g2 := F0 m 5 ls [.int (nI (pc (msW (lineM line) kn)))]) rfl ?_
  refine lv_iconst (v := 1) hx hb dX5_tellsLine_5 (by decide) ?_
  refine lv_icmp_eq (tgt := 11) hx hb dX5_tellsLine_6 (by decide) (fun c_6 => ?_) (fun c_6 => ?_)
  · skip
    have c_6 : (pc (msW (lineM line) kn)) = 1 := (nI_eq (a := pc (msW (lineM line) kn)) (b := 1) (by omega) (by omega)).mp c_6
    refine lv_aload_n hx hb dX5_tellsLine_11 rfl (lv_at hl 0 rfl) ?_
    refine lv_iload_n hx hb dX5_tellsLine_12 rfl (lv_at hl 1 rfl) ?_
    refine g_callV (As := [.int (nI line)]) (rest := []) (q0 := 0) C0 G (c_X5_parity l D cy (am := am) (mf := mf) (mb := mb) (mv := mv) (kn := kn) (on := on) (th := th) (sv := sv) (X := X) (ln := ln) (ap := ap) (le := le) (fc := fc) (f1 := f1) (f2 := f2) (ha := ha) (R := R) (line := line) (by omega) hok) k_X5_parity ml_X5_63 rfl rfl dX5_tellsLine_13 rfl rfl hl.1 (Nat.le_of_ble_eq_true rfl) ⟨Nat.le_of_ble_eq_true rfl, Nat.le_of_ble_eq_true rfl⟩ ⟨Nat.le_of_ble_eq_true rfl, Nat.le_of_ble_eq_true rfl⟩ (fun r W2 H locs hp G => ?_)
    obtain ⟨rfl, hw⟩ := hp
    have G := g_wc hw G
    refine W.eq (g2 := F0 m 16 ls [.int (nI (pc (lineM line &&& on) % 2))]) rfl ?_
    refine lv_istore_n (lv' := [(2, .int (nI (pc (lineM line &&& on) % 2))), (0, .ref (am 0)), (1, .int (nI line))]) hx hb dX5_tellsLine_16 rfl hl (by decide) rfl (fun ls hl => ?_)
    refine lv_iconst (v := 0) hx hb dX5_tellsLine_17 (by decide) ?_
    refine lv_istore_n (lv' := [(3, .int 0), (2, .int (nI (pc (lineM line &&& on) % 2))), (0, .ref (am 0)), (1, .int (nI line))]) hx hb dX5_tellsLine_18 rfl hl (by decide) rfl (fun ls hl => ?_)
    have hl := lv_sub hl (l' := [(0, .ref (am 0)), (1, .int (nI line)), (2, .int (nI (pc (lineM line &&& on) % 2))), (3, .int 0)]) [2, 3, 1, 0] rfl
    refine g_loop (σ := Nat) (fun i => 8 - i) (fun i => wM am cy th (cS mf mb mv) sv X ln ap le fc f1 f2 (tlB (biF kn on) line (nI (pc (lineM line &&& on) % 2)) i) ha R) (fun i => [(0, .ref (am 0)), (1, .int (nI line)), (2, .int (nI (pc (lineM line &&& on) % 2))), (3, .int (nI i))]) (fun i => i ≤ 8) ?_ 0 (by show _ ≤ _; omega) G hl
    intro i hi_19 ih_19 H locs ls G hl
    have G : gW D (wM am cy th (cS mf mb mv) sv X ln ap le fc f1 f2 (tlB (biF kn on) line (nI (pc (lineM line &&& on) % 2)) i) ha R) (va_A (wM am cy th (cS mf mb mv) sv X ln ap le fc f1 f2 (biF kn on) ha R) s.heap.size) s H locs := G
    have hl : lv_has ls 5 [(0, .ref (am 0)), (1, .int (nI line)), (2, .int (nI (pc (lineM line &&& on) % 2))), (3, .int (nI i))] := hl
    refine lv_iload_n hx hb dX5_tellsLine_19 rfl (lv_at hl 3 rfl) ?_
    refine lv_bipush (v := 8) hx hb dX5_tellsLine_20 (by decide) ?_
    refine lv_icmp_ge (tgt := 67) hx hb dX5_tellsLine_22 (by decide) (fun c_22 => ?_) (fun c_22 => ?_)
    · skip
      have c_22 : 8 ≤ i := (nI_leI (a := 8) (b := i) (by omega) (by omega)).mp c_22
      obtain rfl : i = 8 := by omega
      have G : gW D (wM am cy th (cS mf mb mv) sv X ln ap le fc f1 f2 (tlB (biF kn on) line (nI (pc (lineM line &&& on) % 2)) 8) ha R) (va_A (wM am cy th (cS mf mb mv) sv X ln ap le fc f1 f2 (biF kn on) ha R) s.heap.size) s _ _ := G
      have hl : lv_has ls 5 [(0, .ref (am 0)), (1, .int (nI line)), (2, .int (nI (pc (lineM line &&& on) % 2))), (3, .int (nI 8))] := hl
      have G : gW D (wM am cy th (cS mf mb mv) sv X ln ap le fc f1 f2 (biF (tlK (lineM line) kn) (tlO (lineM line) kn on)) ha R) (va_A (wM am cy th (cS mf mb mv) sv X ln ap le fc f1 f2 (biF kn on) ha R) s.heap.size) s H locs := wM_B (fun p hp => tlB_bi h1 hok c_6 p hp) G
      refine lv_iconst (v := 1) hx hb dX5_tellsLine_67 (by decide) ?_
      exact g_zret C0 G rfl ⟨by first | rfl | (exfalso; omega) | (simp only [bI, c_6, c_22, Bool.false_eq_true, ↓reduceIte, eq_self, decide_true, decide_false, not_true_eq_false, not_false_eq_true, Bool.true_and, Bool.false_and, Bool.and_true, Bool.and_false]; done) | (simp [bI, c_6, c_22]; done) | (simp [bI, c_6, c_22]; rfl) | (simp [bI, c_6, c_22]; omega), by first | rfl | (rw [show tlK (lineM line) kn = kn from if_neg c_6, show tlO (lineM line) kn on = on from if_neg c_6])⟩ dX5_tellsLine_68
    · skip
      have c_22 : ¬ (8 ≤ i) := fun h => c_22 ((nI_leI (a := 8) (b := i) (by omega) (by omega)).mpr h)
      have hlc := lcN_lt h1 (show i < 8 by omega)
      refine lv_iload_n hx hb dX5_tellsLine_25 rfl (lv_at hl 1 rfl) ?_
      refine lv_iload_n hx hb dX5_tellsLine_26 rfl (lv_at hl 3 rfl) ?_
      refine g_callS (As := [.int (nI line), .int (nI i)]) (rest := []) C0 G (c_X5_lineCell l D cy (W1 := wM am cy th (cS mf mb mv) sv X ln ap le fc f1 f2 (tlB (biF kn on) line (nI (pc (lineM line &&& on) % 2)) i) ha R) (line := line) (k := i) (by omega) (by omega)) k_X5_lineCell ml_X5_57 dX5_tellsLine_27 rfl rfl hl.1 (Nat.le_of_ble_eq_true rfl) ⟨Nat.le_of_ble_eq_true rfl, Nat.le_of_ble_eq_true rfl⟩ ⟨Nat.le_of_ble_eq_true rfl, Nat.le_of_ble_eq_true rfl⟩ (fun r W2 H locs hp G => ?_)
      obtain ⟨rfl, hw⟩ := hp
      have G := g_wc hw G
      refine W.eq (g2 := F0 m 30 ls [.int (nI (lcN line i))]) rfl ?_
      refine lv_istore (lv' := [(4, .int (nI (lcN line i))), (0, .ref (am 0)), (1, .int (nI line)), (2, .int (nI (pc (lineM line &&& on) % 2))), (3, .int (nI i))]) hx hb dX5_tellsLine_30 hl (by decide) rfl (fun ls hl => ?_)
      refine lv_aload_n hx hb dX5_tellsLine_32 rfl (lv_at hl 1 rfl) ?_
      refine g_get (q0 := 0) (v := .ref (am 3)) C0 G in_X5 rfl rfl 10 (by decide) fl_X5_16 (fun _ h => h) rfl dX5_tellsLine_33 ?_
      refine lv_iload hx hb dX5_tellsLine_36 (lv_at hl 0 rfl) ?_
      refine lv_aload_n hx hb dX5_tellsLine_38 rfl (lv_at hl 1 rfl) ?_
      refine g_get (q0 := 0) (v := .ref (am 3)) C0 G in_X5 rfl rfl 10 (by decide) fl_X5_16 (fun _ h => h) rfl dX5_tellsLine_39 ?_
      refine lv_iload hx hb dX5_tellsLine_42 (lv_at hl 0 rfl) ?_
      refine g_iald (q0 := 3) (n := 64) C0 G rfl 1 rfl (vp_in_nI (n := lcN line i) (by omega) (by decide)) dX5_tellsLine_44 ?_
      refine g_topi (x' := tlB (biF kn on) line (nI (pc (lineM line &&& on) % 2)) i (lcN line i)) (congrArg (tlB (biF kn on) line (nI (pc (lineM line &&& on) % 2)) i) (nI_clamp (n := lcN line i) (by omega))) ?_
      refine lv_iconst (v := (-1)) hx hb dX5_tellsLine_45 (by decide) ?_
      refine lv_icmp_ne (tgt := 53) hx hb dX5_tellsLine_46 (by decide) (fun c_46 => ?_) (fun c_46 => ?_)
      · skip
        refine lv_aload_n hx hb dX5_tellsLine_53 rfl (lv_at hl 1 rfl) ?_
        refine g_get (q0 := 0) (v := .ref (am 3)) C0 G in_X5 rfl rfl 10 (by decide) fl_X5_16 (fun _ h => h) rfl dX5_tellsLine_54 ?_
        refine lv_iload hx hb dX5_tellsLine_57 (lv_at hl 0 rfl) ?_
        refine g_iald (q0 := 3) (n := 64) C0 G rfl 1 rfl (vp_in_nI (n := lcN line i) (by omega) (by decide)) dX5_tellsLine_59 ?_
        refine g_topi (x' := tlB (biF kn on) line (nI (pc (lineM line &&& on) % 2)) i (lcN line i)) (congrArg (tlB (biF kn on) line (nI (pc (lineM line &&& on) % 2)) i) (nI_clamp (n := lcN line i) (by omega))) ?_
        refine g_iast (q0 := 3) (n := 64) (W2 := wM am cy th (cS mf mb mv) sv X ln ap le fc f1 f2 (upd (tlB (biF kn on) line (nI (pc (lineM line &&& on) % 2)) i) (lcN line i) (tlB (biF kn on) line (nI (pc (lineM line &&& on) % 2)) i (lcN line i))) ha R) C0 G rfl 1 rfl (vp_in_nI (n := lcN line i) (by omega) (by decide)) (by rw [nI_clamp (n := lcN line i) (by omega)]; rfl) dX5_tellsLine_60 (fun H locs G => ?_)
        refine lv_iinc (v := nI (i + 1)) (lv' := [(3, .int (nI (i + 1))), (4, .int (nI (lcN line i))), (0, .ref (am 0)), (1, .int (nI line)), (2, .int (nI (pc (lineM line &&& on) % 2)))]) hx hb dX5_tellsLine_61 hl (k := 4) rfl (nI_add i 1) (by decide) rfl (fun ls hl => ?_)
        refine lv_goto (tgt := 19) hx hb dX5_tellsLine_64 (by decide) ?_
        have hl := lv_sub hl (l' := _) [2, 3, 4, 0] rfl
        exact ih_19 (i + 1) (by show _ ≤ _; omega) (by show _ < _; omega) _ _ _ (g_wc (by simp only [tlB, c_46, if_true, if_false]) G) hl
      · skip
        refine lv_iload_n hx hb dX5_tellsLine_49 rfl (lv_at hl 3 rfl) ?_
        refine lv_goto (tgt := 60) hx hb dX5_tellsLine_50 (by decide) ?_
        refine g_iast (q0 := 3) (n := 64) (W2 := wM am cy th (cS mf mb mv) sv X ln ap le fc f1 f2 (upd (tlB (biF kn on) line (nI (pc (lineM line &&& on) % 2)) i) (lcN line i) (nI (pc (lineM line &&& on) % 2))) ha R) C0 G rfl 1 rfl (vp_in_nI (n := lcN line i) (by omega) (by decide)) (by rw [nI_clamp (n := lcN line i) (by omega)]; rfl) dX5_tellsLine_60 (fun H locs G => ?_)
        refine lv_iinc (v := nI (i + 1)) (lv' := [(3, .int (nI (i + 1))), (4, .int (nI (lcN line i))), (0, .ref (am 0)), (1, .int (nI line)), (2, .int (nI (pc (lineM line &&& on) % 2)))]) hx hb dX5_tellsLine_61 hl (k := 4) rfl (nI_add i 1) (by decide) rfl (fun ls hl => ?_)
        refine lv_goto (tgt := 19) hx hb dX5_tellsLine_64 (by decide) ?_
        have hl := lv_sub hl (l' := _) [2, 3, 4, 0] rfl
        exact ih_19 (i + 1) (by show _ ≤ _; omega) (by show _ < _; omega) _ _ _ (g_wc (by simp only [tlB, c_46, if_true, if_false]) G) hl
  · skip
    have c_6 : ¬ ((pc (msW (lineM line) kn)) = 1) := fun h => c_6 ((nI_eq (a := pc (msW (lineM line) kn)) (b := 1) (by omega) (by omega)).mpr h)
    refine lv_iconst (v := 0) hx hb dX5_tellsLine_9 (by decide) ?_
    exact g_zret C0 G rfl ⟨by first | rfl | (exfalso; omega) | (simp only [bI, c_6, Bool.false_eq_true, ↓reduceIte, eq_self, decide_true, decide_false, not_true_eq_false, not_false_eq_true, Bool.true_and, Bool.false_and, Bool.and_true, Bool.and_false]; done) | (simp [bI, c_6]; done) | (simp [bI, c_6]; rfl) | (simp [bI, c_6]; omega), by first | rfl | (rw [show tlK (lineM line) kn = kn from if_neg c_6, show tlO (lineM line) kn on = on from if_neg c_6])⟩ dX5_tellsLine_10

set_option maxHeartbeats 4000000 in
set_option maxRecDepth 100000 in
theorem c_X5_tells (l : Launch) (D : va_G) (cy : Nat → ClassId) (am : Nat → Nat) (mf : Nat → Int64) (mb : Nat → Int64) (mv : Nat → Nat) (kn : Int64) (on : Int64) (th : Int32) (sv : Nat) (X : Nat → Int32) (ln : Nat) (ap : Nat) (le : Nat) (fc : Nat) (f1 : Int32) (f2 : Int32) (ha : Int64) (R : va_W) (z : Nat) (but : Int32) (sd : Int64) (so : Int64) (h1 : z < 21) (hini : ∀ k, k < 64 → tiG (mf z) (mb z) but k = biI sd so k) (hok : okS (sd, so)) : GE l D (gts cy) yX5_tells cX5_tells 6 (some .int) 3 0 0 [.ref (am 0), .int (nI z), .int but] (wM am cy th (cS mf mb mv) sv X ln ap le fc f1 f2 (biF kn on) ha R) (gF (some (.int (nI (pc ((fa sd so).1 ^^^ (-1)))))) (wM am cy th (cS mf mb mv) sv X ln ap le fc f1 f2 (biF ((fa sd so).1) ((fa sd so).2)) ha R)) := by
  refine g_intro (by decide +kernel) (lv := [(0, .ref (am 0)), (1, .int (nI z)), (2, .int but)]) rfl (Nat.le_of_ble_eq_true rfl) ?_
  intro p e s m below meth c C0 G ls hl
  have hx := C0.1
  have hb := C0.2.1
  have hown := C0.2.2.2.2.2.1
  have hts := C0.2.2.2.2.2.2.1
  refine lv_iconst (v := 0) hx hb dX5_tells_0 (by decide) ?_
  refine lv_istore_n (lv' := [(3, .int 0), (0, .ref (am 0)), (1, .int (nI z)), (2, .int but)]) hx hb dX5_tells_1 rfl hl (by decide) rfl (fun ls hl => ?_)
  have hl := lv_sub hl (l' := [(0, .ref (am 0)), (1, .int (nI z)), (2, .int but), (3, .int 0)]) [1, 2, 3, 0] rfl
  refine g_loop (σ := Nat) (fun i => 64 - i) (fun i => wM am cy th (cS mf mb mv) sv X ln ap le fc f1 f2 (tiB (biF kn on) (tiG (mf z) (mb z) but) i) ha R) (fun i => [(0, .ref (am 0)), (1, .int (nI z)), (2, .int but), (3, .int (nI i))]) (fun i => i ≤ 64) ?_ 0 (by show _ ≤ _; omega) G hl
  intro i hi_2 ih_2 H locs ls G hl
  have G : gW D (wM am cy th (cS mf mb mv) sv X ln ap le fc f1 f2 (tiB (biF kn on) (tiG (mf z) (mb z) but) i) ha R) (va_A (wM am cy th (cS mf mb mv) sv X ln ap le fc f1 f2 (biF kn on) ha R) s.heap.size) s H locs := G
  have hl : lv_has ls 6 [(0, .ref (am 0)), (1, .int (nI z)), (2, .int but), (3, .int (nI i))] := hl
  refine lv_iload_n hx hb dX5_tells_2 rfl (lv_at hl 3 rfl) ?_
  refine lv_bipush (v := 64) hx hb dX5_tells_3 (by decide) ?_
  refine lv_icmp_ge (tgt := 47) hx hb dX5_tells_5 (by decide) (fun c_5 => ?_) (fun c_5 => ?_)
  · skip
    have c_5 : 64 ≤ i := (nI_leI (a := 64) (b := i) (by omega) (by omega)).mp c_5
    obtain rfl : i = 64 := by omega
    have G : gW D (wM am cy th (cS mf mb mv) sv X ln ap le fc f1 f2 (tiB (biF kn on) (tiG (mf z) (mb z) but) 64) ha R) (va_A (wM am cy th (cS mf mb mv) sv X ln ap le fc f1 f2 (biF kn on) ha R) s.heap.size) s _ _ := G
    have hl : lv_has ls 6 [(0, .ref (am 0)), (1, .int (nI z)), (2, .int but), (3, .int (nI 64))] := hl
    have G : gW D (wM am cy th (cS mf mb mv) sv X ln ap le fc f1 f2 (biF sd so) ha R) (va_A (wM am cy th (cS mf mb mv) sv X ln ap le fc f1 f2 (biF kn on) ha R) s.heap.size) s H locs := wM_B (fun p hp => (tiB_at 64 p).trans ((if_pos hp).trans (hini p hp))) G
    refine lv_iconst (v := 1) hx hb dX5_tells_47 (by decide) ?_
    refine lv_istore_n (lv' := [(3, .int 1), (0, .ref (am 0)), (1, .int (nI z)), (2, .int but)]) hx hb dX5_tells_48 rfl hl (by decide) rfl (fun ls hl => ?_)
    have hl := lv_sub hl (l' := [(0, .ref (am 0)), (1, .int (nI z)), (2, .int but), (3, .int 1)]) [1, 2, 3, 0] rfl
    refine g_loop (σ := Nat) (fun r => 66 - r) (fun r => wM am cy th (cS mf mb mv) sv X ln ap le fc f1 f2 (biF ((rdn (sd, so) r).1) ((rdn (sd, so) r).2)) ha R) (fun r => [(0, .ref (am 0)), (1, .int (nI z)), (2, .int but), (3, .int (bI (goB (sd, so) r)))]) (fun r => r ≤ 65 ∧ (goB (sd, so) r = true → r ≤ pc (rdn (sd, so) r).1)) ?_ 0 ⟨by omega, fun _ => Nat.zero_le _⟩ G hl
    intro r hi_49 ih_49 H locs ls G hl
    obtain ⟨hr1, hr2⟩ := hi_49
    have hpl := pc_le (rdn (sd, so) r).1
    have G : gW D (wM am cy th (cS mf mb mv) sv X ln ap le fc f1 f2 (biF ((rdn (sd, so) r).1) ((rdn (sd, so) r).2)) ha R) (va_A (wM am cy th (cS mf mb mv) sv X ln ap le fc f1 f2 (biF kn on) ha R) s.heap.size) s H locs := G
    have hl : lv_has ls 6 [(0, .ref (am 0)), (1, .int (nI z)), (2, .int but), (3, .int (bI (goB (sd, so) r)))] := hl
    refine lv_iload_n hx hb dX5_tells_49 rfl (lv_at hl 3 rfl) ?_
    refine lv_if_eq (tgt := 93) hx hb dX5_tells_50 (by decide) (fun c_50 => ?_) (fun c_50 => ?_)
    · skip
      have c_50 : (goB (sd, so) r) = false := bI_f c_50
      rw [go_fa c_50 hr1] at G
      refine lv_iconst (v := 0) hx hb dX5_tells_93 (by decide) ?_
      refine lv_istore (lv' := [(4, .int 0), (0, .ref (am 0)), (1, .int (nI z)), (2, .int but), (3, .int (bI (goB (sd, so) r)))]) hx hb dX5_tells_94 hl (by decide) rfl (fun ls hl => ?_)
      refine lv_iconst (v := 0) hx hb dX5_tells_96 (by decide) ?_
      refine lv_istore (lv' := [(5, .int 0), (4, .int 0), (0, .ref (am 0)), (1, .int (nI z)), (2, .int but), (3, .int (bI (goB (sd, so) r)))]) hx hb dX5_tells_97 hl (by decide) rfl (fun ls hl => ?_)
      have hl := lv_sub hl (l' := [(0, .ref (am 0)), (4, .int 0), (5, .int 0)]) [2, 1, 0] rfl
      refine g_loop (σ := Nat) (fun q => 64 - q) (fun q => wM am cy th (cS mf mb mv) sv X ln ap le fc f1 f2 (biF ((fa sd so).1) ((fa sd so).2)) ha R) (fun q => [(0, .ref (am 0)), (4, .int (nI (cnt (fun k => decide (biF (fa sd so).1 (fa sd so).2 k = -1)) q))), (5, .int (nI q))]) (fun q => q ≤ 64) ?_ 0 (by show _ ≤ _; omega) G hl
      intro q hi_99 ih_99 H locs ls G hl
      have G : gW D (wM am cy th (cS mf mb mv) sv X ln ap le fc f1 f2 (biF ((fa sd so).1) ((fa sd so).2)) ha R) (va_A (wM am cy th (cS mf mb mv) sv X ln ap le fc f1 f2 (biF kn on) ha R) s.heap.size) s H locs := G
      have hl : lv_has ls 6 [(0, .ref (am 0)), (4, .int (nI (cnt (fun k => decide (biF (fa sd so).1 (fa sd so).2 k = -1)) q))), (5, .int (nI q))] := hl
      refine lv_iload hx hb dX5_tells_99 (lv_at hl 2 rfl) ?_
      refine lv_bipush (v := 64) hx hb dX5_tells_101 (by decide) ?_
      refine lv_icmp_ge (tgt := 133) hx hb dX5_tells_103 (by decide) (fun c_103 => ?_) (fun c_103 => ?_)
      · skip
        have c_103 : 64 ≤ q := (nI_leI (a := 64) (b := q) (by omega) (by omega)).mp c_103
        obtain rfl : q = 64 := by omega
        have G : gW D (wM am cy th (cS mf mb mv) sv X ln ap le fc f1 f2 (biF ((fa sd so).1) ((fa sd so).2)) ha R) (va_A (wM am cy th (cS mf mb mv) sv X ln ap le fc f1 f2 (biF kn on) ha R) s.heap.size) s _ _ := G
        have hl : lv_has ls 6 [(0, .ref (am 0)), (4, .int (nI (cnt (fun k => decide (biF (fa sd so).1 (fa sd so).2 k = -1)) 64))), (5, .int (nI 64))] := hl
        refine lv_iload hx hb dX5_tells_133 (lv_at hl 1 rfl) ?_
        exact g_iret C0 G ⟨by rw [un_pc], by first | rfl | (exfalso; omega) | (simp only [cnt, c_5, c_50, c_103, Bool.false_eq_true, ↓reduceIte, eq_self, decide_true, decide_false, not_true_eq_false, not_false_eq_true, Bool.true_and, Bool.false_and, Bool.and_true, Bool.and_false]; done) | (simp [cnt, c_5, c_50, c_103]; done) | (simp [cnt, c_5, c_50, c_103]; rfl) | (simp [cnt, c_5, c_50, c_103]; omega)⟩ dX5_tells_135
      · skip
        have c_103 : ¬ (64 ≤ q) := fun h => c_103 ((nI_leI (a := 64) (b := q) (by omega) (by omega)).mpr h)
        refine lv_iload hx hb dX5_tells_106 (lv_at hl 1 rfl) ?_
        refine lv_aload_n hx hb dX5_tells_108 rfl (lv_at hl 0 rfl) ?_
        refine g_get (q0 := 0) (v := .ref (am 3)) C0 G in_X5 rfl rfl 10 (by decide) fl_X5_16 (fun _ h => h) rfl dX5_tells_109 ?_
        refine lv_iload hx hb dX5_tells_112 (lv_at hl 2 rfl) ?_
        refine g_iald (q0 := 3) (n := 64) C0 G rfl 1 rfl (vp_in_nI (n := q) (by omega) (by decide)) dX5_tells_114 ?_
        refine g_topi (x' := biF ((fa sd so).1) ((fa sd so).2) q) (congrArg (biF ((fa sd so).1) ((fa sd so).2)) (nI_clamp (n := q) (by omega))) ?_
        refine lv_iconst (v := (-1)) hx hb dX5_tells_115 (by decide) ?_
        refine lv_icmp_ne (tgt := 123) hx hb dX5_tells_116 (by decide) (fun c_116 => ?_) (fun c_116 => ?_)
        · skip
          refine lv_iconst (v := 0) hx hb dX5_tells_123 (by decide) ?_
          refine lv_iadd hx hb dX5_tells_124 ?_
          refine g_topi (x' := nI ((cnt (fun k => decide (biF (fa sd so).1 (fa sd so).2 k = -1)) q) + 0)) (nI_add (cnt (fun k => decide (biF (fa sd so).1 (fa sd so).2 k = -1)) q) 0) ?_
          refine g_topi (x' := nI (cnt (fun k => decide (biF (fa sd so).1 (fa sd so).2 k = -1)) (q + 1))) (congrArg nI (by first | rfl | (simp only [cnt, c_5, c_50, c_103, c_116, Bool.false_eq_true, ↓reduceIte]; done) | (simp [cnt, c_5, c_50, c_103, c_116]; done))) ?_
          refine lv_istore (lv' := [(4, .int (nI (cnt (fun k => decide (biF (fa sd so).1 (fa sd so).2 k = -1)) (q + 1)))), (0, .ref (am 0)), (5, .int (nI q))]) hx hb dX5_tells_125 hl (by decide) rfl (fun ls hl => ?_)
          refine lv_iinc (v := nI (q + 1)) (lv' := [(5, .int (nI (q + 1))), (4, .int (nI (cnt (fun k => decide (biF (fa sd so).1 (fa sd so).2 k = -1)) (q + 1)))), (0, .ref (am 0))]) hx hb dX5_tells_127 hl (k := 2) rfl (nI_add q 1) (by decide) rfl (fun ls hl => ?_)
          refine lv_goto (tgt := 99) hx hb dX5_tells_130 (by decide) ?_
          have hl := lv_sub hl (l' := _) [2, 1, 0] rfl
          exact ih_99 (q + 1) (by show _ ≤ _; omega) (by show _ < _; omega) _ _ _ G hl
        · skip
          refine lv_iconst (v := 1) hx hb dX5_tells_119 (by decide) ?_
          refine lv_goto (tgt := 124) hx hb dX5_tells_120 (by decide) ?_
          refine lv_iadd hx hb dX5_tells_124 ?_
          refine g_topi (x' := nI ((cnt (fun k => decide (biF (fa sd so).1 (fa sd so).2 k = -1)) q) + 1)) (nI_add (cnt (fun k => decide (biF (fa sd so).1 (fa sd so).2 k = -1)) q) 1) ?_
          refine g_topi (x' := nI (cnt (fun k => decide (biF (fa sd so).1 (fa sd so).2 k = -1)) (q + 1))) (congrArg nI (by first | rfl | (simp only [cnt, c_5, c_50, c_103, c_116, Bool.false_eq_true, ↓reduceIte]; done) | (simp [cnt, c_5, c_50, c_103, c_116]; done))) ?_
          refine lv_istore (lv' := [(4, .int (nI (cnt (fun k => decide (biF (fa sd so).1 (fa sd so).2 k = -1)) (q + 1)))), (0, .ref (am 0)), (5, .int (nI q))]) hx hb dX5_tells_125 hl (by decide) rfl (fun ls hl => ?_)
          refine lv_iinc (v := nI (q + 1)) (lv' := [(5, .int (nI (q + 1))), (4, .int (nI (cnt (fun k => decide (biF (fa sd so).1 (fa sd so).2 k = -1)) (q + 1)))), (0, .ref (am 0))]) hx hb dX5_tells_127 hl (k := 2) rfl (nI_add q 1) (by decide) rfl (fun ls hl => ?_)
          refine lv_goto (tgt := 99) hx hb dX5_tells_130 (by decide) ?_
          have hl := lv_sub hl (l' := _) [2, 1, 0] rfl
          exact ih_99 (q + 1) (by show _ ≤ _; omega) (by show _ < _; omega) _ _ _ G hl
    · skip
      have c_50 : (goB (sd, so) r) = true := bI_t c_50
      refine lv_iconst (v := 0) hx hb dX5_tells_53 (by decide) ?_
      refine lv_istore_n (lv' := [(3, .int 0), (0, .ref (am 0)), (1, .int (nI z)), (2, .int but)]) hx hb dX5_tells_54 rfl hl (by decide) rfl (fun ls hl => ?_)
      refine lv_iconst (v := 0) hx hb dX5_tells_55 (by decide) ?_
      refine lv_istore (lv' := [(4, .int 0), (3, .int 0), (0, .ref (am 0)), (1, .int (nI z)), (2, .int but)]) hx hb dX5_tells_56 hl (by decide) rfl (fun ls hl => ?_)
      have hl := lv_sub hl (l' := [(0, .ref (am 0)), (1, .int (nI z)), (2, .int but), (3, .int 0), (4, .int 0)]) [2, 3, 4, 1, 0] rfl
      refine g_loop (σ := Nat) (fun j => 16 - j) (fun j => wM am cy th (cS mf mb mv) sv X ln ap le fc f1 f2 (biF ((lnS (rdn (sd, so) r) j).1) ((lnS (rdn (sd, so) r) j).2)) ha R) (fun j => [(0, .ref (am 0)), (1, .int (nI z)), (2, .int but), (3, .int (bI (decide (¬ (lnS (rdn (sd, so) r) j).1 = (rdn (sd, so) r).1)))), (4, .int (nI j))]) (fun j => j ≤ 16) ?_ 0 (by show _ ≤ _; omega) G (by rw [show decide (¬ (lnS (rdn (sd, so) r) 0).1 = (rdn (sd, so) r).1) = false from decide_eq_false (by simp [lnS])]; exact hl)
      intro j hi_58 ih_58 H locs ls G hl
      have G : gW D (wM am cy th (cS mf mb mv) sv X ln ap le fc f1 f2 (biF ((lnS (rdn (sd, so) r) j).1) ((lnS (rdn (sd, so) r) j).2)) ha R) (va_A (wM am cy th (cS mf mb mv) sv X ln ap le fc f1 f2 (biF kn on) ha R) s.heap.size) s H locs := G
      have hl : lv_has ls 6 [(0, .ref (am 0)), (1, .int (nI z)), (2, .int but), (3, .int (bI (decide (¬ (lnS (rdn (sd, so) r) j).1 = (rdn (sd, so) r).1)))), (4, .int (nI j))] := hl
      refine lv_iload hx hb dX5_tells_58 (lv_at hl 4 rfl) ?_
      refine lv_bipush (v := 16) hx hb dX5_tells_60 (by decide) ?_
      refine lv_icmp_ge (tgt := 90) hx hb dX5_tells_62 (by decide) (fun c_62 => ?_) (fun c_62 => ?_)
      · skip
        have c_62 : 16 ≤ j := (nI_leI (a := 16) (b := j) (by omega) (by omega)).mp c_62
        obtain rfl : j = 16 := by omega
        have G : gW D (wM am cy th (cS mf mb mv) sv X ln ap le fc f1 f2 (biF ((lnS (rdn (sd, so) r) 16).1) ((lnS (rdn (sd, so) r) 16).2)) ha R) (va_A (wM am cy th (cS mf mb mv) sv X ln ap le fc f1 f2 (biF kn on) ha R) s.heap.size) s _ _ := G
        have hl : lv_has ls 6 [(0, .ref (am 0)), (1, .int (nI z)), (2, .int but), (3, .int (bI (decide (¬ (lnS (rdn (sd, so) r) 16).1 = (rdn (sd, so) r).1)))), (4, .int (nI 16))] := hl
        refine lv_goto (tgt := 49) hx hb dX5_tells_90 (by decide) ?_
        have hl := lv_sub hl (l' := _) [0, 1, 2, 3] rfl
        exact ih_49 (r + 1) ⟨by have := hr2 c_50; omega, fun h => go_up h (hr2 c_50)⟩ (by show _ < _; have := hr2 c_50; omega) _ _ _ G hl
      · skip
        have c_62 : ¬ (16 ≤ j) := fun h => c_62 ((nI_leI (a := 16) (b := j) (by omega) (by omega)).mpr h)
        have hokj := ok_lnS (ok_rdn hok r) j
        refine lv_aload_n hx hb dX5_tells_65 rfl (lv_at hl 0 rfl) ?_
        refine lv_iload hx hb dX5_tells_66 (lv_at hl 4 rfl) ?_
        refine g_callV (As := [.int (nI j)]) (rest := []) (q0 := 0) C0 G (c_X5_tellsLine l D cy (am := am) (mf := mf) (mb := mb) (mv := mv) (kn := (lnS (rdn (sd, so) r) j).1) (on := (lnS (rdn (sd, so) r) j).2) (th := th) (sv := sv) (X := X) (ln := ln) (ap := ap) (le := le) (fc := fc) (f1 := f1) (f2 := f2) (ha := ha) (R := R) (line := j) (by omega) hokj) k_X5_tellsLine ml_X5_70 rfl rfl dX5_tells_68 rfl rfl hl.1 (Nat.le_of_ble_eq_true rfl) ⟨Nat.le_of_ble_eq_true rfl, Nat.le_of_ble_eq_true rfl⟩ ⟨Nat.le_of_ble_eq_true rfl, Nat.le_of_ble_eq_true rfl⟩ (fun r W2 H locs hp G => ?_)
        obtain ⟨rfl, hw⟩ := hp
        have G := g_wc hw G
        refine W.eq (g2 := F0 m 71 ls [.int (bI (decide (pc (msW (lineM j) ((lnS (rdn (sd, so) r) j).1)) = 1)))]) rfl ?_
        refine lv_if_ne (tgt := 78) hx hb dX5_tells_71 (by decide) (fun c_71 => ?_) (fun c_71 => ?_)
        · skip
          have c_71 : (decide (pc (msW (lineM j) ((lnS (rdn (sd, so) r) j).1)) = 1)) = true := bI_t c_71
          refine lv_iconst (v := 1) hx hb dX5_tells_78 (by decide) ?_
          refine lv_goto (tgt := 83) hx hb dX5_tells_79 (by decide) ?_
          refine lv_istore_n (lv' := [(3, .int 1), (0, .ref (am 0)), (1, .int (nI z)), (2, .int but), (4, .int (nI j))]) hx hb dX5_tells_83 rfl hl (by decide) rfl (fun ls hl => ?_)
          refine lv_iinc (v := nI (j + 1)) (lv' := [(4, .int (nI (j + 1))), (3, .int 1), (0, .ref (am 0)), (1, .int (nI z)), (2, .int but)]) hx hb dX5_tells_84 hl (k := 4) rfl (nI_add j 1) (by decide) rfl (fun ls hl => ?_)
          refine lv_goto (tgt := 58) hx hb dX5_tells_87 (by decide) ?_
          have hl := lv_sub hl (l' := _) [2, 3, 4, 1, 0] rfl
          exact ih_58 (j + 1) (by show _ ≤ _; omega) (by show _ < _; omega) _ _ _ G (by first | (rw [goes_step, c_71]; exact hl) | (rw [goes_step, c_71, c_75]; exact hl))
        · skip
          have c_71 : (decide (pc (msW (lineM j) ((lnS (rdn (sd, so) r) j).1)) = 1)) = false := bI_f c_71
          refine lv_iload_n hx hb dX5_tells_74 rfl (lv_at hl 3 rfl) ?_
          refine lv_if_eq (tgt := 82) hx hb dX5_tells_75 (by decide) (fun c_75 => ?_) (fun c_75 => ?_)
          · skip
            have c_75 : (decide (¬ (lnS (rdn (sd, so) r) j).1 = (rdn (sd, so) r).1)) = false := bI_f c_75
            refine lv_iconst (v := 0) hx hb dX5_tells_82 (by decide) ?_
            refine lv_istore_n (lv' := [(3, .int 0), (0, .ref (am 0)), (1, .int (nI z)), (2, .int but), (4, .int (nI j))]) hx hb dX5_tells_83 rfl hl (by decide) rfl (fun ls hl => ?_)
            refine lv_iinc (v := nI (j + 1)) (lv' := [(4, .int (nI (j + 1))), (3, .int 0), (0, .ref (am 0)), (1, .int (nI z)), (2, .int but)]) hx hb dX5_tells_84 hl (k := 4) rfl (nI_add j 1) (by decide) rfl (fun ls hl => ?_)
            refine lv_goto (tgt := 58) hx hb dX5_tells_87 (by decide) ?_
            have hl := lv_sub hl (l' := _) [2, 3, 4, 1, 0] rfl
            exact ih_58 (j + 1) (by show _ ≤ _; omega) (by show _ < _; omega) _ _ _ G (by first | (rw [goes_step, c_71]; exact hl) | (rw [goes_step, c_71, c_75]; exact hl))
          · skip
            have c_75 : (decide (¬ (lnS (rdn (sd, so) r) j).1 = (rdn (sd, so) r).1)) = true := bI_t c_75
            refine lv_iconst (v := 1) hx hb dX5_tells_78 (by decide) ?_
            refine lv_goto (tgt := 83) hx hb dX5_tells_79 (by decide) ?_
            refine lv_istore_n (lv' := [(3, .int 1), (0, .ref (am 0)), (1, .int (nI z)), (2, .int but), (4, .int (nI j))]) hx hb dX5_tells_83 rfl hl (by decide) rfl (fun ls hl => ?_)
            refine lv_iinc (v := nI (j + 1)) (lv' := [(4, .int (nI (j + 1))), (3, .int 1), (0, .ref (am 0)), (1, .int (nI z)), (2, .int but)]) hx hb dX5_tells_84 hl (k := 4) rfl (nI_add j 1) (by decide) rfl (fun ls hl => ?_)
            refine lv_goto (tgt := 58) hx hb dX5_tells_87 (by decide) ?_
            have hl := lv_sub hl (l' := _) [2, 3, 4, 1, 0] rfl
            exact ih_58 (j + 1) (by show _ ≤ _; omega) (by show _ < _; omega) _ _ _ G (by first | (rw [goes_step, c_71]; exact hl) | (rw [goes_step, c_71, c_75]; exact hl))
  · skip
    have c_5 : ¬ (64 ≤ i) := fun h => c_5 ((nI_leI (a := 64) (b := i) (by omega) (by omega)).mpr h)
    refine lv_aload_n hx hb dX5_tells_8 rfl (lv_at hl 0 rfl) ?_
    refine g_get (q0 := 0) (v := .ref (am 3)) C0 G in_X5 rfl rfl 10 (by decide) fl_X5_16 (fun _ h => h) rfl dX5_tells_9 ?_
    refine lv_iload_n hx hb dX5_tells_12 rfl (lv_at hl 3 rfl) ?_
    refine lv_aload_n hx hb dX5_tells_13 rfl (lv_at hl 0 rfl) ?_
    refine lv_iload_n hx hb dX5_tells_14 rfl (lv_at hl 1 rfl) ?_
    refine lv_iload_n hx hb dX5_tells_15 rfl (lv_at hl 3 rfl) ?_
    refine g_callV (As := [.int (nI z), .int (nI i)]) (rest := [.int (nI i), .ref (am 3)]) (q0 := 0) C0 G (c_X5_of l D cy (am := am) (mf := mf) (mb := mb) (mv := mv) (th := th) (sv := sv) (X := X) (ln := ln) (ap := ap) (le := le) (fc := fc) (f1 := f1) (f2 := f2) (ha := ha) (R := R) (B := tiB (biF kn on) (tiG (mf z) (mb z) but) i) (z := z) (k := i) (by omega) (by omega)) k_X5_of ml_X5_35 rfl rfl dX5_tells_16 rfl rfl hl.1 (Nat.le_of_ble_eq_true rfl) ⟨Nat.le_of_ble_eq_true rfl, Nat.le_of_ble_eq_true rfl⟩ ⟨Nat.le_of_ble_eq_true rfl, Nat.le_of_ble_eq_true rfl⟩ (fun r W2 H locs hp G => ?_)
    obtain ⟨rfl, hw⟩ := hp
    have G := g_wc hw G
    refine W.eq (g2 := F0 m 19 ls [.int (kdI (mf z) (mb z) i), .int (nI i), .ref (am 3)]) rfl ?_
    refine g_callS (As := [.int (kdI (mf z) (mb z) i)]) (rest := [.int (nI i), .ref (am 3)]) C0 G (c_X5_isSound l D cy (W1 := wM am cy th (cS mf mb mv) sv X ln ap le fc f1 f2 (tiB (biF kn on) (tiG (mf z) (mb z) but) i) ha R) (u := kdI (mf z) (mb z) i) ) k_X5_isSound ml_X5_66 dX5_tells_19 rfl rfl hl.1 (Nat.le_of_ble_eq_true rfl) ⟨Nat.le_of_ble_eq_true rfl, Nat.le_of_ble_eq_true rfl⟩ ⟨Nat.le_of_ble_eq_true rfl, Nat.le_of_ble_eq_true rfl⟩ (fun r W2 H locs hp G => ?_)
    obtain ⟨rfl, hw⟩ := hp
    have G := g_wc hw G
    refine W.eq (g2 := F0 m 22 ls [.int (bI (decide ((kdI (mf z) (mb z) i) < 2))), .int (nI i), .ref (am 3)]) rfl ?_
    refine lv_if_eq (tgt := 39) hx hb dX5_tells_22 (by decide) (fun c_22 => ?_) (fun c_22 => ?_)
    · skip
      have c_22 : (decide ((kdI (mf z) (mb z) i) < 2)) = false := bI_f c_22
      refine lv_iconst (v := (-1)) hx hb dX5_tells_39 (by decide) ?_
      refine g_iast (q0 := 3) (n := 64) (W2 := wM am cy th (cS mf mb mv) sv X ln ap le fc f1 f2 (upd (tiB (biF kn on) (tiG (mf z) (mb z) but) i) i (-1)) ha R) C0 G rfl 1 rfl (vp_in_nI (n := i) (by omega) (by decide)) (by rw [nI_clamp (n := i) (by omega)]; rfl) dX5_tells_40 (fun H locs G => ?_)
      refine lv_iinc (v := nI (i + 1)) (lv' := [(3, .int (nI (i + 1))), (0, .ref (am 0)), (1, .int (nI z)), (2, .int but)]) hx hb dX5_tells_41 hl (k := 3) rfl (nI_add i 1) (by decide) rfl (fun ls hl => ?_)
      refine lv_goto (tgt := 2) hx hb dX5_tells_44 (by decide) ?_
      have hl := lv_sub hl (l' := _) [1, 2, 3, 0] rfl
      exact ih_2 (i + 1) (by show _ ≤ _; omega) (by show _ < _; omega) _ _ _ (by first | (have e := tiG_y (f := mf z) (b := mb z) (but := but) (k := i) (of_decide_eq_true c_22) c_27; exact g_wc (by simp only [tiB, e]) G) | (have e := tiG_n1 (f := mf z) (b := mb z) (but := but) (k := i) (of_decide_eq_false c_22); exact g_wc (by simp only [tiB, e]) G) | (have e := tiG_n2 (f := mf z) (b := mb z) (but := but) (k := i) c_27; exact g_wc (by simp only [tiB, e]) G)) hl
    · skip
      have c_22 : (decide ((kdI (mf z) (mb z) i) < 2)) = true := bI_t c_22
      refine lv_iload_n hx hb dX5_tells_25 rfl (lv_at hl 3 rfl) ?_
      refine lv_iload_n hx hb dX5_tells_26 rfl (lv_at hl 2 rfl) ?_
      refine lv_icmp_eq (tgt := 39) hx hb dX5_tells_27 (by decide) (fun c_27 => ?_) (fun c_27 => ?_)
      · skip
        refine lv_iconst (v := (-1)) hx hb dX5_tells_39 (by decide) ?_
        refine g_iast (q0 := 3) (n := 64) (W2 := wM am cy th (cS mf mb mv) sv X ln ap le fc f1 f2 (upd (tiB (biF kn on) (tiG (mf z) (mb z) but) i) i (-1)) ha R) C0 G rfl 1 rfl (vp_in_nI (n := i) (by omega) (by decide)) (by rw [nI_clamp (n := i) (by omega)]; rfl) dX5_tells_40 (fun H locs G => ?_)
        refine lv_iinc (v := nI (i + 1)) (lv' := [(3, .int (nI (i + 1))), (0, .ref (am 0)), (1, .int (nI z)), (2, .int but)]) hx hb dX5_tells_41 hl (k := 3) rfl (nI_add i 1) (by decide) rfl (fun ls hl => ?_)
        refine lv_goto (tgt := 2) hx hb dX5_tells_44 (by decide) ?_
        have hl := lv_sub hl (l' := _) [1, 2, 3, 0] rfl
        exact ih_2 (i + 1) (by show _ ≤ _; omega) (by show _ < _; omega) _ _ _ (by first | (have e := tiG_y (f := mf z) (b := mb z) (but := but) (k := i) (of_decide_eq_true c_22) c_27; exact g_wc (by simp only [tiB, e]) G) | (have e := tiG_n1 (f := mf z) (b := mb z) (but := but) (k := i) (of_decide_eq_false c_22); exact g_wc (by simp only [tiB, e]) G) | (have e := tiG_n2 (f := mf z) (b := mb z) (but := but) (k := i) c_27; exact g_wc (by simp only [tiB, e]) G)) hl
      · skip
        refine lv_aload_n hx hb dX5_tells_30 rfl (lv_at hl 0 rfl) ?_
        refine lv_iload_n hx hb dX5_tells_31 rfl (lv_at hl 1 rfl) ?_
        refine lv_iload_n hx hb dX5_tells_32 rfl (lv_at hl 3 rfl) ?_
        refine g_callV (As := [.int (nI z), .int (nI i)]) (rest := [.int (nI i), .ref (am 3)]) (q0 := 0) C0 G (c_X5_of l D cy (am := am) (mf := mf) (mb := mb) (mv := mv) (th := th) (sv := sv) (X := X) (ln := ln) (ap := ap) (le := le) (fc := fc) (f1 := f1) (f2 := f2) (ha := ha) (R := R) (B := tiB (biF kn on) (tiG (mf z) (mb z) but) i) (z := z) (k := i) (by omega) (by omega)) k_X5_of ml_X5_35 rfl rfl dX5_tells_33 rfl rfl hl.1 (Nat.le_of_ble_eq_true rfl) ⟨Nat.le_of_ble_eq_true rfl, Nat.le_of_ble_eq_true rfl⟩ ⟨Nat.le_of_ble_eq_true rfl, Nat.le_of_ble_eq_true rfl⟩ (fun r W2 H locs hp G => ?_)
        obtain ⟨rfl, hw⟩ := hp
        have G := g_wc hw G
        refine W.eq (g2 := F0 m 36 ls [.int (kdI (mf z) (mb z) i), .int (nI i), .ref (am 3)]) rfl ?_
        refine lv_goto (tgt := 40) hx hb dX5_tells_36 (by decide) ?_
        refine g_iast (q0 := 3) (n := 64) (W2 := wM am cy th (cS mf mb mv) sv X ln ap le fc f1 f2 (upd (tiB (biF kn on) (tiG (mf z) (mb z) but) i) i (kdI (mf z) (mb z) i)) ha R) C0 G rfl 1 rfl (vp_in_nI (n := i) (by omega) (by decide)) (by rw [nI_clamp (n := i) (by omega)]; rfl) dX5_tells_40 (fun H locs G => ?_)
        refine lv_iinc (v := nI (i + 1)) (lv' := [(3, .int (nI (i + 1))), (0, .ref (am 0)), (1, .int (nI z)), (2, .int but)]) hx hb dX5_tells_41 hl (k := 3) rfl (nI_add i 1) (by decide) rfl (fun ls hl => ?_)
        refine lv_goto (tgt := 2) hx hb dX5_tells_44 (by decide) ?_
        have hl := lv_sub hl (l' := _) [1, 2, 3, 0] rfl
        exact ih_2 (i + 1) (by show _ ≤ _; omega) (by show _ < _; omega) _ _ _ (by first | (have e := tiG_y (f := mf z) (b := mb z) (but := but) (k := i) (of_decide_eq_true c_22) c_27; exact g_wc (by simp only [tiB, e]) G) | (have e := tiG_n1 (f := mf z) (b := mb z) (but := but) (k := i) (of_decide_eq_false c_22); exact g_wc (by simp only [tiB, e]) G) | (have e := tiG_n2 (f := mf z) (b := mb z) (but := but) (k := i) c_27; exact g_wc (by simp only [tiB, e]) G)) hl
