/-! rows, closing, saving in the reference -/
theorem allB_iff {p : Nat → Bool} : ∀ {n : Nat}, allB p n = true ↔ ∀ k, k < n → p k = true
  | 0 => by simp [allB]
  | n + 1 => by
    unfold allB
    rw [Bool.and_eq_true, allB_iff (n := n)]
    constructor
    · rintro ⟨h1, h2⟩ k hk
      rcases Nat.lt_or_ge k n with h | h
      · exact h1 k h
      · rw [show k = n by omega]; exact h2
    · intro h; exact ⟨fun k hk => h k (by omega), h n (by omega)⟩
theorem tb_bl {f b : Int64} {k : Nat} (hk : k < 64) : tb (blW f b) k = (!tb f k && !tb b k) := by unfold blW; rw [tb_not hk, tb_or]; cases tb f k <;> cases tb b k <;> rfl
theorem kd_bl {f b : Int64} {k : Nat} (hk : k < 64) : decide (kdI f b k = 2) = tb (blW f b) k := by rw [tb_bl hk]; unfold kdI; cases tb f k <;> cases tb b k <;> decide
theorem kd_sd {f b : Int64} {k : Nat} : decide (kdI f b k < 2) = tb (sdW f b) k := by unfold sdW kdI; rw [tb_xor]; cases tb f k <;> cases tb b k <;> decide
theorem kd_on {f b : Int64} {k : Nat} (hk : k < 64) (h : tb (sdW f b) k = true) : kdI f b k = nI (if tb (onW f b) k then 1 else 0) := by
  revert h
  unfold sdW onW kdI; rw [tb_xor, tb_and, tb_not hk]; cases tb f k <;> cases tb b k <;> decide
theorem cp_iff {f b : Int64} {row : Nat} (hr : row < 8) : cpB f b row = true ↔ ∀ k, k < 8 → tb (blW f b) (8 * row + k) = true := by
  unfold cpB
  rw [decide_eq_true_eq]
  constructor
  · intro h k hk
    have h2 := congrArg (fun w => tb w (8 * row + k)) h
    simp only [tb_and, tb_0, tb_not (show 8 * row + k < 64 by omega), tb_row row hr (8 * row + k) (by omega)] at h2
    rw [decide_eq_true (show (8 * row + k) / 8 = row by omega), Bool.true_and] at h2
    cases hb : tb (blW f b) (8 * row + k)
    · rw [hb] at h2; exact absurd h2 (by decide)
    · rfl
  · intro h
    apply tb_ext
    intro k hk
    rw [tb_and, tb_not hk, tb_row row hr k hk, tb_0]
    by_cases e : k / 8 = row
    · have := h (k % 8) (by omega)
      rw [show 8 * row + k % 8 = k by omega] at this
      rw [this]; simp
    · simp [e]
theorem cp_all {f b : Int64} {row : Nat} (hr : row < 8) : allB (fun k => decide (kdI f b (8 * row + k) = 2)) 8 = cpB f b row := by
  have h : allB (fun k => decide (kdI f b (8 * row + k) = 2)) 8 = true ↔ cpB f b row = true := by
    rw [allB_iff, cp_iff hr]
    constructor
    · intro h k hk; rw [← kd_bl (by omega)]; exact h k hk
    · intro h k hk; rw [kd_bl (by omega)]; exact h k hk
  cases h1 : cpB f b row
  · cases h2 : allB (fun k => decide (kdI f b (8 * row + k) = 2)) 8
    · rfl
    · rw [h.mp h2] at h1; exact absurd h1 (by decide)
  · exact h.mpr h1
theorem cc_all {f b : Int64} : (cpB f b 7 && allB (fun k => decide (kdI f b k < 2)) 56) = ccB f b := by
  have h : (cpB f b 7 && allB (fun k => decide (kdI f b k < 2)) 56) = true ↔ ccB f b = true := by
    unfold ccB
    rw [Bool.and_eq_true, Bool.and_eq_true, cp_iff (by decide), allB_iff, decide_eq_true_eq, decide_eq_true_eq]
    constructor
    · rintro ⟨h1, h2⟩
      refine ⟨?_, ?_⟩
      · apply tb_ext
        intro k hk
        rw [tb_or, tb_m1 k hk, tb_row 7 (by decide) k hk]
        by_cases e : k < 56
        · have h3 : tb (sdW f b) k = true := by rw [← kd_sd]; exact h2 k e
          rw [h3, Bool.true_or]
        · rw [decide_eq_true (by omega), Bool.or_true]
      · apply tb_ext
        intro k hk
        rw [tb_and, tb_row 7 (by decide) k hk]
        by_cases e : k / 8 = 7
        · have := h1 (k - 56) (by omega)
          rw [show 8 * 7 + (k - 56) = k by omega] at this
          rw [this, Bool.true_and]
        · simp [e]
    · rintro ⟨h1, h2⟩
      refine ⟨fun k hk => ?_, fun k hk => ?_⟩
      · have h3 := congrArg (fun w => tb w (8 * 7 + k)) h2
        simp only [tb_and, tb_row 7 (by decide) (8 * 7 + k) (by omega)] at h3
        rw [decide_eq_true (by omega), Bool.and_true] at h3
        exact h3
      · have h3 := congrArg (fun w => tb w k) h1
        simp only [tb_or, tb_m1 k (by omega), tb_row 7 (by decide) k (by omega)] at h3
        rw [decide_eq_false (by omega), Bool.or_false] at h3
        rw [kd_sd]; exact h3
  cases h1 : ccB f b
  · cases h2 : (cpB f b 7 && allB (fun k => decide (kdI f b k < 2)) 56)
    · rfl
    · rw [h.mp h2] at h1; exact absurd h1 (by decide)
  · exact h.mpr h1
def xrN (x : Nat) : Nat → Nat
  | 0 => 0
  | i + 1 => (xrN x i + x / 2 ^ (6 - i) % 2) % 2
theorem xrN_lt (x : Nat) : ∀ i, xrN x i < 2
  | 0 => by show 0 < 2; decide
  | i + 1 => Nat.mod_lt _ (by decide)
theorem xor2 {a b : Nat} (ha : a < 2) (hb : b < 2) : nI a ^^^ nI b = nI ((a + b) % 2) := by
  rcases (show a = 0 ∨ a = 1 by omega) with rfl | rfl <;> rcases (show b = 0 ∨ b = 1 by omega) with rfl | rfl <;> decide
theorem xrN_7 : ∀ x, x < 128 → xrN x 7 = pc7 x % 2 := by decide +kernel
def pmF (f : Int64) (row x : Nat) : Nat → Int64
  | 0 => f
  | i + 1 => skF (pmF f row x i) (8 * row + i) (x / 2 ^ (6 - i) % 2)
def pmB (b : Int64) (row x : Nat) : Nat → Int64
  | 0 => b
  | i + 1 => skB (pmB b row x i) (8 * row + i) (x / 2 ^ (6 - i) % 2)
def pnF (f : Int64) (row x : Nat) : Int64 := skF (pmF f row x 7) (8 * row + 7) (pc7 x % 2)
def pnB (b : Int64) (row x : Nat) : Int64 := skB (pmB b row x 7) (8 * row + 7) (pc7 x % 2)
def cpU {α : Type} (g : Nat → α) (fm t : Nat) : Nat → α := fun z => if z / 3 = t then g (3 * fm + z % 3) else g z
def cpS (S : Nat → Int32) (fm t : Nat) : Nat → (Nat → Int32)
  | 0 => S
  | k + 1 => upd (cpS S fm t k) (195 * t + k) (cpS S fm t k (195 * fm + k))
theorem cpS_at {S : Nat → Int32} {fm t : Nat} (h : fm ≠ t) : ∀ (n : Nat), n ≤ 195 → ∀ p, cpS S fm t n p = if 195 * t ≤ p ∧ p < 195 * t + n then S (195 * fm + (p - 195 * t)) else S p
  | 0, _, p => by rw [if_neg (by omega)]; rfl
  | n + 1, hn, p => by
    have ih := cpS_at (S := S) h n (by omega)
    by_cases e : p = 195 * t + n
    · subst e
      show upd _ _ _ _ = _
      rw [show upd (cpS S fm t n) (195 * t + n) (cpS S fm t n (195 * fm + n)) (195 * t + n) = cpS S fm t n (195 * fm + n) from if_pos rfl, ih, if_neg (by omega), if_pos (by omega)]
      congr 1; omega
    · show upd _ _ _ _ = _
      rw [show upd (cpS S fm t n) (195 * t + n) (cpS S fm t n (195 * fm + n)) p = cpS S fm t n p from if_neg e, ih p]
      by_cases h2 : 195 * t ≤ p ∧ p < 195 * t + n
      · rw [if_pos h2, if_pos (by omega)]
      · rw [if_neg h2, if_neg (by omega)]
theorem cpS_cS {mf mb : Nat → Int64} {mv : Nat → Nat} {fm t : Nat} (h : fm ≠ t) : ∀ p, cpS (cS mf mb mv) fm t 195 p = cS (cpU mf fm t) (cpU mb fm t) (cpU mv fm t) p := by
  intro p
  rw [cpS_at h 195 (Nat.le_refl _) p]
  unfold cS cpU
  by_cases e : p / 65 / 3 = t
  · have h1 : 195 * t ≤ p ∧ p < 195 * t + 195 := by omega
    rw [if_pos h1]
    have h2 : (195 * fm + (p - 195 * t)) % 65 = p % 65 := by omega
    have h3 : (195 * fm + (p - 195 * t)) / 65 = 3 * fm + p / 65 % 3 := by omega
    rw [h2, h3]
    simp only [e, if_true]
  · have h1 : ¬ (195 * t ≤ p ∧ p < 195 * t + 195) := by omega
    rw [if_neg h1]
    simp only [e, if_false]
def shU {α : Type} (g : Nat → α) : Nat → (Nat → α)
  | 0 => g
  | i + 1 => cpU (shU g i) (i + 2) (i + 1)
def mSv {α : Type} (g : Nat → α) (sv : Nat) : Nat → α := if sv < 6 then cpU g 0 (sv + 1) else cpU (shU g 5) 0 6
theorem bi_y {kn on : Int64} {k : Nat} (h : ¬ biI kn on k = -1) : tb kn k = true ∧ biI kn on k = nI (if tb on k then 1 else 0) := by
  revert h; unfold biI; cases tb kn k <;> cases tb on k <;> decide
theorem bi_n {kn on : Int64} {k : Nat} (h : biI kn on k = -1) : tb kn k = false := by
  revert h; unfold biI; cases tb kn k <;> cases tb on k <;> decide
theorem ok_sd (f b : Int64) : okS (sdW f b, onW f b) := by
  intro k hk; show tb (onW f b) k = true → tb (sdW f b) k = true
  unfold sdW onW; rw [tb_and, tb_not hk, tb_xor]; cases tb f k <;> cases tb b k <;> decide
theorem ok_lf (f b : Int64) (j : Nat) : okS (lfW f b j, onW f b &&& lfW f b j) := by
  intro k hk; show tb (onW f b &&& lfW f b j) k = true → tb (lfW f b j) k = true
  rw [tb_and]; cases tb (onW f b) k <;> cases tb (lfW f b j) k <;> decide
theorem dec1 {a : Nat} (h : 0 < a) : nI a + Int32.ofInt (-1) = nI (a - 1) := by
  obtain ⟨n, rfl⟩ : ∃ n, a = n + 1 := ⟨a - 1, by omega⟩
  exact pk_m1 n
set_option maxHeartbeats 4000000 in
set_option maxRecDepth 100000 in
theorem c_X5_disagreeing (l : Launch) (D : va_G) (cy : Nat → ClassId) (am : Nat → Nat) (mf : Nat → Int64) (mb : Nat → Int64) (mv : Nat → Nat) (kn : Int64) (on : Int64) (th : Int32) (sv : Nat) (X : Nat → Int32) (ln : Nat) (ap : Nat) (le : Nat) (fc : Nat) (f1 : Int32) (f2 : Int32) (ha : Int64) (R : va_W) (idx : Nat) (h1 : idx < 2147483648) (hok : ∀ k, k < 64 → tb on k = true → tb kn k = true) : GE l D (gts cy) yX5_disagreeing cX5_disagreeing 4 (some .int) 2 0 0 [.ref (am 0), .int (nI idx)] (wM am cy th (cS mf mb mv) sv X ln ap le fc f1 f2 (biF kn on) ha R) (gF (some (.int (dlI (dgB kn on) idx))) (wM am cy th (cS mf mb mv) sv X ln ap le fc f1 f2 (biF kn on) ha R)) := by
  refine g_intro (by decide +kernel) (lv := [(0, .ref (am 0)), (1, .int (nI idx))]) rfl (Nat.le_of_ble_eq_true rfl) ?_
  intro p e s m below meth c C0 G ls hl
  have hx := C0.1
  have hb := C0.2.1
  have hown := C0.2.2.2.2.2.1
  have hts := C0.2.2.2.2.2.2.1
  refine lv_iload_n hx hb dX5_disagreeing_0 rfl (lv_at hl 1 rfl) ?_
  refine lv_istore_n (lv' := [(2, .int (nI idx)), (0, .ref (am 0)), (1, .int (nI idx))]) hx hb dX5_disagreeing_1 rfl hl (by decide) rfl (fun ls hl => ?_)
  refine lv_iconst (v := 0) hx hb dX5_disagreeing_2 (by decide) ?_
  refine lv_istore_n (lv' := [(3, .int 0), (2, .int (nI idx)), (0, .ref (am 0)), (1, .int (nI idx))]) hx hb dX5_disagreeing_3 rfl hl (by decide) rfl (fun ls hl => ?_)
  have hl := lv_sub hl (l' := [(0, .ref (am 0)), (1, .int (nI idx)), (2, .int (nI idx)), (3, .int 0)]) [2, 3, 1, 0] rfl
  refine g_loop (σ := Nat) (fun i => 16 - i) (fun i => wM am cy th (cS mf mb mv) sv X ln ap le fc f1 f2 (biF kn on) ha R) (fun i => [(0, .ref (am 0)), (1, .int (nI idx)), (2, .int (nI (idx - cnt (dgB kn on) i))), (3, .int (nI i))]) (fun i => i ≤ 16 ∧ dlS (dgB kn on) idx i = none ∧ cnt (dgB kn on) i ≤ idx) ?_ 0 ⟨by omega, rfl, Nat.zero_le _⟩ G hl
  intro i hi_4 ih_4 H locs ls G hl
  obtain ⟨hi1, hi2, hi3⟩ := hi_4
  have hpl := pc_le (msW (lineM i) kn)
  have hdg := dgM (kn := kn) (on := on) (line := i)
  have hcs : cnt (dgB kn on) (i + 1) = cnt (dgB kn on) i + (if dgB kn on i then 1 else 0) := rfl
  have G : gW D (wM am cy th (cS mf mb mv) sv X ln ap le fc f1 f2 (biF kn on) ha R) (va_A (wM am cy th (cS mf mb mv) sv X ln ap le fc f1 f2 (biF kn on) ha R) s.heap.size) s H locs := G
  have hl : lv_has ls 4 [(0, .ref (am 0)), (1, .int (nI idx)), (2, .int (nI (idx - cnt (dgB kn on) i))), (3, .int (nI i))] := hl
  refine lv_iload_n hx hb dX5_disagreeing_4 rfl (lv_at hl 3 rfl) ?_
  refine lv_bipush (v := 16) hx hb dX5_disagreeing_5 (by decide) ?_
  refine lv_icmp_ge (tgt := 42) hx hb dX5_disagreeing_7 (by decide) (fun c_7 => ?_) (fun c_7 => ?_)
  · skip
    have c_7 : 16 ≤ i := (nI_leI (a := 16) (b := i) (by omega) (by omega)).mp c_7
    obtain rfl : i = 16 := by omega
    have G : gW D (wM am cy th (cS mf mb mv) sv X ln ap le fc f1 f2 (biF kn on) ha R) (va_A (wM am cy th (cS mf mb mv) sv X ln ap le fc f1 f2 (biF kn on) ha R) s.heap.size) s _ _ := G
    have hl : lv_has ls 4 [(0, .ref (am 0)), (1, .int (nI idx)), (2, .int (nI (idx - cnt (dgB kn on) 16))), (3, .int (nI 16))] := hl
    refine lv_iconst (v := (-1)) hx hb dX5_disagreeing_42 (by decide) ?_
    exact g_iret C0 G ⟨by (first | (rw [decide_eq_true c_15, decide_eq_true c_24] at hdg; rw [dl_hit hi2 (by rw [← hdg]; rfl) (by omega) (by omega)]) | rw [dl_none hi2]), by first | rfl | (exfalso; omega) | (simp only [cnt, c_7, Bool.false_eq_true, ↓reduceIte, eq_self, decide_true, decide_false, not_true_eq_false, not_false_eq_true, Bool.true_and, Bool.false_and, Bool.and_true, Bool.and_false]; done) | (simp [cnt, c_7]; done) | (simp [cnt, c_7]; rfl) | (simp [cnt, c_7]; omega)⟩ dX5_disagreeing_43
  · skip
    have c_7 : ¬ (16 ≤ i) := fun h => c_7 ((nI_leI (a := 16) (b := i) (by omega) (by omega)).mpr h)
    refine lv_aload_n hx hb dX5_disagreeing_10 rfl (lv_at hl 0 rfl) ?_
    refine lv_iload_n hx hb dX5_disagreeing_11 rfl (lv_at hl 3 rfl) ?_
    refine g_callV (As := [.int (nI i)]) (rest := []) (q0 := 0) C0 G (c_X5_missing l D cy (am := am) (mf := mf) (mb := mb) (mv := mv) (kn := kn) (on := on) (th := th) (sv := sv) (X := X) (ln := ln) (ap := ap) (le := le) (fc := fc) (f1 := f1) (f2 := f2) (ha := ha) (R := R) (line := i) (by omega)) k_X5_missing ml_X5_60 rfl rfl dX5_disagreeing_12 rfl rfl hl.1 (Nat.le_of_ble_eq_true rfl) ⟨Nat.le_of_ble_eq_true rfl, Nat.le_of_ble_eq_true rfl⟩ ⟨Nat.le_of_ble_eq_true rfl, Nat.le_of_ble_eq_true rfl⟩ (fun r W2 H locs hp G => ?_)
    obtain ⟨rfl, hw⟩ := hp
    have G := g_wc hw G
    refine W.eq (g2 := F0 m 15 ls [.int (nI (pc (msW (lineM i) kn)))]) rfl ?_
    refine lv_if_ne (tgt := 36) hx hb dX5_disagreeing_15 (by decide) (fun c_15 => ?_) (fun c_15 => ?_)
    · skip
      have c_15 : ¬ ((pc (msW (lineM i) kn)) = 0) := fun h => c_15 ((nI_eq (a := pc (msW (lineM i) kn)) (b := 0) (by omega) (by omega)).mpr h)
      refine lv_iinc (v := nI (i + 1)) (lv' := [(3, .int (nI (i + 1))), (0, .ref (am 0)), (1, .int (nI idx)), (2, .int (nI (idx - cnt (dgB kn on) i)))]) hx hb dX5_disagreeing_36 hl (k := 3) rfl (nI_add i 1) (by decide) rfl (fun ls hl => ?_)
      refine lv_goto (tgt := 4) hx hb dX5_disagreeing_39 (by decide) ?_
      have hl := lv_sub hl (l' := _) [1, 2, 3, 0] rfl
      exact ih_4 (i + 1) (by first | (rw [decide_eq_false c_15, Bool.false_and] at hdg; exact ⟨by omega, dl_no hi2 (by simp [← hdg]), by simp [hcs, ← hdg]; omega⟩) | (rw [decide_eq_false c_24, Bool.and_false] at hdg; exact ⟨by omega, dl_no hi2 (by simp [← hdg]), by simp [hcs, ← hdg]; omega⟩) | (rw [decide_eq_true c_15, decide_eq_true c_24] at hdg; exact ⟨by omega, dl_no hi2 (fun h => by omega), by simp [hcs, ← hdg]; omega⟩)) (by show _ < _; omega) _ _ _ G (by first | (rw [decide_eq_false c_15, Bool.false_and] at hdg; rw [show idx - cnt (dgB kn on) (i + 1) = idx - cnt (dgB kn on) i from by simp [hcs, ← hdg]]; exact hl) | (rw [decide_eq_false c_24, Bool.and_false] at hdg; rw [show idx - cnt (dgB kn on) (i + 1) = idx - cnt (dgB kn on) i from by simp [hcs, ← hdg]]; exact hl) | (rw [decide_eq_true c_15, decide_eq_true c_24] at hdg; rw [show idx - cnt (dgB kn on) (i + 1) = idx - cnt (dgB kn on) i - 1 from by simp [hcs, ← hdg]; omega]; exact hl))
    · skip
      have c_15 : (pc (msW (lineM i) kn)) = 0 := (nI_eq (a := pc (msW (lineM i) kn)) (b := 0) (by omega) (by omega)).mp c_15
      refine lv_aload_n hx hb dX5_disagreeing_18 rfl (lv_at hl 0 rfl) ?_
      refine lv_iload_n hx hb dX5_disagreeing_19 rfl (lv_at hl 3 rfl) ?_
      refine g_callV (As := [.int (nI i)]) (rest := []) (q0 := 0) C0 G (c_X5_parity l D cy (am := am) (mf := mf) (mb := mb) (mv := mv) (kn := kn) (on := on) (th := th) (sv := sv) (X := X) (ln := ln) (ap := ap) (le := le) (fc := fc) (f1 := f1) (f2 := f2) (ha := ha) (R := R) (line := i) (by omega) hok) k_X5_parity ml_X5_63 rfl rfl dX5_disagreeing_20 rfl rfl hl.1 (Nat.le_of_ble_eq_true rfl) ⟨Nat.le_of_ble_eq_true rfl, Nat.le_of_ble_eq_true rfl⟩ ⟨Nat.le_of_ble_eq_true rfl, Nat.le_of_ble_eq_true rfl⟩ (fun r W2 H locs hp G => ?_)
      obtain ⟨rfl, hw⟩ := hp
      have G := g_wc hw G
      refine W.eq (g2 := F0 m 23 ls [.int (nI (pc (lineM i &&& on) % 2))]) rfl ?_
      refine lv_iconst (v := 1) hx hb dX5_disagreeing_23 (by decide) ?_
      refine lv_icmp_ne (tgt := 36) hx hb dX5_disagreeing_24 (by decide) (fun c_24 => ?_) (fun c_24 => ?_)
      · skip
        have c_24 : ¬ ((pc (lineM i &&& on) % 2) = 1) := fun h => c_24 ((nI_eq (a := pc (lineM i &&& on) % 2) (b := 1) (by omega) (by omega)).mpr h)
        refine lv_iinc (v := nI (i + 1)) (lv' := [(3, .int (nI (i + 1))), (0, .ref (am 0)), (1, .int (nI idx)), (2, .int (nI (idx - cnt (dgB kn on) i)))]) hx hb dX5_disagreeing_36 hl (k := 3) rfl (nI_add i 1) (by decide) rfl (fun ls hl => ?_)
        refine lv_goto (tgt := 4) hx hb dX5_disagreeing_39 (by decide) ?_
        have hl := lv_sub hl (l' := _) [1, 2, 3, 0] rfl
        exact ih_4 (i + 1) (by first | (rw [decide_eq_false c_15, Bool.false_and] at hdg; exact ⟨by omega, dl_no hi2 (by simp [← hdg]), by simp [hcs, ← hdg]; omega⟩) | (rw [decide_eq_false c_24, Bool.and_false] at hdg; exact ⟨by omega, dl_no hi2 (by simp [← hdg]), by simp [hcs, ← hdg]; omega⟩) | (rw [decide_eq_true c_15, decide_eq_true c_24] at hdg; exact ⟨by omega, dl_no hi2 (fun h => by omega), by simp [hcs, ← hdg]; omega⟩)) (by show _ < _; omega) _ _ _ G (by first | (rw [decide_eq_false c_15, Bool.false_and] at hdg; rw [show idx - cnt (dgB kn on) (i + 1) = idx - cnt (dgB kn on) i from by simp [hcs, ← hdg]]; exact hl) | (rw [decide_eq_false c_24, Bool.and_false] at hdg; rw [show idx - cnt (dgB kn on) (i + 1) = idx - cnt (dgB kn on) i from by simp [hcs, ← hdg]]; exact hl) | (rw [decide_eq_true c_15, decide_eq_true c_24] at hdg; rw [show idx - cnt (dgB kn on) (i + 1) = idx - cnt (dgB kn on) i - 1 from by simp [hcs, ← hdg]; omega]; exact hl))
      · skip
        have c_24 : (pc (lineM i &&& on) % 2) = 1 := (nI_eq (a := pc (lineM i &&& on) % 2) (b := 1) (by omega) (by omega)).mp c_24
        refine lv_iload_n hx hb dX5_disagreeing_27 rfl (lv_at hl 2 rfl) ?_
        refine lv_if_ne (tgt := 33) hx hb dX5_disagreeing_28 (by decide) (fun c_28 => ?_) (fun c_28 => ?_)
        · skip
          have c_28 : ¬ ((idx - cnt (dgB kn on) i) = 0) := fun h => c_28 ((nI_eq (a := idx - cnt (dgB kn on) i) (b := 0) (by omega) (by omega)).mpr h)
          refine lv_iinc (v := nI (idx - cnt (dgB kn on) i - 1)) (lv' := [(2, .int (nI (idx - cnt (dgB kn on) i - 1))), (0, .ref (am 0)), (1, .int (nI idx)), (3, .int (nI i))]) hx hb dX5_disagreeing_33 hl (k := 2) rfl (dec1 (by omega)) (by decide) rfl (fun ls hl => ?_)
          refine lv_iinc (v := nI (i + 1)) (lv' := [(3, .int (nI (i + 1))), (2, .int (nI (idx - cnt (dgB kn on) i - 1))), (0, .ref (am 0)), (1, .int (nI idx))]) hx hb dX5_disagreeing_36 hl (k := 3) rfl (nI_add i 1) (by decide) rfl (fun ls hl => ?_)
          refine lv_goto (tgt := 4) hx hb dX5_disagreeing_39 (by decide) ?_
          have hl := lv_sub hl (l' := _) [2, 3, 1, 0] rfl
          exact ih_4 (i + 1) (by first | (rw [decide_eq_false c_15, Bool.false_and] at hdg; exact ⟨by omega, dl_no hi2 (by simp [← hdg]), by simp [hcs, ← hdg]; omega⟩) | (rw [decide_eq_false c_24, Bool.and_false] at hdg; exact ⟨by omega, dl_no hi2 (by simp [← hdg]), by simp [hcs, ← hdg]; omega⟩) | (rw [decide_eq_true c_15, decide_eq_true c_24] at hdg; exact ⟨by omega, dl_no hi2 (fun h => by omega), by simp [hcs, ← hdg]; omega⟩)) (by show _ < _; omega) _ _ _ G (by first | (rw [decide_eq_false c_15, Bool.false_and] at hdg; rw [show idx - cnt (dgB kn on) (i + 1) = idx - cnt (dgB kn on) i from by simp [hcs, ← hdg]]; exact hl) | (rw [decide_eq_false c_24, Bool.and_false] at hdg; rw [show idx - cnt (dgB kn on) (i + 1) = idx - cnt (dgB kn on) i from by simp [hcs, ← hdg]]; exact hl) | (rw [decide_eq_true c_15, decide_eq_true c_24] at hdg; rw [show idx - cnt (dgB kn on) (i + 1) = idx - cnt (dgB kn on) i - 1 from by simp [hcs, ← hdg]; omega]; exact hl))
        · skip
          have c_28 : (idx - cnt (dgB kn on) i) = 0 := (nI_eq (a := idx - cnt (dgB kn on) i) (b := 0) (by omega) (by omega)).mp c_28
          refine lv_iload_n hx hb dX5_disagreeing_31 rfl (lv_at hl 3 rfl) ?_
          exact g_iret C0 G ⟨by (first | (rw [decide_eq_true c_15, decide_eq_true c_24] at hdg; rw [dl_hit hi2 (by rw [← hdg]; rfl) (by omega) (by omega)]) | rw [dl_none hi2]), by first | rfl | (exfalso; omega) | (simp only [cnt, c_7, c_15, c_24, c_28, Bool.false_eq_true, ↓reduceIte, eq_self, decide_true, decide_false, not_true_eq_false, not_false_eq_true, Bool.true_and, Bool.false_and, Bool.and_true, Bool.and_false]; done) | (simp [cnt, c_7, c_15, c_24, c_28]; done) | (simp [cnt, c_7, c_15, c_24, c_28]; rfl) | (simp [cnt, c_7, c_15, c_24, c_28]; omega)⟩ dX5_disagreeing_32

set_option maxHeartbeats 4000000 in
set_option maxRecDepth 100000 in
theorem c_X5_disagreeingAll (l : Launch) (D : va_G) (cy : Nat → ClassId) (am : Nat → Nat) (mf : Nat → Int64) (mb : Nat → Int64) (mv : Nat → Nat) (kn : Int64) (on : Int64) (th : Int32) (sv : Nat) (X : Nat → Int32) (ln : Nat) (ap : Nat) (le : Nat) (fc : Nat) (f1 : Int32) (f2 : Int32) (ha : Int64) (R : va_W) (z : Nat) (h1 : z < 21) : GE l D (gts cy) yX5_disagreeingAll cX5_disagreeingAll 3 (some .int) 4 0 0 [.ref (am 0), .int (nI z)] (wM am cy th (cS mf mb mv) sv X ln ap le fc f1 f2 (biF kn on) ha R) (gF (some (.int (nI (cnt (dgB (fa (sdW (mf z) (mb z)) (onW (mf z) (mb z))).1 (fa (sdW (mf z) (mb z)) (onW (mf z) (mb z))).2) 16)))) (wM am cy th (cS mf mb mv) sv X ln ap le fc f1 f2 (biF ((fa (sdW (mf z) (mb z)) (onW (mf z) (mb z))).1) ((fa (sdW (mf z) (mb z)) (onW (mf z) (mb z))).2)) ha R)) := by
  refine g_intro (by decide +kernel) (lv := [(0, .ref (am 0)), (1, .int (nI z))]) rfl (Nat.le_of_ble_eq_true rfl) ?_
  intro p e s m below meth c C0 G ls hl
  have hx := C0.1
  have hb := C0.2.1
  have hown := C0.2.2.2.2.2.1
  have hts := C0.2.2.2.2.2.2.1
  refine lv_aload_n hx hb dX5_disagreeingAll_0 rfl (lv_at hl 0 rfl) ?_
  refine lv_iload_n hx hb dX5_disagreeingAll_1 rfl (lv_at hl 1 rfl) ?_
  refine lv_iconst (v := (-1)) hx hb dX5_disagreeingAll_2 (by decide) ?_
  refine g_callV (As := [.int (nI z), .int (-1)]) (rest := []) (q0 := 0) C0 G (c_X5_tells l D cy (am := am) (mf := mf) (mb := mb) (mv := mv) (kn := kn) (on := on) (th := th) (sv := sv) (X := X) (ln := ln) (ap := ap) (le := le) (fc := fc) (f1 := f1) (f2 := f2) (ha := ha) (R := R) (z := z) (but := (-1 : Int32)) (sd := sdW (mf z) (mb z)) (so := onW (mf z) (mb z)) (by omega) ti_none (ok_sd _ _)) k_X5_tells ml_X5_73 rfl rfl dX5_disagreeingAll_3 rfl rfl hl.1 (Nat.le_of_ble_eq_true rfl) ⟨Nat.le_of_ble_eq_true rfl, Nat.le_of_ble_eq_true rfl⟩ ⟨Nat.le_of_ble_eq_true rfl, Nat.le_of_ble_eq_true rfl⟩ (fun r W2 H locs hp G => ?_)
  obtain ⟨rfl, hw⟩ := hp
  have G := g_wc hw G
  refine W.eq (g2 := F0 m 6 ls [.int (nI (pc ((fa (sdW (mf z) (mb z)) (onW (mf z) (mb z))).1 ^^^ (-1))))]) rfl ?_
  refine lv_pop hx hb dX5_disagreeingAll_6 rfl ?_
  refine lv_iconst (v := 0) hx hb dX5_disagreeingAll_7 (by decide) ?_
  refine lv_istore_n (lv' := [(2, .int 0), (0, .ref (am 0)), (1, .int (nI z))]) hx hb dX5_disagreeingAll_8 rfl hl (by decide) rfl (fun ls hl => ?_)
  have hl := lv_sub hl (l' := [(0, .ref (am 0)), (1, .int (nI z)), (2, .int 0)]) [1, 2, 0] rfl
  refine g_loop (σ := Nat) (fun i => 17 - i) (fun i => wM am cy th (cS mf mb mv) sv X ln ap le fc f1 f2 (biF ((fa (sdW (mf z) (mb z)) (onW (mf z) (mb z))).1) ((fa (sdW (mf z) (mb z)) (onW (mf z) (mb z))).2)) ha R) (fun i => [(0, .ref (am 0)), (1, .int (nI z)), (2, .int (nI i))]) (fun i => i ≤ cnt (dgB (fa (sdW (mf z) (mb z)) (onW (mf z) (mb z))).1 (fa (sdW (mf z) (mb z)) (onW (mf z) (mb z))).2) 16) ?_ 0 (Nat.zero_le _) G hl
  intro i hi_9 ih_9 H locs ls G hl
  have hcl := cnt_le (dgB (fa (sdW (mf z) (mb z)) (onW (mf z) (mb z))).1 (fa (sdW (mf z) (mb z)) (onW (mf z) (mb z))).2) 16
  have hokf := ok_rdn (ok_sd (mf z) (mb z)) 65
  have G : gW D (wM am cy th (cS mf mb mv) sv X ln ap le fc f1 f2 (biF ((fa (sdW (mf z) (mb z)) (onW (mf z) (mb z))).1) ((fa (sdW (mf z) (mb z)) (onW (mf z) (mb z))).2)) ha R) (va_A (wM am cy th (cS mf mb mv) sv X ln ap le fc f1 f2 (biF kn on) ha R) s.heap.size) s H locs := G
  have hl : lv_has ls 3 [(0, .ref (am 0)), (1, .int (nI z)), (2, .int (nI i))] := hl
  refine lv_aload_n hx hb dX5_disagreeingAll_9 rfl (lv_at hl 0 rfl) ?_
  refine lv_iload_n hx hb dX5_disagreeingAll_10 rfl (lv_at hl 2 rfl) ?_
  refine g_callV (As := [.int (nI i)]) (rest := []) (q0 := 0) C0 G (c_X5_disagreeing l D cy (am := am) (mf := mf) (mb := mb) (mv := mv) (kn := (fa (sdW (mf z) (mb z)) (onW (mf z) (mb z))).1) (on := (fa (sdW (mf z) (mb z)) (onW (mf z) (mb z))).2) (th := th) (sv := sv) (X := X) (ln := ln) (ap := ap) (le := le) (fc := fc) (f1 := f1) (f2 := f2) (ha := ha) (R := R) (idx := i) (by omega) hokf) k_X5_disagreeing ml_X5_76 rfl rfl dX5_disagreeingAll_11 rfl rfl hl.1 (Nat.le_of_ble_eq_true rfl) ⟨Nat.le_of_ble_eq_true rfl, Nat.le_of_ble_eq_true rfl⟩ ⟨Nat.le_of_ble_eq_true rfl, Nat.le_of_ble_eq_true rfl⟩ (fun r W2 H locs hp G => ?_)
  obtain ⟨rfl, hw⟩ := hp
  have G := g_wc hw G
  refine W.eq (g2 := F0 m 14 ls [.int (dlI (dgB ((fa (sdW (mf z) (mb z)) (onW (mf z) (mb z))).1) ((fa (sdW (mf z) (mb z)) (onW (mf z) (mb z))).2)) i)]) rfl ?_
  refine lv_iconst (v := (-1)) hx hb dX5_disagreeingAll_14 (by decide) ?_
  refine lv_icmp_eq (tgt := 24) hx hb dX5_disagreeingAll_15 (by decide) (fun c_15 => ?_) (fun c_15 => ?_)
  · skip
    have h15 := dlI_m1.mp c_15
    refine lv_iload_n hx hb dX5_disagreeingAll_24 rfl (lv_at hl 2 rfl) ?_
    exact g_iret C0 G ⟨by (rw [show i = cnt (dgB (fa (sdW (mf z) (mb z)) (onW (mf z) (mb z))).1 (fa (sdW (mf z) (mb z)) (onW (mf z) (mb z))).2) 16 from by omega]), by first | rfl | (exfalso; omega) | (simp only [c_15, Bool.false_eq_true, ↓reduceIte, eq_self, decide_true, decide_false, not_true_eq_false, not_false_eq_true, Bool.true_and, Bool.false_and, Bool.and_true, Bool.and_false]; done) | (simp [c_15]; done) | (simp [c_15]; rfl) | (simp [c_15]; omega)⟩ dX5_disagreeingAll_25
  · skip
    refine lv_iinc (v := nI (i + 1)) (lv' := [(2, .int (nI (i + 1))), (0, .ref (am 0)), (1, .int (nI z))]) hx hb dX5_disagreeingAll_18 hl (k := 2) rfl (nI_add i 1) (by decide) rfl (fun ls hl => ?_)
    refine lv_goto (tgt := 9) hx hb dX5_disagreeingAll_21 (by decide) ?_
    have hl := lv_sub hl (l' := _) [1, 2, 0] rfl
    exact ih_9 (i + 1) (Nat.lt_of_not_le (fun h => c_15 (dlI_m1.mpr h))) (by show _ < _; omega) _ _ _ G hl

set_option maxHeartbeats 4000000 in
set_option maxRecDepth 100000 in
theorem c_X5_isBlank (l : Launch) (D : va_G) (cy : Nat → ClassId) (am : Nat → Nat) (mf : Nat → Int64) (mb : Nat → Int64) (mv : Nat → Nat) (th : Int32) (sv : Nat) (X : Nat → Int32) (ln : Nat) (ap : Nat) (le : Nat) (fc : Nat) (f1 : Int32) (f2 : Int32) (ha : Int64) (R : va_W) (B : Nat → Int32) (z : Nat) (row : Nat) (h1 : z < 21) (h2 : row < 8) : GE l D (gts cy) yX5_isBlank cX5_isBlank 5 (some .boolean) 1 0 0 [.ref (am 0), .int (nI z), .int (nI row)] (wM am cy th (cS mf mb mv) sv X ln ap le fc f1 f2 (B) ha R) (gF (some (.int (bI (cpB (mf z) (mb z) row)))) (wM am cy th (cS mf mb mv) sv X ln ap le fc f1 f2 (B) ha R)) := by
  refine g_intro (by decide +kernel) (lv := [(0, .ref (am 0)), (1, .int (nI z)), (2, .int (nI row))]) rfl (Nat.le_of_ble_eq_true rfl) ?_
  intro p e s m below meth c C0 G ls hl
  have hx := C0.1
  have hb := C0.2.1
  have hown := C0.2.2.2.2.2.1
  have hts := C0.2.2.2.2.2.2.1
  refine lv_iconst (v := 1) hx hb dX5_isBlank_0 (by decide) ?_
  refine lv_istore_n (lv' := [(3, .int 1), (0, .ref (am 0)), (1, .int (nI z)), (2, .int (nI row))]) hx hb dX5_isBlank_1 rfl hl (by decide) rfl (fun ls hl => ?_)
  refine lv_iconst (v := 0) hx hb dX5_isBlank_2 (by decide) ?_
  refine lv_istore (lv' := [(4, .int 0), (3, .int 1), (0, .ref (am 0)), (1, .int (nI z)), (2, .int (nI row))]) hx hb dX5_isBlank_3 hl (by decide) rfl (fun ls hl => ?_)
  have hl := lv_sub hl (l' := [(0, .ref (am 0)), (1, .int (nI z)), (2, .int (nI row)), (3, .int 1), (4, .int 0)]) [2, 3, 4, 1, 0] rfl
  refine g_loop (σ := Nat) (fun i => 8 - i) (fun i => wM am cy th (cS mf mb mv) sv X ln ap le fc f1 f2 (B) ha R) (fun i => [(0, .ref (am 0)), (1, .int (nI z)), (2, .int (nI row)), (3, .int (bI (allB (fun k => decide (kdI (mf z) (mb z) (8 * row + k) = 2)) i))), (4, .int (nI i))]) (fun i => i ≤ 8) ?_ 0 (by show _ ≤ _; omega) G hl
  intro i hi_5 ih_5 H locs ls G hl
  have G : gW D (wM am cy th (cS mf mb mv) sv X ln ap le fc f1 f2 (B) ha R) (va_A (wM am cy th (cS mf mb mv) sv X ln ap le fc f1 f2 (B) ha R) s.heap.size) s H locs := G
  have hl : lv_has ls 5 [(0, .ref (am 0)), (1, .int (nI z)), (2, .int (nI row)), (3, .int (bI (allB (fun k => decide (kdI (mf z) (mb z) (8 * row + k) = 2)) i))), (4, .int (nI i))] := hl
  refine lv_iload hx hb dX5_isBlank_5 (lv_at hl 4 rfl) ?_
  refine lv_bipush (v := 8) hx hb dX5_isBlank_7 (by decide) ?_
  refine lv_icmp_ge (tgt := 44) hx hb dX5_isBlank_9 (by decide) (fun c_9 => ?_) (fun c_9 => ?_)
  · skip
    have c_9 : 8 ≤ i := (nI_leI (a := 8) (b := i) (by omega) (by omega)).mp c_9
    obtain rfl : i = 8 := by omega
    have G : gW D (wM am cy th (cS mf mb mv) sv X ln ap le fc f1 f2 (B) ha R) (va_A (wM am cy th (cS mf mb mv) sv X ln ap le fc f1 f2 (B) ha R) s.heap.size) s _ _ := G
    have hl : lv_has ls 5 [(0, .ref (am 0)), (1, .int (nI z)), (2, .int (nI row)), (3, .int (bI (allB (fun k => decide (kdI (mf z) (mb z) (8 * row + k) = 2)) 8))), (4, .int (nI 8))] := hl
    refine lv_iload_n hx hb dX5_isBlank_44 rfl (lv_at hl 3 rfl) ?_
    exact g_zret C0 G (g_nz _) ⟨by rw [cp_all h2], by first | rfl | (exfalso; omega) | (simp only [allB, c_9, Bool.false_eq_true, ↓reduceIte, eq_self, decide_true, decide_false, not_true_eq_false, not_false_eq_true, Bool.true_and, Bool.false_and, Bool.and_true, Bool.and_false]; done) | (simp [allB, c_9]; done) | (simp [allB, c_9]; rfl) | (simp [allB, c_9]; omega)⟩ dX5_isBlank_45
  · skip
    have c_9 : ¬ (8 ≤ i) := fun h => c_9 ((nI_leI (a := 8) (b := i) (by omega) (by omega)).mpr h)
    refine lv_iload_n hx hb dX5_isBlank_12 rfl (lv_at hl 3 rfl) ?_
    refine lv_if_eq (tgt := 36) hx hb dX5_isBlank_13 (by decide) (fun c_13 => ?_) (fun c_13 => ?_)
    · skip
      have c_13 : (allB (fun k => decide (kdI (mf z) (mb z) (8 * row + k) = 2)) i) = false := bI_f c_13
      refine lv_iconst (v := 0) hx hb dX5_isBlank_36 (by decide) ?_
      refine lv_istore_n (lv' := [(3, .int 0), (0, .ref (am 0)), (1, .int (nI z)), (2, .int (nI row)), (4, .int (nI i))]) hx hb dX5_isBlank_37 rfl hl (by decide) rfl (fun ls hl => ?_)
      refine lv_iinc (v := nI (i + 1)) (lv' := [(4, .int (nI (i + 1))), (3, .int 0), (0, .ref (am 0)), (1, .int (nI z)), (2, .int (nI row))]) hx hb dX5_isBlank_38 hl (k := 4) rfl (nI_add i 1) (by decide) rfl (fun ls hl => ?_)
      refine lv_goto (tgt := 5) hx hb dX5_isBlank_41 (by decide) ?_
      have hl := lv_sub hl (l' := _) [2, 3, 4, 1, 0] rfl
      exact ih_5 (i + 1) (by show _ ≤ _; omega) (by show _ < _; omega) _ _ _ G (by rw [show allB (fun k => decide (kdI (mf z) (mb z) (8 * row + k) = 2)) (i + 1) = false from by simp [allB, c_13]]; exact hl)
    · skip
      have c_13 : (allB (fun k => decide (kdI (mf z) (mb z) (8 * row + k) = 2)) i) = true := bI_t c_13
      refine lv_aload_n hx hb dX5_isBlank_16 rfl (lv_at hl 0 rfl) ?_
      refine lv_iload_n hx hb dX5_isBlank_17 rfl (lv_at hl 1 rfl) ?_
      refine lv_bipush (v := 8) hx hb dX5_isBlank_18 (by decide) ?_
      refine lv_iload_n hx hb dX5_isBlank_20 rfl (lv_at hl 2 rfl) ?_
      refine lv_imul hx hb dX5_isBlank_21 ?_
      refine g_topi (x' := nI (8 * row)) (pk_mul 8 row) ?_
      refine lv_iload hx hb dX5_isBlank_22 (lv_at hl 4 rfl) ?_
      refine lv_iadd hx hb dX5_isBlank_24 ?_
      refine g_topi (x' := nI ((8 * row) + i)) (nI_add (8 * row) i) ?_
      refine g_callV (As := [.int (nI z), .int (nI ((8 * row) + i))]) (rest := []) (q0 := 0) C0 G (c_X5_of l D cy (am := am) (mf := mf) (mb := mb) (mv := mv) (th := th) (sv := sv) (X := X) (ln := ln) (ap := ap) (le := le) (fc := fc) (f1 := f1) (f2 := f2) (ha := ha) (R := R) (B := B) (z := z) (k := (8 * row) + i) (by omega) (by omega)) k_X5_of ml_X5_35 rfl rfl dX5_isBlank_25 rfl rfl hl.1 (Nat.le_of_ble_eq_true rfl) ⟨Nat.le_of_ble_eq_true rfl, Nat.le_of_ble_eq_true rfl⟩ ⟨Nat.le_of_ble_eq_true rfl, Nat.le_of_ble_eq_true rfl⟩ (fun r W2 H locs hp G => ?_)
      obtain ⟨rfl, hw⟩ := hp
      have G := g_wc hw G
      refine W.eq (g2 := F0 m 28 ls [.int (kdI (mf z) (mb z) ((8 * row) + i))]) rfl ?_
      refine lv_iconst (v := 2) hx hb dX5_isBlank_28 (by decide) ?_
      refine lv_icmp_ne (tgt := 36) hx hb dX5_isBlank_29 (by decide) (fun c_29 => ?_) (fun c_29 => ?_)
      · skip
        refine lv_iconst (v := 0) hx hb dX5_isBlank_36 (by decide) ?_
        refine lv_istore_n (lv' := [(3, .int 0), (0, .ref (am 0)), (1, .int (nI z)), (2, .int (nI row)), (4, .int (nI i))]) hx hb dX5_isBlank_37 rfl hl (by decide) rfl (fun ls hl => ?_)
        refine lv_iinc (v := nI (i + 1)) (lv' := [(4, .int (nI (i + 1))), (3, .int 0), (0, .ref (am 0)), (1, .int (nI z)), (2, .int (nI row))]) hx hb dX5_isBlank_38 hl (k := 4) rfl (nI_add i 1) (by decide) rfl (fun ls hl => ?_)
        refine lv_goto (tgt := 5) hx hb dX5_isBlank_41 (by decide) ?_
        have hl := lv_sub hl (l' := _) [2, 3, 4, 1, 0] rfl
        exact ih_5 (i + 1) (by show _ ≤ _; omega) (by show _ < _; omega) _ _ _ G (by rw [show allB (fun k => decide (kdI (mf z) (mb z) (8 * row + k) = 2)) (i + 1) = false from by simp [allB, c_29]]; exact hl)
      · skip
        refine lv_iconst (v := 1) hx hb dX5_isBlank_32 (by decide) ?_
        refine lv_goto (tgt := 37) hx hb dX5_isBlank_33 (by decide) ?_
        refine lv_istore_n (lv' := [(3, .int 1), (0, .ref (am 0)), (1, .int (nI z)), (2, .int (nI row)), (4, .int (nI i))]) hx hb dX5_isBlank_37 rfl hl (by decide) rfl (fun ls hl => ?_)
        refine lv_iinc (v := nI (i + 1)) (lv' := [(4, .int (nI (i + 1))), (3, .int 1), (0, .ref (am 0)), (1, .int (nI z)), (2, .int (nI row))]) hx hb dX5_isBlank_38 hl (k := 4) rfl (nI_add i 1) (by decide) rfl (fun ls hl => ?_)
        refine lv_goto (tgt := 5) hx hb dX5_isBlank_41 (by decide) ?_
        have hl := lv_sub hl (l' := _) [2, 3, 4, 1, 0] rfl
        exact ih_5 (i + 1) (by show _ ≤ _; omega) (by show _ < _; omega) _ _ _ G (by rw [show allB (fun k => decide (kdI (mf z) (mb z) (8 * row + k) = 2)) (i + 1) = true from by simp [allB, c_13, c_29]]; exact hl)

set_option maxHeartbeats 4000000 in
set_option maxRecDepth 100000 in
theorem c_X5_punches (l : Launch) (D : va_G) (cy : Nat → ClassId) (am : Nat → Nat) (mf : Nat → Int64) (mb : Nat → Int64) (mv : Nat → Nat) (th : Int32) (sv : Nat) (X : Nat → Int32) (ln : Nat) (ap : Nat) (le : Nat) (fc : Nat) (f1 : Int32) (f2 : Int32) (ha : Int64) (R : va_W) (B : Nat → Int32) (z : Nat) (row : Nat) (u : Nat) (h1 : z < 21) (h2 : row < 7) (h3 : u < 128) : GE l D (gts cy) yX5_punches cX5_punches 7 (some .int) 1 0 0 [.ref (am 0), .int (nI z), .int (nI row), .int (nI u)] (wM am cy th (cS mf mb mv) sv X ln ap le fc f1 f2 (B) ha R) (gF (some (.int (nI (pc7 u % 2)))) (wM am cy th (cS (va_up mf z (pnF (mf z) row u)) (va_up mb z (pnB (mb z) row u)) mv) sv X ln ap le fc f1 f2 (B) ha R)) := by
  refine g_intro (by decide +kernel) (lv := [(0, .ref (am 0)), (1, .int (nI z)), (2, .int (nI row)), (3, .int (nI u))]) rfl (Nat.le_of_ble_eq_true rfl) ?_
  intro p e s m below meth c C0 G ls hl
  have hx := C0.1
  have hb := C0.2.1
  have hown := C0.2.2.2.2.2.1
  have hts := C0.2.2.2.2.2.2.1
  refine lv_iconst (v := 0) hx hb dX5_punches_0 (by decide) ?_
  refine lv_istore (lv' := [(4, .int 0), (0, .ref (am 0)), (1, .int (nI z)), (2, .int (nI row)), (3, .int (nI u))]) hx hb dX5_punches_1 hl (by decide) rfl (fun ls hl => ?_)
  refine lv_iconst (v := 0) hx hb dX5_punches_3 (by decide) ?_
  refine lv_istore (lv' := [(5, .int 0), (4, .int 0), (0, .ref (am 0)), (1, .int (nI z)), (2, .int (nI row)), (3, .int (nI u))]) hx hb dX5_punches_4 hl (by decide) rfl (fun ls hl => ?_)
  have hl := lv_sub hl (l' := [(0, .ref (am 0)), (1, .int (nI z)), (2, .int (nI row)), (3, .int (nI u)), (4, .int 0), (5, .int 0)]) [2, 3, 4, 5, 1, 0] rfl
  refine g_loop (σ := Nat) (fun i => 7 - i) (fun i => wM am cy th (cS (va_up mf z (pmF (mf z) row u i)) (va_up mb z (pmB (mb z) row u i)) mv) sv X ln ap le fc f1 f2 (B) ha R) (fun i => [(0, .ref (am 0)), (1, .int (nI z)), (2, .int (nI row)), (3, .int (nI u)), (4, .int (nI (xrN u i))), (5, .int (nI i))]) (fun i => i ≤ 7) ?_ 0 (by show _ ≤ _; omega) (g_wc (by rw [show pmF (mf z) row u 0 = mf z from rfl, show pmB (mb z) row u 0 = mb z from rfl, va_up_s, va_up_s]) G) hl
  intro i hi_6 ih_6 H locs ls G hl
  have hxl := xrN_lt u i
  have G : gW D (wM am cy th (cS (va_up mf z (pmF (mf z) row u i)) (va_up mb z (pmB (mb z) row u i)) mv) sv X ln ap le fc f1 f2 (B) ha R) (va_A (wM am cy th (cS mf mb mv) sv X ln ap le fc f1 f2 (B) ha R) s.heap.size) s H locs := G
  have hl : lv_has ls 7 [(0, .ref (am 0)), (1, .int (nI z)), (2, .int (nI row)), (3, .int (nI u)), (4, .int (nI (xrN u i))), (5, .int (nI i))] := hl
  refine lv_iload hx hb dX5_punches_6 (lv_at hl 5 rfl) ?_
  refine lv_bipush (v := 7) hx hb dX5_punches_8 (by decide) ?_
  refine lv_icmp_ge (tgt := 51) hx hb dX5_punches_10 (by decide) (fun c_10 => ?_) (fun c_10 => ?_)
  · skip
    have c_10 : 7 ≤ i := (nI_leI (a := 7) (b := i) (by omega) (by omega)).mp c_10
    obtain rfl : i = 7 := by omega
    have G : gW D (wM am cy th (cS (va_up mf z (pmF (mf z) row u 7)) (va_up mb z (pmB (mb z) row u 7)) mv) sv X ln ap le fc f1 f2 (B) ha R) (va_A (wM am cy th (cS mf mb mv) sv X ln ap le fc f1 f2 (B) ha R) s.heap.size) s _ _ := G
    have hl : lv_has ls 7 [(0, .ref (am 0)), (1, .int (nI z)), (2, .int (nI row)), (3, .int (nI u)), (4, .int (nI (xrN u 7))), (5, .int (nI 7))] := hl
    rw [xrN_7 u h3] at hl
    refine lv_aload_n hx hb dX5_punches_51 rfl (lv_at hl 0 rfl) ?_
    refine lv_iload_n hx hb dX5_punches_52 rfl (lv_at hl 1 rfl) ?_
    refine lv_bipush (v := 8) hx hb dX5_punches_53 (by decide) ?_
    refine lv_iload_n hx hb dX5_punches_55 rfl (lv_at hl 2 rfl) ?_
    refine lv_imul hx hb dX5_punches_56 ?_
    refine g_topi (x' := nI (8 * row)) (pk_mul 8 row) ?_
    refine lv_bipush (v := 8) hx hb dX5_punches_57 (by decide) ?_
    refine lv_iadd hx hb dX5_punches_59 ?_
    refine g_topi (x' := nI ((8 * row) + 8)) (nI_add (8 * row) 8) ?_
    refine lv_iconst (v := 1) hx hb dX5_punches_60 (by decide) ?_
    refine lv_isub hx hb dX5_punches_61 ?_
    refine g_topi (x' := nI (8 * row + 7)) (pk_sub (a := 8 * row + 8) (b := 1) (by omega)) ?_
    refine lv_iload hx hb dX5_punches_62 (lv_at hl 4 rfl) ?_
    refine g_callV (As := [.int (nI z), .int (nI (8 * row + 7)), .int (nI (pc7 u % 2))]) (rest := []) (q0 := 0) C0 G (c_X5_lay l D cy (am := am) (mf := va_up mf z (pmF (mf z) row u 7)) (mb := va_up mb z (pmB (mb z) row u 7)) (mv := mv) (th := th) (sv := sv) (X := X) (ln := ln) (ap := ap) (le := le) (fc := fc) (f1 := f1) (f2 := f2) (ha := ha) (R := R) (B := B) (z := z) (k := 8 * row + 7) (q := pc7 u % 2) (by omega) (by omega) (by omega)) k_X5_lay ml_X5_31 rfl rfl dX5_punches_64 rfl rfl hl.1 (Nat.le_of_ble_eq_true rfl) ⟨Nat.le_of_ble_eq_true rfl, Nat.le_of_ble_eq_true rfl⟩ ⟨Nat.le_of_ble_eq_true rfl, Nat.le_of_ble_eq_true rfl⟩ (fun r W2 H locs hp G => ?_)
    obtain ⟨rfl, hw⟩ := hp
    have G := g_wc hw G
    refine W.eq (g2 := F0 m 67 ls []) rfl ?_
    refine lv_iload hx hb dX5_punches_67 (lv_at hl 4 rfl) ?_
    exact g_iret C0 G ⟨by first | rfl | (exfalso; omega) | (simp only [c_10, Bool.false_eq_true, ↓reduceIte, eq_self, decide_true, decide_false, not_true_eq_false, not_false_eq_true, Bool.true_and, Bool.false_and, Bool.and_true, Bool.and_false]; done) | (simp [c_10]; done) | (simp [c_10]; rfl) | (simp [c_10]; omega), by simp only [va_up_e, bx_uu, pnF, pnB]⟩ dX5_punches_69
  · skip
    have c_10 : ¬ (7 ≤ i) := fun h => c_10 ((nI_leI (a := 7) (b := i) (by omega) (by omega)).mpr h)
    refine lv_iload_n hx hb dX5_punches_13 rfl (lv_at hl 3 rfl) ?_
    refine lv_bipush (v := 6) hx hb dX5_punches_14 (by decide) ?_
    refine lv_iload hx hb dX5_punches_16 (lv_at hl 5 rfl) ?_
    refine lv_isub hx hb dX5_punches_18 ?_
    refine g_topi (x' := nI (6 - i)) (pk_sub (a := 6) (b := i) (by omega)) ?_
    refine lv_ishr hx hb dX5_punches_19 ?_
    refine g_topi (x' := nI (u / 2 ^ (6 - i))) (shrN (a := u) (n := 6 - i) (by omega) (by omega)) ?_
    refine lv_iconst (v := 1) hx hb dX5_punches_20 (by decide) ?_
    refine lv_iand hx hb dX5_punches_21 ?_
    refine g_topi (x' := nI ((u / 2 ^ (6 - i)) % 2)) (and1 (u / 2 ^ (6 - i))) ?_
    refine lv_istore (lv' := [(6, .int (nI ((u / 2 ^ (6 - i)) % 2))), (0, .ref (am 0)), (1, .int (nI z)), (2, .int (nI row)), (3, .int (nI u)), (4, .int (nI (xrN u i))), (5, .int (nI i))]) hx hb dX5_punches_22 hl (by decide) rfl (fun ls hl => ?_)
    refine lv_aload_n hx hb dX5_punches_24 rfl (lv_at hl 1 rfl) ?_
    refine lv_iload_n hx hb dX5_punches_25 rfl (lv_at hl 2 rfl) ?_
    refine lv_bipush (v := 8) hx hb dX5_punches_26 (by decide) ?_
    refine lv_iload_n hx hb dX5_punches_28 rfl (lv_at hl 3 rfl) ?_
    refine lv_imul hx hb dX5_punches_29 ?_
    refine g_topi (x' := nI (8 * row)) (pk_mul 8 row) ?_
    refine lv_iload hx hb dX5_punches_30 (lv_at hl 6 rfl) ?_
    refine lv_iadd hx hb dX5_punches_32 ?_
    refine g_topi (x' := nI ((8 * row) + i)) (nI_add (8 * row) i) ?_
    refine lv_iload hx hb dX5_punches_33 (lv_at hl 0 rfl) ?_
    refine g_callV (As := [.int (nI z), .int (nI ((8 * row) + i)), .int (nI ((u / 2 ^ (6 - i)) % 2))]) (rest := []) (q0 := 0) C0 G (c_X5_lay l D cy (am := am) (mf := va_up mf z (pmF (mf z) row u i)) (mb := va_up mb z (pmB (mb z) row u i)) (mv := mv) (th := th) (sv := sv) (X := X) (ln := ln) (ap := ap) (le := le) (fc := fc) (f1 := f1) (f2 := f2) (ha := ha) (R := R) (B := B) (z := z) (k := (8 * row) + i) (q := (u / 2 ^ (6 - i)) % 2) (by omega) (by omega) (by omega)) k_X5_lay ml_X5_31 rfl rfl dX5_punches_35 rfl rfl hl.1 (Nat.le_of_ble_eq_true rfl) ⟨Nat.le_of_ble_eq_true rfl, Nat.le_of_ble_eq_true rfl⟩ ⟨Nat.le_of_ble_eq_true rfl, Nat.le_of_ble_eq_true rfl⟩ (fun r W2 H locs hp G => ?_)
    obtain ⟨rfl, hw⟩ := hp
    have G := g_wc hw G
    refine W.eq (g2 := F0 m 38 ls []) rfl ?_
    refine lv_iload hx hb dX5_punches_38 (lv_at hl 5 rfl) ?_
    refine lv_iload hx hb dX5_punches_40 (lv_at hl 0 rfl) ?_
    refine lv_ixor hx hb dX5_punches_42 ?_
    refine g_topi (x' := nI (xrN u (i + 1))) (xor2 (xrN_lt u i) (by omega)) ?_
    refine lv_istore (lv' := [(4, .int (nI (xrN u (i + 1)))), (6, .int (nI ((u / 2 ^ (6 - i)) % 2))), (0, .ref (am 0)), (1, .int (nI z)), (2, .int (nI row)), (3, .int (nI u)), (5, .int (nI i))]) hx hb dX5_punches_43 hl (by decide) rfl (fun ls hl => ?_)
    refine lv_iinc (v := nI (i + 1)) (lv' := [(5, .int (nI (i + 1))), (4, .int (nI (xrN u (i + 1)))), (6, .int (nI ((u / 2 ^ (6 - i)) % 2))), (0, .ref (am 0)), (1, .int (nI z)), (2, .int (nI row)), (3, .int (nI u))]) hx hb dX5_punches_45 hl (k := 6) rfl (nI_add i 1) (by decide) rfl (fun ls hl => ?_)
    refine lv_goto (tgt := 6) hx hb dX5_punches_48 (by decide) ?_
    have hl := lv_sub hl (l' := _) [3, 4, 5, 6, 1, 0] rfl
    exact ih_6 (i + 1) (by show _ ≤ _; omega) (by show _ < _; omega) _ _ _ (g_wc (by simp only [va_up_e, bx_uu, pmF, pmB]) G) hl

set_option maxHeartbeats 4000000 in
set_option maxRecDepth 100000 in
theorem c_X5_canClose (l : Launch) (D : va_G) (cy : Nat → ClassId) (am : Nat → Nat) (mf : Nat → Int64) (mb : Nat → Int64) (mv : Nat → Nat) (th : Int32) (sv : Nat) (X : Nat → Int32) (ln : Nat) (ap : Nat) (le : Nat) (fc : Nat) (f1 : Int32) (f2 : Int32) (ha : Int64) (R : va_W) (B : Nat → Int32) (z : Nat) (h1 : z < 21) : GE l D (gts cy) yX5_canClose cX5_canClose 4 (some .boolean) 2 0 0 [.ref (am 0), .int (nI z)] (wM am cy th (cS mf mb mv) sv X ln ap le fc f1 f2 (B) ha R) (gF (some (.int (bI (ccB (mf z) (mb z))))) (wM am cy th (cS mf mb mv) sv X ln ap le fc f1 f2 (B) ha R)) := by
  refine g_intro (by decide +kernel) (lv := [(0, .ref (am 0)), (1, .int (nI z))]) rfl (Nat.le_of_ble_eq_true rfl) ?_
  intro p e s m below meth c C0 G ls hl
  have hx := C0.1
  have hb := C0.2.1
  have hown := C0.2.2.2.2.2.1
  have hts := C0.2.2.2.2.2.2.1
  refine lv_aload_n hx hb dX5_canClose_0 rfl (lv_at hl 0 rfl) ?_
  refine lv_iload_n hx hb dX5_canClose_1 rfl (lv_at hl 1 rfl) ?_
  refine lv_bipush (v := 7) hx hb dX5_canClose_2 (by decide) ?_
  refine g_callV (As := [.int (nI z), .int 7]) (rest := []) (q0 := 0) C0 G (c_X5_isBlank l D cy (am := am) (mf := mf) (mb := mb) (mv := mv) (th := th) (sv := sv) (X := X) (ln := ln) (ap := ap) (le := le) (fc := fc) (f1 := f1) (f2 := f2) (ha := ha) (R := R) (B := B) (z := z) (row := 7) (by omega) (by omega)) k_X5_isBlank ml_X5_79 rfl rfl dX5_canClose_4 rfl rfl hl.1 (Nat.le_of_ble_eq_true rfl) ⟨Nat.le_of_ble_eq_true rfl, Nat.le_of_ble_eq_true rfl⟩ ⟨Nat.le_of_ble_eq_true rfl, Nat.le_of_ble_eq_true rfl⟩ (fun r W2 H locs hp G => ?_)
  obtain ⟨rfl, hw⟩ := hp
  have G := g_wc hw G
  refine W.eq (g2 := F0 m 7 ls [.int (bI (cpB (mf z) (mb z) 7))]) rfl ?_
  refine lv_istore_n (lv' := [(2, .int (bI (cpB (mf z) (mb z) 7))), (0, .ref (am 0)), (1, .int (nI z))]) hx hb dX5_canClose_7 rfl hl (by decide) rfl (fun ls hl => ?_)
  refine lv_iconst (v := 0) hx hb dX5_canClose_8 (by decide) ?_
  refine lv_istore_n (lv' := [(3, .int 0), (2, .int (bI (cpB (mf z) (mb z) 7))), (0, .ref (am 0)), (1, .int (nI z))]) hx hb dX5_canClose_9 rfl hl (by decide) rfl (fun ls hl => ?_)
  have hl := lv_sub hl (l' := [(0, .ref (am 0)), (1, .int (nI z)), (2, .int (bI (cpB (mf z) (mb z) 7))), (3, .int 0)]) [2, 3, 1, 0] rfl
  refine g_loop (σ := Nat) (fun i => 56 - i) (fun i => wM am cy th (cS mf mb mv) sv X ln ap le fc f1 f2 (B) ha R) (fun i => [(0, .ref (am 0)), (1, .int (nI z)), (2, .int (bI (cpB (mf z) (mb z) 7 && allB (fun k => decide (kdI (mf z) (mb z) k < 2)) i))), (3, .int (nI i))]) (fun i => i ≤ 56) ?_ 0 (by show _ ≤ _; omega) G (by rw [show (cpB (mf z) (mb z) 7 && allB (fun k => decide (kdI (mf z) (mb z) k < 2)) 0) = cpB (mf z) (mb z) 7 from by simp [allB]]; exact hl)
  intro i hi_10 ih_10 H locs ls G hl
  have G : gW D (wM am cy th (cS mf mb mv) sv X ln ap le fc f1 f2 (B) ha R) (va_A (wM am cy th (cS mf mb mv) sv X ln ap le fc f1 f2 (B) ha R) s.heap.size) s H locs := G
  have hl : lv_has ls 4 [(0, .ref (am 0)), (1, .int (nI z)), (2, .int (bI (cpB (mf z) (mb z) 7 && allB (fun k => decide (kdI (mf z) (mb z) k < 2)) i))), (3, .int (nI i))] := hl
  refine lv_iload_n hx hb dX5_canClose_10 rfl (lv_at hl 3 rfl) ?_
  refine lv_bipush (v := 56) hx hb dX5_canClose_11 (by decide) ?_
  refine lv_icmp_ge (tgt := 44) hx hb dX5_canClose_13 (by decide) (fun c_13 => ?_) (fun c_13 => ?_)
  · skip
    have c_13 : 56 ≤ i := (nI_leI (a := 56) (b := i) (by omega) (by omega)).mp c_13
    obtain rfl : i = 56 := by omega
    have G : gW D (wM am cy th (cS mf mb mv) sv X ln ap le fc f1 f2 (B) ha R) (va_A (wM am cy th (cS mf mb mv) sv X ln ap le fc f1 f2 (B) ha R) s.heap.size) s _ _ := G
    have hl : lv_has ls 4 [(0, .ref (am 0)), (1, .int (nI z)), (2, .int (bI (cpB (mf z) (mb z) 7 && allB (fun k => decide (kdI (mf z) (mb z) k < 2)) 56))), (3, .int (nI 56))] := hl
    refine lv_iload_n hx hb dX5_canClose_44 rfl (lv_at hl 2 rfl) ?_
    exact g_zret C0 G (g_nz _) ⟨by rw [cc_all], by first | rfl | (exfalso; omega) | (simp only [c_13, Bool.false_eq_true, ↓reduceIte, eq_self, decide_true, decide_false, not_true_eq_false, not_false_eq_true, Bool.true_and, Bool.false_and, Bool.and_true, Bool.and_false]; done) | (simp [c_13]; done) | (simp [c_13]; rfl) | (simp [c_13]; omega)⟩ dX5_canClose_45
  · skip
    have c_13 : ¬ (56 ≤ i) := fun h => c_13 ((nI_leI (a := 56) (b := i) (by omega) (by omega)).mpr h)
    refine lv_iload_n hx hb dX5_canClose_16 rfl (lv_at hl 2 rfl) ?_
    refine lv_if_eq (tgt := 36) hx hb dX5_canClose_17 (by decide) (fun c_17 => ?_) (fun c_17 => ?_)
    · skip
      have c_17 : (cpB (mf z) (mb z) 7 && allB (fun k => decide (kdI (mf z) (mb z) k < 2)) i) = false := bI_f c_17
      refine lv_iconst (v := 0) hx hb dX5_canClose_36 (by decide) ?_
      refine lv_istore_n (lv' := [(2, .int 0), (0, .ref (am 0)), (1, .int (nI z)), (3, .int (nI i))]) hx hb dX5_canClose_37 rfl hl (by decide) rfl (fun ls hl => ?_)
      refine lv_iinc (v := nI (i + 1)) (lv' := [(3, .int (nI (i + 1))), (2, .int 0), (0, .ref (am 0)), (1, .int (nI z))]) hx hb dX5_canClose_38 hl (k := 3) rfl (nI_add i 1) (by decide) rfl (fun ls hl => ?_)
      refine lv_goto (tgt := 10) hx hb dX5_canClose_41 (by decide) ?_
      have hl := lv_sub hl (l' := _) [2, 3, 1, 0] rfl
      exact ih_10 (i + 1) (by show _ ≤ _; omega) (by show _ < _; omega) _ _ _ G (by first | (rw [show (cpB (mf z) (mb z) 7 && allB (fun k => decide (kdI (mf z) (mb z) k < 2)) (i + 1)) = true from by rw [show allB (fun k => decide (kdI (mf z) (mb z) k < 2)) (i + 1) = (allB (fun k => decide (kdI (mf z) (mb z) k < 2)) i && decide (kdI (mf z) (mb z) i < 2)) from rfl, ← Bool.and_assoc, c_17, c_29]; rfl]; exact hl) | (rw [show (cpB (mf z) (mb z) 7 && allB (fun k => decide (kdI (mf z) (mb z) k < 2)) (i + 1)) = false from by rw [show allB (fun k => decide (kdI (mf z) (mb z) k < 2)) (i + 1) = (allB (fun k => decide (kdI (mf z) (mb z) k < 2)) i && decide (kdI (mf z) (mb z) i < 2)) from rfl, ← Bool.and_assoc, c_17]; rfl]; exact hl) | (rw [show (cpB (mf z) (mb z) 7 && allB (fun k => decide (kdI (mf z) (mb z) k < 2)) (i + 1)) = false from by rw [show allB (fun k => decide (kdI (mf z) (mb z) k < 2)) (i + 1) = (allB (fun k => decide (kdI (mf z) (mb z) k < 2)) i && decide (kdI (mf z) (mb z) i < 2)) from rfl, ← Bool.and_assoc, c_29, Bool.and_false]]; exact hl))
    · skip
      have c_17 : (cpB (mf z) (mb z) 7 && allB (fun k => decide (kdI (mf z) (mb z) k < 2)) i) = true := bI_t c_17
      refine lv_aload_n hx hb dX5_canClose_20 rfl (lv_at hl 0 rfl) ?_
      refine lv_iload_n hx hb dX5_canClose_21 rfl (lv_at hl 1 rfl) ?_
      refine lv_iload_n hx hb dX5_canClose_22 rfl (lv_at hl 3 rfl) ?_
      refine g_callV (As := [.int (nI z), .int (nI i)]) (rest := []) (q0 := 0) C0 G (c_X5_of l D cy (am := am) (mf := mf) (mb := mb) (mv := mv) (th := th) (sv := sv) (X := X) (ln := ln) (ap := ap) (le := le) (fc := fc) (f1 := f1) (f2 := f2) (ha := ha) (R := R) (B := B) (z := z) (k := i) (by omega) (by omega)) k_X5_of ml_X5_35 rfl rfl dX5_canClose_23 rfl rfl hl.1 (Nat.le_of_ble_eq_true rfl) ⟨Nat.le_of_ble_eq_true rfl, Nat.le_of_ble_eq_true rfl⟩ ⟨Nat.le_of_ble_eq_true rfl, Nat.le_of_ble_eq_true rfl⟩ (fun r W2 H locs hp G => ?_)
      obtain ⟨rfl, hw⟩ := hp
      have G := g_wc hw G
      refine W.eq (g2 := F0 m 26 ls [.int (kdI (mf z) (mb z) i)]) rfl ?_
      refine g_callS (As := [.int (kdI (mf z) (mb z) i)]) (rest := []) C0 G (c_X5_isSound l D cy (W1 := wM am cy th (cS mf mb mv) sv X ln ap le fc f1 f2 (B) ha R) (u := kdI (mf z) (mb z) i) ) k_X5_isSound ml_X5_66 dX5_canClose_26 rfl rfl hl.1 (Nat.le_of_ble_eq_true rfl) ⟨Nat.le_of_ble_eq_true rfl, Nat.le_of_ble_eq_true rfl⟩ ⟨Nat.le_of_ble_eq_true rfl, Nat.le_of_ble_eq_true rfl⟩ (fun r W2 H locs hp G => ?_)
      obtain ⟨rfl, hw⟩ := hp
      have G := g_wc hw G
      refine W.eq (g2 := F0 m 29 ls [.int (bI (decide ((kdI (mf z) (mb z) i) < 2)))]) rfl ?_
      refine lv_if_eq (tgt := 36) hx hb dX5_canClose_29 (by decide) (fun c_29 => ?_) (fun c_29 => ?_)
      · skip
        have c_29 : (decide ((kdI (mf z) (mb z) i) < 2)) = false := bI_f c_29
        refine lv_iconst (v := 0) hx hb dX5_canClose_36 (by decide) ?_
        refine lv_istore_n (lv' := [(2, .int 0), (0, .ref (am 0)), (1, .int (nI z)), (3, .int (nI i))]) hx hb dX5_canClose_37 rfl hl (by decide) rfl (fun ls hl => ?_)
        refine lv_iinc (v := nI (i + 1)) (lv' := [(3, .int (nI (i + 1))), (2, .int 0), (0, .ref (am 0)), (1, .int (nI z))]) hx hb dX5_canClose_38 hl (k := 3) rfl (nI_add i 1) (by decide) rfl (fun ls hl => ?_)
        refine lv_goto (tgt := 10) hx hb dX5_canClose_41 (by decide) ?_
        have hl := lv_sub hl (l' := _) [2, 3, 1, 0] rfl
        exact ih_10 (i + 1) (by show _ ≤ _; omega) (by show _ < _; omega) _ _ _ G (by first | (rw [show (cpB (mf z) (mb z) 7 && allB (fun k => decide (kdI (mf z) (mb z) k < 2)) (i + 1)) = true from by rw [show allB (fun k => decide (kdI (mf z) (mb z) k < 2)) (i + 1) = (allB (fun k => decide (kdI (mf z) (mb z) k < 2)) i && decide (kdI (mf z) (mb z) i < 2)) from rfl, ← Bool.and_assoc, c_17, c_29]; rfl]; exact hl) | (rw [show (cpB (mf z) (mb z) 7 && allB (fun k => decide (kdI (mf z) (mb z) k < 2)) (i + 1)) = false from by rw [show allB (fun k => decide (kdI (mf z) (mb z) k < 2)) (i + 1) = (allB (fun k => decide (kdI (mf z) (mb z) k < 2)) i && decide (kdI (mf z) (mb z) i < 2)) from rfl, ← Bool.and_assoc, c_17]; rfl]; exact hl) | (rw [show (cpB (mf z) (mb z) 7 && allB (fun k => decide (kdI (mf z) (mb z) k < 2)) (i + 1)) = false from by rw [show allB (fun k => decide (kdI (mf z) (mb z) k < 2)) (i + 1) = (allB (fun k => decide (kdI (mf z) (mb z) k < 2)) i && decide (kdI (mf z) (mb z) i < 2)) from rfl, ← Bool.and_assoc, c_29, Bool.and_false]]; exact hl))
      · skip
        have c_29 : (decide ((kdI (mf z) (mb z) i) < 2)) = true := bI_t c_29
        refine lv_iconst (v := 1) hx hb dX5_canClose_32 (by decide) ?_
        refine lv_goto (tgt := 37) hx hb dX5_canClose_33 (by decide) ?_
        refine lv_istore_n (lv' := [(2, .int 1), (0, .ref (am 0)), (1, .int (nI z)), (3, .int (nI i))]) hx hb dX5_canClose_37 rfl hl (by decide) rfl (fun ls hl => ?_)
        refine lv_iinc (v := nI (i + 1)) (lv' := [(3, .int (nI (i + 1))), (2, .int 1), (0, .ref (am 0)), (1, .int (nI z))]) hx hb dX5_canClose_38 hl (k := 3) rfl (nI_add i 1) (by decide) rfl (fun ls hl => ?_)
        refine lv_goto (tgt := 10) hx hb dX5_canClose_41 (by decide) ?_
        have hl := lv_sub hl (l' := _) [2, 3, 1, 0] rfl
        exact ih_10 (i + 1) (by show _ ≤ _; omega) (by show _ < _; omega) _ _ _ G (by first | (rw [show (cpB (mf z) (mb z) 7 && allB (fun k => decide (kdI (mf z) (mb z) k < 2)) (i + 1)) = true from by rw [show allB (fun k => decide (kdI (mf z) (mb z) k < 2)) (i + 1) = (allB (fun k => decide (kdI (mf z) (mb z) k < 2)) i && decide (kdI (mf z) (mb z) i < 2)) from rfl, ← Bool.and_assoc, c_17, c_29]; rfl]; exact hl) | (rw [show (cpB (mf z) (mb z) 7 && allB (fun k => decide (kdI (mf z) (mb z) k < 2)) (i + 1)) = false from by rw [show allB (fun k => decide (kdI (mf z) (mb z) k < 2)) (i + 1) = (allB (fun k => decide (kdI (mf z) (mb z) k < 2)) i && decide (kdI (mf z) (mb z) i < 2)) from rfl, ← Bool.and_assoc, c_17]; rfl]; exact hl) | (rw [show (cpB (mf z) (mb z) 7 && allB (fun k => decide (kdI (mf z) (mb z) k < 2)) (i + 1)) = false from by rw [show allB (fun k => decide (kdI (mf z) (mb z) k < 2)) (i + 1) = (allB (fun k => decide (kdI (mf z) (mb z) k < 2)) i && decide (kdI (mf z) (mb z) i < 2)) from rfl, ← Bool.and_assoc, c_29, Bool.and_false]]; exact hl))

set_option maxHeartbeats 4000000 in
set_option maxRecDepth 100000 in
theorem c_X5_copies (l : Launch) (D : va_G) (cy : Nat → ClassId) (am : Nat → Nat) (mf : Nat → Int64) (mb : Nat → Int64) (mv : Nat → Nat) (th : Int32) (sv : Nat) (X : Nat → Int32) (ln : Nat) (ap : Nat) (le : Nat) (fc : Nat) (f1 : Int32) (f2 : Int32) (ha : Int64) (R : va_W) (B : Nat → Int32) (fm : Nat) (t : Nat) (h1 : fm < 7) (h2 : t < 7) (h3 : fm ≠ t) : GE l D (gts cy) yX5_copies cX5_copies 4 none 0 0 0 [.ref (am 0), .int (nI fm), .int (nI t)] (wM am cy th (cS mf mb mv) sv X ln ap le fc f1 f2 (B) ha R) (gF none (wM am cy th (cS (cpU mf fm t) (cpU mb fm t) (cpU mv fm t)) sv X ln ap le fc f1 f2 (B) ha R)) := by
  refine g_intro (by decide +kernel) (lv := [(0, .ref (am 0)), (1, .int (nI fm)), (2, .int (nI t))]) rfl (Nat.le_of_ble_eq_true rfl) ?_
  intro p e s m below meth c C0 G ls hl
  have hx := C0.1
  have hb := C0.2.1
  have hown := C0.2.2.2.2.2.1
  have hts := C0.2.2.2.2.2.2.1
  refine lv_iconst (v := 0) hx hb dX5_copies_0 (by decide) ?_
  refine lv_istore_n (lv' := [(3, .int 0), (0, .ref (am 0)), (1, .int (nI fm)), (2, .int (nI t))]) hx hb dX5_copies_1 rfl hl (by decide) rfl (fun ls hl => ?_)
  have hl := lv_sub hl (l' := [(0, .ref (am 0)), (1, .int (nI fm)), (2, .int (nI t)), (3, .int 0)]) [1, 2, 3, 0] rfl
  refine g_loop (σ := Nat) (fun i => 195 - i) (fun i => wM am cy th (cpS (cS mf mb mv) fm t i) sv X ln ap le fc f1 f2 (B) ha R) (fun i => [(0, .ref (am 0)), (1, .int (nI fm)), (2, .int (nI t)), (3, .int (nI i))]) (fun i => i ≤ 195) ?_ 0 (by show _ ≤ _; omega) G hl
  intro i hi_2 ih_2 H locs ls G hl
  have G : gW D (wM am cy th (cpS (cS mf mb mv) fm t i) sv X ln ap le fc f1 f2 (B) ha R) (va_A (wM am cy th (cS mf mb mv) sv X ln ap le fc f1 f2 (B) ha R) s.heap.size) s H locs := G
  have hl : lv_has ls 4 [(0, .ref (am 0)), (1, .int (nI fm)), (2, .int (nI t)), (3, .int (nI i))] := hl
  refine lv_iload_n hx hb dX5_copies_2 rfl (lv_at hl 3 rfl) ?_
  refine lv_sipush (v := 195) hx hb dX5_copies_3 (by decide) ?_
  refine lv_icmp_ge (tgt := 39) hx hb dX5_copies_6 (by decide) (fun c_6 => ?_) (fun c_6 => ?_)
  · skip
    have c_6 : 195 ≤ i := (nI_leI (a := 195) (b := i) (by omega) (by omega)).mp c_6
    obtain rfl : i = 195 := by omega
    have G : gW D (wM am cy th (cpS (cS mf mb mv) fm t 195) sv X ln ap le fc f1 f2 (B) ha R) (va_A (wM am cy th (cS mf mb mv) sv X ln ap le fc f1 f2 (B) ha R) s.heap.size) s _ _ := G
    have hl : lv_has ls 4 [(0, .ref (am 0)), (1, .int (nI fm)), (2, .int (nI t)), (3, .int (nI 195))] := hl
    have G : gW D (wM am cy th (cS (cpU mf fm t) (cpU mb fm t) (cpU mv fm t)) sv X ln ap le fc f1 f2 (B) ha R) (va_A (wM am cy th (cS mf mb mv) sv X ln ap le fc f1 f2 (B) ha R) s.heap.size) s H locs := wM_S (fun p hp => cpS_cS h3 p) G
    exact g_vret C0 G ⟨by first | rfl | (exfalso; omega) | (simp only [c_6, Bool.false_eq_true, ↓reduceIte, eq_self, decide_true, decide_false, not_true_eq_false, not_false_eq_true, Bool.true_and, Bool.false_and, Bool.and_true, Bool.and_false]; done) | (simp [c_6]; done) | (simp [c_6]; rfl) | (simp [c_6]; omega), by first | rfl | (exfalso; omega) | (simp only [c_6, Bool.false_eq_true, ↓reduceIte, eq_self, decide_true, decide_false, not_true_eq_false, not_false_eq_true, Bool.true_and, Bool.false_and, Bool.and_true, Bool.and_false]; done) | (simp [c_6]; done) | (simp [c_6]; rfl) | (simp [c_6]; omega)⟩ dX5_copies_39
  · skip
    have c_6 : ¬ (195 ≤ i) := fun h => c_6 ((nI_leI (a := 195) (b := i) (by omega) (by omega)).mpr h)
    refine lv_aload_n hx hb dX5_copies_9 rfl (lv_at hl 0 rfl) ?_
    refine g_get (q0 := 0) (v := .ref (am 1)) C0 G in_X5 rfl rfl 1 (by decide) fl_X5_7 (fun _ h => h) rfl dX5_copies_10 ?_
    refine lv_sipush (v := 195) hx hb dX5_copies_13 (by decide) ?_
    refine lv_iload_n hx hb dX5_copies_16 rfl (lv_at hl 2 rfl) ?_
    refine lv_imul hx hb dX5_copies_17 ?_
    refine g_topi (x' := nI (195 * t)) (pk_mul 195 t) ?_
    refine lv_iload_n hx hb dX5_copies_18 rfl (lv_at hl 3 rfl) ?_
    refine lv_iadd hx hb dX5_copies_19 ?_
    refine g_topi (x' := nI ((195 * t) + i)) (nI_add (195 * t) i) ?_
    refine lv_aload_n hx hb dX5_copies_20 rfl (lv_at hl 0 rfl) ?_
    refine g_get (q0 := 0) (v := .ref (am 1)) C0 G in_X5 rfl rfl 1 (by decide) fl_X5_7 (fun _ h => h) rfl dX5_copies_21 ?_
    refine lv_sipush (v := 195) hx hb dX5_copies_24 (by decide) ?_
    refine lv_iload_n hx hb dX5_copies_27 rfl (lv_at hl 1 rfl) ?_
    refine lv_imul hx hb dX5_copies_28 ?_
    refine g_topi (x' := nI (195 * fm)) (pk_mul 195 fm) ?_
    refine lv_iload_n hx hb dX5_copies_29 rfl (lv_at hl 3 rfl) ?_
    refine lv_iadd hx hb dX5_copies_30 ?_
    refine g_topi (x' := nI ((195 * fm) + i)) (nI_add (195 * fm) i) ?_
    refine g_iald (q0 := 1) (n := 1365) C0 G rfl 1 rfl (vp_in_nI (n := (195 * fm) + i) (by omega) (by decide)) dX5_copies_31 ?_
    refine g_topi (x' := cpS (cS mf mb mv) fm t i ((195 * fm) + i)) (congrArg (cpS (cS mf mb mv) fm t i) (nI_clamp (n := (195 * fm) + i) (by omega))) ?_
    refine g_iast (q0 := 1) (n := 1365) (W2 := wM am cy th (upd (cpS (cS mf mb mv) fm t i) ((195 * t) + i) (cpS (cS mf mb mv) fm t i ((195 * fm) + i))) sv X ln ap le fc f1 f2 (B) ha R) C0 G rfl 1 rfl (vp_in_nI (n := (195 * t) + i) (by omega) (by decide)) (by rw [nI_clamp (n := (195 * t) + i) (by omega)]; rfl) dX5_copies_32 (fun H locs G => ?_)
    refine lv_iinc (v := nI (i + 1)) (lv' := [(3, .int (nI (i + 1))), (0, .ref (am 0)), (1, .int (nI fm)), (2, .int (nI t))]) hx hb dX5_copies_33 hl (k := 3) rfl (nI_add i 1) (by decide) rfl (fun ls hl => ?_)
    refine lv_goto (tgt := 2) hx hb dX5_copies_36 (by decide) ?_
    have hl := lv_sub hl (l' := _) [1, 2, 3, 0] rfl
    exact ih_2 (i + 1) (by show _ ≤ _; omega) (by show _ < _; omega) _ _ _ G hl

set_option maxHeartbeats 4000000 in
set_option maxRecDepth 100000 in
theorem c_X5_save (l : Launch) (D : va_G) (cy : Nat → ClassId) (am : Nat → Nat) (mf : Nat → Int64) (mb : Nat → Int64) (mv : Nat → Nat) (th : Int32) (sv : Nat) (X : Nat → Int32) (ln : Nat) (ap : Nat) (le : Nat) (fc : Nat) (f1 : Int32) (f2 : Int32) (ha : Int64) (R : va_W) (B : Nat → Int32)  (h1 : sv ≤ 6) : GE l D (gts cy) yX5_save cX5_save 2 none 1 0 0 [.ref (am 0)] (wM am cy th (cS mf mb mv) sv X ln ap le fc f1 f2 (B) ha R) (gF none (wM am cy th (cS (mSv mf sv) (mSv mb sv) (mSv mv sv)) (saK sv) X ln ap le fc f1 f2 (B) ha R)) := by
  refine g_intro (by decide +kernel) (lv := [(0, .ref (am 0))]) rfl (Nat.le_of_ble_eq_true rfl) ?_
  intro p e s m below meth c C0 G ls hl
  have hx := C0.1
  have hb := C0.2.1
  have hown := C0.2.2.2.2.2.1
  have hts := C0.2.2.2.2.2.2.1
  refine lv_iconst (v := 1) hx hb dX5_save_0 (by decide) ?_
  refine lv_istore_n (lv' := [(1, .int 1), (0, .ref (am 0))]) hx hb dX5_save_1 rfl hl (by decide) rfl (fun ls hl => ?_)
  have hl := lv_sub hl (l' := [(0, .ref (am 0)), (1, .int 1)]) [1, 0] rfl
  refine g_loop (σ := Nat) (fun i => 5 - i) (fun i => wM am cy th (cS (shU mf i) (shU mb i) (shU mv i)) sv X ln ap le fc f1 f2 (B) ha R) (fun i => [(0, .ref (am 0)), (1, .int (nI (i + 1)))]) (fun i => i ≤ 5 ∧ (i = 0 ∨ sv = 6)) ?_ 0 ⟨by omega, Or.inl rfl⟩ G hl
  intro i hi_2 ih_2 H locs ls G hl
  obtain ⟨hi1, hi2⟩ := hi_2
  have G : gW D (wM am cy th (cS (shU mf i) (shU mb i) (shU mv i)) sv X ln ap le fc f1 f2 (B) ha R) (va_A (wM am cy th (cS mf mb mv) sv X ln ap le fc f1 f2 (B) ha R) s.heap.size) s H locs := G
  have hl : lv_has ls 2 [(0, .ref (am 0)), (1, .int (nI (i + 1)))] := hl
  refine lv_iload_n hx hb dX5_save_2 rfl (lv_at hl 1 rfl) ?_
  refine lv_bipush (v := 6) hx hb dX5_save_3 (by decide) ?_
  refine lv_icmp_ge (tgt := 31) hx hb dX5_save_5 (by decide) (fun c_5 => ?_) (fun c_5 => ?_)
  · skip
    have c_5 : 6 ≤ (i + 1) := (nI_leI (a := 6) (b := i + 1) (by omega) (by omega)).mp c_5
    have hi5 : i = 5 := by omega
    obtain rfl : i = 5 := by exact hi5
    have G : gW D (wM am cy th (cS (shU mf 5) (shU mb 5) (shU mv 5)) sv X ln ap le fc f1 f2 (B) ha R) (va_A (wM am cy th (cS mf mb mv) sv X ln ap le fc f1 f2 (B) ha R) s.heap.size) s _ _ := G
    have hl : lv_has ls 2 [(0, .ref (am 0)), (1, .int (nI (5 + 1)))] := hl
    have hs6 : sv = 6 := hi2.resolve_left (by decide)
    obtain rfl : sv = 6 := by exact hs6
    have G : gW D (wM am cy th (cS (shU mf 5) (shU mb 5) (shU mv 5)) 6 X ln ap le fc f1 f2 (B) ha R) (va_A (wM am cy th (cS mf mb mv) 6 X ln ap le fc f1 f2 (B) ha R) s.heap.size) s _ _ := G
    have hl : lv_has ls 2 [(0, .ref (am 0)), (1, .int (nI (5 + 1)))] := hl
    refine lv_aload_n hx hb dX5_save_31 rfl (lv_at hl 0 rfl) ?_
    refine lv_dup hx hb dX5_save_32 rfl ?_
    refine g_get (q0 := 0) (v := .int (nI 6)) C0 G in_X5 rfl rfl 2 (by decide) fl_X5_82 (fun _ h => h) rfl dX5_save_33 ?_
    refine lv_aload_n hx hb dX5_save_36 rfl (lv_at hl 0 rfl) ?_
    refine g_get (q0 := 0) (v := .int (nI 6)) C0 G in_X5 rfl rfl 2 (by decide) fl_X5_82 (fun _ h => h) rfl dX5_save_37 ?_
    refine lv_bipush (v := 6) hx hb dX5_save_40 (by decide) ?_
    refine lv_icmp_ge (tgt := 49) hx hb dX5_save_42 (by decide) (fun c_42 => ?_) (fun c_42 => ?_)
    · skip
      have c_42 : 6 ≤ 6 := (nI_leI (a := 6) (b := 6) (by omega) (by omega)).mp c_42
      refine lv_iconst (v := 0) hx hb dX5_save_49 (by decide) ?_
      refine lv_iadd hx hb dX5_save_50 ?_
      refine g_topi (x' := nI (6 + 0)) (nI_add 6 0) ?_
      refine g_put (q0 := 0) (W2 := wM am cy th (cS (shU mf 5) (shU mb 5) (shU mv 5)) (6 + 0) X ln ap le fc f1 f2 (B) ha R) C0 G ft_X5 in_X5 rfl rfl 2 (by decide) fl_X5_82 (fun _ h => h) rfl rfl rfl (Nat.le_of_ble_eq_true rfl) rfl dX5_save_51 (fun H locs G => ?_)
      refine lv_aload_n hx hb dX5_save_54 rfl (lv_at hl 0 rfl) ?_
      refine lv_iconst (v := 0) hx hb dX5_save_55 (by decide) ?_
      refine lv_aload_n hx hb dX5_save_56 rfl (lv_at hl 0 rfl) ?_
      refine g_get (q0 := 0) (v := .int (nI (6 + 0))) C0 G in_X5 rfl rfl 2 (by decide) fl_X5_82 (fun _ h => h) rfl dX5_save_57 ?_
      refine g_callV (As := [.int 0, .int (nI (6 + 0))]) (rest := []) (q0 := 0) C0 G (c_X5_copies l D cy (am := am) (mf := shU mf 5) (mb := shU mb 5) (mv := shU mv 5) (th := th) (sv := 6 + 0) (X := X) (ln := ln) (ap := ap) (le := le) (fc := fc) (f1 := f1) (f2 := f2) (ha := ha) (R := R) (B := B) (fm := 0) (t := 6 + 0) (by omega) (by omega) (by omega)) k_X5_copies ml_X5_85 rfl rfl dX5_save_60 rfl rfl hl.1 (Nat.le_of_ble_eq_true rfl) ⟨Nat.le_of_ble_eq_true rfl, Nat.le_of_ble_eq_true rfl⟩ ⟨Nat.le_of_ble_eq_true rfl, Nat.le_of_ble_eq_true rfl⟩ (fun r W2 H locs hp G => ?_)
      obtain ⟨rfl, hw⟩ := hp
      have G := g_wc hw G
      refine W.eq (g2 := F0 m 63 ls []) rfl ?_
      exact g_vret C0 G ⟨by first | rfl | (exfalso; omega) | (simp only [mSv, saK, c_5, c_42, Bool.false_eq_true, ↓reduceIte, eq_self, decide_true, decide_false, not_true_eq_false, not_false_eq_true, Bool.true_and, Bool.false_and, Bool.and_true, Bool.and_false]; done) | (simp [mSv, saK, c_5, c_42]; done) | (simp [mSv, saK, c_5, c_42]; rfl) | (simp [mSv, saK, c_5, c_42]; omega), by first | rfl | (exfalso; omega) | (simp only [mSv, saK, c_5, c_42, Bool.false_eq_true, ↓reduceIte, eq_self, decide_true, decide_false, not_true_eq_false, not_false_eq_true, Bool.true_and, Bool.false_and, Bool.and_true, Bool.and_false]; done) | (simp [mSv, saK, c_5, c_42]; done) | (simp [mSv, saK, c_5, c_42]; rfl) | (simp [mSv, saK, c_5, c_42]; omega)⟩ dX5_save_63
    · skip
      have c_42 : ¬ (6 ≤ 6) := fun h => c_42 ((nI_leI (a := 6) (b := 6) (by omega) (by omega)).mpr h)
      refine lv_iconst (v := 1) hx hb dX5_save_45 (by decide) ?_
      refine lv_goto (tgt := 50) hx hb dX5_save_46 (by decide) ?_
      refine lv_iadd hx hb dX5_save_50 ?_
      refine g_topi (x' := nI (6 + 1)) (nI_add 6 1) ?_
      refine g_put (q0 := 0) (W2 := wM am cy th (cS (shU mf 5) (shU mb 5) (shU mv 5)) (6 + 1) X ln ap le fc f1 f2 (B) ha R) C0 G ft_X5 in_X5 rfl rfl 2 (by decide) fl_X5_82 (fun _ h => h) rfl rfl rfl (Nat.le_of_ble_eq_true rfl) rfl dX5_save_51 (fun H locs G => ?_)
      refine lv_aload_n hx hb dX5_save_54 rfl (lv_at hl 0 rfl) ?_
      refine lv_iconst (v := 0) hx hb dX5_save_55 (by decide) ?_
      refine lv_aload_n hx hb dX5_save_56 rfl (lv_at hl 0 rfl) ?_
      refine g_get (q0 := 0) (v := .int (nI (6 + 1))) C0 G in_X5 rfl rfl 2 (by decide) fl_X5_82 (fun _ h => h) rfl dX5_save_57 ?_
      refine g_callV (As := [.int 0, .int (nI (6 + 1))]) (rest := []) (q0 := 0) C0 G (c_X5_copies l D cy (am := am) (mf := shU mf 5) (mb := shU mb 5) (mv := shU mv 5) (th := th) (sv := 6 + 1) (X := X) (ln := ln) (ap := ap) (le := le) (fc := fc) (f1 := f1) (f2 := f2) (ha := ha) (R := R) (B := B) (fm := 0) (t := 6 + 1) (by omega) (by omega) (by omega)) k_X5_copies ml_X5_85 rfl rfl dX5_save_60 rfl rfl hl.1 (Nat.le_of_ble_eq_true rfl) ⟨Nat.le_of_ble_eq_true rfl, Nat.le_of_ble_eq_true rfl⟩ ⟨Nat.le_of_ble_eq_true rfl, Nat.le_of_ble_eq_true rfl⟩ (fun r W2 H locs hp G => ?_)
      obtain ⟨rfl, hw⟩ := hp
      have G := g_wc hw G
      refine W.eq (g2 := F0 m 63 ls []) rfl ?_
      exact g_vret C0 G ⟨by first | rfl | (exfalso; omega) | (simp only [mSv, saK, c_5, c_42, Bool.false_eq_true, ↓reduceIte, eq_self, decide_true, decide_false, not_true_eq_false, not_false_eq_true, Bool.true_and, Bool.false_and, Bool.and_true, Bool.and_false]; done) | (simp [mSv, saK, c_5, c_42]; done) | (simp [mSv, saK, c_5, c_42]; rfl) | (simp [mSv, saK, c_5, c_42]; omega), by first | rfl | (exfalso; omega) | (simp only [mSv, saK, c_5, c_42, Bool.false_eq_true, ↓reduceIte, eq_self, decide_true, decide_false, not_true_eq_false, not_false_eq_true, Bool.true_and, Bool.false_and, Bool.and_true, Bool.and_false]; done) | (simp [mSv, saK, c_5, c_42]; done) | (simp [mSv, saK, c_5, c_42]; rfl) | (simp [mSv, saK, c_5, c_42]; omega)⟩ dX5_save_63
  · skip
    have c_5 : ¬ (6 ≤ (i + 1)) := fun h => c_5 ((nI_leI (a := 6) (b := i + 1) (by omega) (by omega)).mpr h)
    refine lv_aload_n hx hb dX5_save_8 rfl (lv_at hl 0 rfl) ?_
    refine g_get (q0 := 0) (v := .int (nI sv)) C0 G in_X5 rfl rfl 2 (by decide) fl_X5_82 (fun _ h => h) rfl dX5_save_9 ?_
    refine lv_bipush (v := 6) hx hb dX5_save_12 (by decide) ?_
    refine lv_icmp_ne (tgt := 31) hx hb dX5_save_14 (by decide) (fun c_14 => ?_) (fun c_14 => ?_)
    · skip
      have c_14 : ¬ (sv = 6) := fun h => c_14 ((nI_eq (a := sv) (b := 6) (by omega) (by omega)).mpr h)
      have hi0 : i = 0 := hi2.resolve_right c_14
      obtain rfl : i = 0 := by exact hi0
      have G : gW D (wM am cy th (cS (shU mf 0) (shU mb 0) (shU mv 0)) sv X ln ap le fc f1 f2 (B) ha R) (va_A (wM am cy th (cS mf mb mv) sv X ln ap le fc f1 f2 (B) ha R) s.heap.size) s _ _ := G
      have hl : lv_has ls 2 [(0, .ref (am 0)), (1, .int (nI (0 + 1)))] := hl
      have G : gW D (wM am cy th (cS mf mb mv) sv X ln ap le fc f1 f2 (B) ha R) (va_A (wM am cy th (cS mf mb mv) sv X ln ap le fc f1 f2 (B) ha R) s.heap.size) s _ _ := G
      have hs6 : sv < 6 := by omega
      refine lv_aload_n hx hb dX5_save_31 rfl (lv_at hl 0 rfl) ?_
      refine lv_dup hx hb dX5_save_32 rfl ?_
      refine g_get (q0 := 0) (v := .int (nI sv)) C0 G in_X5 rfl rfl 2 (by decide) fl_X5_82 (fun _ h => h) rfl dX5_save_33 ?_
      refine lv_aload_n hx hb dX5_save_36 rfl (lv_at hl 0 rfl) ?_
      refine g_get (q0 := 0) (v := .int (nI sv)) C0 G in_X5 rfl rfl 2 (by decide) fl_X5_82 (fun _ h => h) rfl dX5_save_37 ?_
      refine lv_bipush (v := 6) hx hb dX5_save_40 (by decide) ?_
      refine lv_icmp_ge (tgt := 49) hx hb dX5_save_42 (by decide) (fun c_42 => ?_) (fun c_42 => ?_)
      · skip
        have c_42 : 6 ≤ sv := (nI_leI (a := 6) (b := sv) (by omega) (by omega)).mp c_42
        refine lv_iconst (v := 0) hx hb dX5_save_49 (by decide) ?_
        refine lv_iadd hx hb dX5_save_50 ?_
        refine g_topi (x' := nI (sv + 0)) (nI_add sv 0) ?_
        refine g_put (q0 := 0) (W2 := wM am cy th (cS mf mb mv) (sv + 0) X ln ap le fc f1 f2 (B) ha R) C0 G ft_X5 in_X5 rfl rfl 2 (by decide) fl_X5_82 (fun _ h => h) rfl rfl rfl (Nat.le_of_ble_eq_true rfl) rfl dX5_save_51 (fun H locs G => ?_)
        refine lv_aload_n hx hb dX5_save_54 rfl (lv_at hl 0 rfl) ?_
        refine lv_iconst (v := 0) hx hb dX5_save_55 (by decide) ?_
        refine lv_aload_n hx hb dX5_save_56 rfl (lv_at hl 0 rfl) ?_
        refine g_get (q0 := 0) (v := .int (nI (sv + 0))) C0 G in_X5 rfl rfl 2 (by decide) fl_X5_82 (fun _ h => h) rfl dX5_save_57 ?_
        refine g_callV (As := [.int 0, .int (nI (sv + 0))]) (rest := []) (q0 := 0) C0 G (c_X5_copies l D cy (am := am) (mf := mf) (mb := mb) (mv := mv) (th := th) (sv := sv + 0) (X := X) (ln := ln) (ap := ap) (le := le) (fc := fc) (f1 := f1) (f2 := f2) (ha := ha) (R := R) (B := B) (fm := 0) (t := sv + 0) (by omega) (by omega) (by omega)) k_X5_copies ml_X5_85 rfl rfl dX5_save_60 rfl rfl hl.1 (Nat.le_of_ble_eq_true rfl) ⟨Nat.le_of_ble_eq_true rfl, Nat.le_of_ble_eq_true rfl⟩ ⟨Nat.le_of_ble_eq_true rfl, Nat.le_of_ble_eq_true rfl⟩ (fun r W2 H locs hp G => ?_)
        obtain ⟨rfl, hw⟩ := hp
        have G := g_wc hw G
        refine W.eq (g2 := F0 m 63 ls []) rfl ?_
        exact g_vret C0 G ⟨by first | rfl | (exfalso; omega) | (simp only [mSv, saK, c_5, c_14, hs6, c_42, Bool.false_eq_true, ↓reduceIte, eq_self, decide_true, decide_false, not_true_eq_false, not_false_eq_true, Bool.true_and, Bool.false_and, Bool.and_true, Bool.and_false]; done) | (simp [mSv, saK, c_5, c_14, hs6, c_42]; done) | (simp [mSv, saK, c_5, c_14, hs6, c_42]; rfl) | (simp [mSv, saK, c_5, c_14, hs6, c_42]; omega), by first | rfl | (exfalso; omega) | (simp only [mSv, saK, c_5, c_14, hs6, c_42, Bool.false_eq_true, ↓reduceIte, eq_self, decide_true, decide_false, not_true_eq_false, not_false_eq_true, Bool.true_and, Bool.false_and, Bool.and_true, Bool.and_false]; done) | (simp [mSv, saK, c_5, c_14, hs6, c_42]; done) | (simp [mSv, saK, c_5, c_14, hs6, c_42]; rfl) | (simp [mSv, saK, c_5, c_14, hs6, c_42]; omega)⟩ dX5_save_63
      · skip
        have c_42 : ¬ (6 ≤ sv) := fun h => c_42 ((nI_leI (a := 6) (b := sv) (by omega) (by omega)).mpr h)
        refine lv_iconst (v := 1) hx hb dX5_save_45 (by decide) ?_
        refine lv_goto (tgt := 50) hx hb dX5_save_46 (by decide) ?_
        refine lv_iadd hx hb dX5_save_50 ?_
        refine g_topi (x' := nI (sv + 1)) (nI_add sv 1) ?_
        refine g_put (q0 := 0) (W2 := wM am cy th (cS mf mb mv) (sv + 1) X ln ap le fc f1 f2 (B) ha R) C0 G ft_X5 in_X5 rfl rfl 2 (by decide) fl_X5_82 (fun _ h => h) rfl rfl rfl (Nat.le_of_ble_eq_true rfl) rfl dX5_save_51 (fun H locs G => ?_)
        refine lv_aload_n hx hb dX5_save_54 rfl (lv_at hl 0 rfl) ?_
        refine lv_iconst (v := 0) hx hb dX5_save_55 (by decide) ?_
        refine lv_aload_n hx hb dX5_save_56 rfl (lv_at hl 0 rfl) ?_
        refine g_get (q0 := 0) (v := .int (nI (sv + 1))) C0 G in_X5 rfl rfl 2 (by decide) fl_X5_82 (fun _ h => h) rfl dX5_save_57 ?_
        refine g_callV (As := [.int 0, .int (nI (sv + 1))]) (rest := []) (q0 := 0) C0 G (c_X5_copies l D cy (am := am) (mf := mf) (mb := mb) (mv := mv) (th := th) (sv := sv + 1) (X := X) (ln := ln) (ap := ap) (le := le) (fc := fc) (f1 := f1) (f2 := f2) (ha := ha) (R := R) (B := B) (fm := 0) (t := sv + 1) (by omega) (by omega) (by omega)) k_X5_copies ml_X5_85 rfl rfl dX5_save_60 rfl rfl hl.1 (Nat.le_of_ble_eq_true rfl) ⟨Nat.le_of_ble_eq_true rfl, Nat.le_of_ble_eq_true rfl⟩ ⟨Nat.le_of_ble_eq_true rfl, Nat.le_of_ble_eq_true rfl⟩ (fun r W2 H locs hp G => ?_)
        obtain ⟨rfl, hw⟩ := hp
        have G := g_wc hw G
        refine W.eq (g2 := F0 m 63 ls []) rfl ?_
        exact g_vret C0 G ⟨by first | rfl | (exfalso; omega) | (simp only [mSv, saK, c_5, c_14, hs6, c_42, Bool.false_eq_true, ↓reduceIte, eq_self, decide_true, decide_false, not_true_eq_false, not_false_eq_true, Bool.true_and, Bool.false_and, Bool.and_true, Bool.and_false]; done) | (simp [mSv, saK, c_5, c_14, hs6, c_42]; done) | (simp [mSv, saK, c_5, c_14, hs6, c_42]; rfl) | (simp [mSv, saK, c_5, c_14, hs6, c_42]; omega), by first | rfl | (exfalso; omega) | (simp only [mSv, saK, c_5, c_14, hs6, c_42, Bool.false_eq_true, ↓reduceIte, eq_self, decide_true, decide_false, not_true_eq_false, not_false_eq_true, Bool.true_and, Bool.false_and, Bool.and_true, Bool.and_false]; done) | (simp [mSv, saK, c_5, c_14, hs6, c_42]; done) | (simp [mSv, saK, c_5, c_14, hs6, c_42]; rfl) | (simp [mSv, saK, c_5, c_14, hs6, c_42]; omega)⟩ dX5_save_63
    · skip
      have c_14 : sv = 6 := (nI_eq (a := sv) (b := 6) (by omega) (by omega)).mp c_14
      refine lv_aload_n hx hb dX5_save_17 rfl (lv_at hl 0 rfl) ?_
      refine lv_iload_n hx hb dX5_save_18 rfl (lv_at hl 1 rfl) ?_
      refine lv_iconst (v := 1) hx hb dX5_save_19 (by decide) ?_
      refine lv_iadd hx hb dX5_save_20 ?_
      refine g_topi (x' := nI ((i + 1) + 1)) (nI_add (i + 1) 1) ?_
      refine lv_iload_n hx hb dX5_save_21 rfl (lv_at hl 1 rfl) ?_
      refine g_callV (As := [.int (nI ((i + 1) + 1)), .int (nI (i + 1))]) (rest := []) (q0 := 0) C0 G (c_X5_copies l D cy (am := am) (mf := shU mf i) (mb := shU mb i) (mv := shU mv i) (th := th) (sv := sv) (X := X) (ln := ln) (ap := ap) (le := le) (fc := fc) (f1 := f1) (f2 := f2) (ha := ha) (R := R) (B := B) (fm := (i + 1) + 1) (t := i + 1) (by omega) (by omega) (by omega)) k_X5_copies ml_X5_85 rfl rfl dX5_save_22 rfl rfl hl.1 (Nat.le_of_ble_eq_true rfl) ⟨Nat.le_of_ble_eq_true rfl, Nat.le_of_ble_eq_true rfl⟩ ⟨Nat.le_of_ble_eq_true rfl, Nat.le_of_ble_eq_true rfl⟩ (fun r W2 H locs hp G => ?_)
      obtain ⟨rfl, hw⟩ := hp
      have G := g_wc hw G
      refine W.eq (g2 := F0 m 25 ls []) rfl ?_
      refine lv_iinc (v := nI ((i + 1) + 1)) (lv' := [(1, .int (nI ((i + 1) + 1))), (0, .ref (am 0))]) hx hb dX5_save_25 hl (k := 1) rfl (nI_add (i + 1) 1) (by decide) rfl (fun ls hl => ?_)
      refine lv_goto (tgt := 2) hx hb dX5_save_28 (by decide) ?_
      have hl := lv_sub hl (l' := _) [1, 0] rfl
      exact ih_2 (i + 1) ⟨by omega, Or.inr c_14⟩ (by show _ < _; omega) _ _ _ G hl

set_option maxHeartbeats 4000000 in
set_option maxRecDepth 100000 in
theorem c_X5_readOf (l : Launch) (D : va_G) (cy : Nat → ClassId) (am : Nat → Nat) (mf : Nat → Int64) (mb : Nat → Int64) (mv : Nat → Nat) (th : Int32) (sv : Nat) (X : Nat → Int32) (ln : Nat) (ap : Nat) (le : Nat) (fc : Nat) (f1 : Int32) (f2 : Int32) (ha : Int64) (R : va_W) (B : Nat → Int32) (z : Nat) (row : Nat) (h1 : z < 21) (h2 : row < 7) : GE l D (gts cy) yX5_readOf cX5_readOf 6 (some .int) 1 0 0 [.ref (am 0), .int (nI z), .int (nI row)] (wM am cy th (cS mf mb mv) sv X ln ap le fc f1 f2 (B) ha R) (gF (some (.int (rvI (sdW (mf z) (mb z)) (onW (mf z) (mb z)) row))) (wM am cy th (cS mf mb mv) sv X ln ap le fc f1 f2 (B) ha R)) := by
  refine g_intro (by decide +kernel) (lv := [(0, .ref (am 0)), (1, .int (nI z)), (2, .int (nI row))]) rfl (Nat.le_of_ble_eq_true rfl) ?_
  intro p e s m below meth c C0 G ls hl
  have hx := C0.1
  have hb := C0.2.1
  have hown := C0.2.2.2.2.2.1
  have hts := C0.2.2.2.2.2.2.1
  refine lv_iconst (v := 0) hx hb dX5_readOf_0 (by decide) ?_
  refine lv_istore_n (lv' := [(3, .int 0), (0, .ref (am 0)), (1, .int (nI z)), (2, .int (nI row))]) hx hb dX5_readOf_1 rfl hl (by decide) rfl (fun ls hl => ?_)
  refine lv_iconst (v := 0) hx hb dX5_readOf_2 (by decide) ?_
  refine lv_istore (lv' := [(4, .int 0), (3, .int 0), (0, .ref (am 0)), (1, .int (nI z)), (2, .int (nI row))]) hx hb dX5_readOf_3 hl (by decide) rfl (fun ls hl => ?_)
  have hl := lv_sub hl (l' := [(0, .ref (am 0)), (1, .int (nI z)), (2, .int (nI row)), (3, .int 0), (4, .int 0)]) [2, 3, 4, 1, 0] rfl
  refine g_loop (σ := Nat) (fun i => 7 - i) (fun i => wM am cy th (cS mf mb mv) sv X ln ap le fc f1 f2 (B) ha R) (fun i => [(0, .ref (am 0)), (1, .int (nI z)), (2, .int (nI row)), (3, .int (nI (rvN (onW (mf z) (mb z)) row i))), (4, .int (nI i))]) (fun i => i ≤ 7 ∧ allB (fun j => tb (sdW (mf z) (mb z)) (8 * row + j)) i = true) ?_ 0 ⟨by omega, rfl⟩ G hl
  intro i hi_5 ih_5 H locs ls G hl
  obtain ⟨hi_a, hi_b⟩ := hi_5
  have G : gW D (wM am cy th (cS mf mb mv) sv X ln ap le fc f1 f2 (B) ha R) (va_A (wM am cy th (cS mf mb mv) sv X ln ap le fc f1 f2 (B) ha R) s.heap.size) s H locs := G
  have hl : lv_has ls 6 [(0, .ref (am 0)), (1, .int (nI z)), (2, .int (nI row)), (3, .int (nI (rvN (onW (mf z) (mb z)) row i))), (4, .int (nI i))] := hl
  refine lv_iload hx hb dX5_readOf_5 (lv_at hl 4 rfl) ?_
  refine lv_bipush (v := 7) hx hb dX5_readOf_7 (by decide) ?_
  refine lv_icmp_ge (tgt := 49) hx hb dX5_readOf_9 (by decide) (fun c_9 => ?_) (fun c_9 => ?_)
  · skip
    have c_9 : 7 ≤ i := (nI_leI (a := 7) (b := i) (by omega) (by omega)).mp c_9
    obtain rfl : i = 7 := by omega
    have G : gW D (wM am cy th (cS mf mb mv) sv X ln ap le fc f1 f2 (B) ha R) (va_A (wM am cy th (cS mf mb mv) sv X ln ap le fc f1 f2 (B) ha R) s.heap.size) s _ _ := G
    have hl : lv_has ls 6 [(0, .ref (am 0)), (1, .int (nI z)), (2, .int (nI row)), (3, .int (nI (rvN (onW (mf z) (mb z)) row 7))), (4, .int (nI 7))] := hl
    refine lv_iload_n hx hb dX5_readOf_49 rfl (lv_at hl 3 rfl) ?_
    exact g_iret C0 G ⟨by first | (rw [show rvI (sdW (mf z) (mb z)) (onW (mf z) (mb z)) row = -1 from if_neg (by rw [allB_no (p := fun j => tb (sdW (mf z) (mb z)) (8 * row + j)) (i := i) c_31 (by omega)]; decide)]; done) | (rw [show rvI (sdW (mf z) (mb z)) (onW (mf z) (mb z)) row = nI (rvN (onW (mf z) (mb z)) row 7) from if_pos hi_b]), by first | rfl | (exfalso; omega) | (simp only [rvN, c_9, Bool.false_eq_true, ↓reduceIte, eq_self, decide_true, decide_false, not_true_eq_false, not_false_eq_true, Bool.true_and, Bool.false_and, Bool.and_true, Bool.and_false]; done) | (simp [rvN, c_9]; done) | (simp [rvN, c_9]; rfl) | (simp [rvN, c_9]; omega)⟩ dX5_readOf_50
  · skip
    have c_9 : ¬ (7 ≤ i) := fun h => c_9 ((nI_leI (a := 7) (b := i) (by omega) (by omega)).mpr h)
    refine lv_aload_n hx hb dX5_readOf_12 rfl (lv_at hl 0 rfl) ?_
    refine lv_iload_n hx hb dX5_readOf_13 rfl (lv_at hl 1 rfl) ?_
    refine lv_bipush (v := 8) hx hb dX5_readOf_14 (by decide) ?_
    refine lv_iload_n hx hb dX5_readOf_16 rfl (lv_at hl 2 rfl) ?_
    refine lv_imul hx hb dX5_readOf_17 ?_
    refine g_topi (x' := nI (8 * row)) (pk_mul 8 row) ?_
    refine lv_iload hx hb dX5_readOf_18 (lv_at hl 4 rfl) ?_
    refine lv_iadd hx hb dX5_readOf_20 ?_
    refine g_topi (x' := nI ((8 * row) + i)) (nI_add (8 * row) i) ?_
    refine g_callV (As := [.int (nI z), .int (nI ((8 * row) + i))]) (rest := []) (q0 := 0) C0 G (c_X5_of l D cy (am := am) (mf := mf) (mb := mb) (mv := mv) (th := th) (sv := sv) (X := X) (ln := ln) (ap := ap) (le := le) (fc := fc) (f1 := f1) (f2 := f2) (ha := ha) (R := R) (B := B) (z := z) (k := (8 * row) + i) (by omega) (by omega)) k_X5_of ml_X5_35 rfl rfl dX5_readOf_21 rfl rfl hl.1 (Nat.le_of_ble_eq_true rfl) ⟨Nat.le_of_ble_eq_true rfl, Nat.le_of_ble_eq_true rfl⟩ ⟨Nat.le_of_ble_eq_true rfl, Nat.le_of_ble_eq_true rfl⟩ (fun r W2 H locs hp G => ?_)
    obtain ⟨rfl, hw⟩ := hp
    have G := g_wc hw G
    refine W.eq (g2 := F0 m 24 ls [.int (kdI (mf z) (mb z) ((8 * row) + i))]) rfl ?_
    refine lv_istore (lv' := [(5, .int (kdI (mf z) (mb z) ((8 * row) + i))), (0, .ref (am 0)), (1, .int (nI z)), (2, .int (nI row)), (3, .int (nI (rvN (onW (mf z) (mb z)) row i))), (4, .int (nI i))]) hx hb dX5_readOf_24 hl (by decide) rfl (fun ls hl => ?_)
    refine lv_iload hx hb dX5_readOf_26 (lv_at hl 0 rfl) ?_
    refine g_callS (As := [.int (kdI (mf z) (mb z) ((8 * row) + i))]) (rest := []) C0 G (c_X5_isSound l D cy (W1 := wM am cy th (cS mf mb mv) sv X ln ap le fc f1 f2 (B) ha R) (u := kdI (mf z) (mb z) ((8 * row) + i)) ) k_X5_isSound ml_X5_66 dX5_readOf_28 rfl rfl hl.1 (Nat.le_of_ble_eq_true rfl) ⟨Nat.le_of_ble_eq_true rfl, Nat.le_of_ble_eq_true rfl⟩ ⟨Nat.le_of_ble_eq_true rfl, Nat.le_of_ble_eq_true rfl⟩ (fun r W2 H locs hp G => ?_)
    obtain ⟨rfl, hw⟩ := hp
    have G := g_wc hw G
    refine W.eq (g2 := F0 m 31 ls [.int (bI (decide ((kdI (mf z) (mb z) ((8 * row) + i)) < 2)))]) rfl ?_
    refine lv_if_ne (tgt := 36) hx hb dX5_readOf_31 (by decide) (fun c_31 => ?_) (fun c_31 => ?_)
    · skip
      have c_31 : (decide ((kdI (mf z) (mb z) ((8 * row) + i)) < 2)) = true := bI_t c_31
      rw [kd_sd] at c_31
      refine lv_iconst (v := 2) hx hb dX5_readOf_36 (by decide) ?_
      refine lv_iload_n hx hb dX5_readOf_37 rfl (lv_at hl 4 rfl) ?_
      refine lv_imul hx hb dX5_readOf_38 ?_
      refine g_topi (x' := nI (2 * (rvN (onW (mf z) (mb z)) row i))) (pk_mul 2 (rvN (onW (mf z) (mb z)) row i)) ?_
      refine lv_iload hx hb dX5_readOf_39 (lv_at hl 0 rfl) ?_
      refine lv_iadd hx hb dX5_readOf_41 ?_
      refine g_topi (x' := nI (rvN (onW (mf z) (mb z)) row (i + 1))) (by rw [kd_on (by omega) c_31, nI_add]; rfl) ?_
      refine lv_istore_n (lv' := [(3, .int (nI (rvN (onW (mf z) (mb z)) row (i + 1)))), (5, .int (kdI (mf z) (mb z) ((8 * row) + i))), (0, .ref (am 0)), (1, .int (nI z)), (2, .int (nI row)), (4, .int (nI i))]) hx hb dX5_readOf_42 rfl hl (by decide) rfl (fun ls hl => ?_)
      refine lv_iinc (v := nI (i + 1)) (lv' := [(4, .int (nI (i + 1))), (3, .int (nI (rvN (onW (mf z) (mb z)) row (i + 1)))), (5, .int (kdI (mf z) (mb z) ((8 * row) + i))), (0, .ref (am 0)), (1, .int (nI z)), (2, .int (nI row))]) hx hb dX5_readOf_43 hl (k := 5) rfl (nI_add i 1) (by decide) rfl (fun ls hl => ?_)
      refine lv_goto (tgt := 5) hx hb dX5_readOf_46 (by decide) ?_
      have hl := lv_sub hl (l' := _) [3, 4, 5, 1, 0] rfl
      exact ih_5 (i + 1) ⟨by omega, by simp only [allB, hi_b, c_31, Bool.true_and]⟩ (by show _ < _; omega) _ _ _ G hl
    · skip
      have c_31 : (decide ((kdI (mf z) (mb z) ((8 * row) + i)) < 2)) = false := bI_f c_31
      rw [kd_sd] at c_31
      refine lv_iconst (v := (-1)) hx hb dX5_readOf_34 (by decide) ?_
      exact g_iret C0 G ⟨by first | (rw [show rvI (sdW (mf z) (mb z)) (onW (mf z) (mb z)) row = -1 from if_neg (by rw [allB_no (p := fun j => tb (sdW (mf z) (mb z)) (8 * row + j)) (i := i) c_31 (by omega)]; decide)]; done) | (rw [show rvI (sdW (mf z) (mb z)) (onW (mf z) (mb z)) row = nI (rvN (onW (mf z) (mb z)) row 7) from if_pos hi_b]), by first | rfl | (exfalso; omega) | (simp only [rvN, c_9, c_31, Bool.false_eq_true, ↓reduceIte, eq_self, decide_true, decide_false, not_true_eq_false, not_false_eq_true, Bool.true_and, Bool.false_and, Bool.and_true, Bool.and_false]; done) | (simp [rvN, c_9, c_31]; done) | (simp [rvN, c_9, c_31]; rfl) | (simp [rvN, c_9, c_31]; omega)⟩ dX5_readOf_35

set_option maxHeartbeats 4000000 in
set_option maxRecDepth 100000 in
theorem c_X5_toldOf (l : Launch) (D : va_G) (cy : Nat → ClassId) (am : Nat → Nat) (mf : Nat → Int64) (mb : Nat → Int64) (mv : Nat → Nat) (kn : Int64) (on : Int64) (th : Int32) (sv : Nat) (X : Nat → Int32) (ln : Nat) (ap : Nat) (le : Nat) (fc : Nat) (f1 : Int32) (f2 : Int32) (ha : Int64) (R : va_W) (row : Nat) (h1 : row < 7) : GE l D (gts cy) yX5_toldOf cX5_toldOf 5 (some .int) 0 0 0 [.ref (am 0), .int (nI row)] (wM am cy th (cS mf mb mv) sv X ln ap le fc f1 f2 (biF kn on) ha R) (gF (some (.int (rvI kn on row))) (wM am cy th (cS mf mb mv) sv X ln ap le fc f1 f2 (biF kn on) ha R)) := by
  refine g_intro (by decide +kernel) (lv := [(0, .ref (am 0)), (1, .int (nI row))]) rfl (Nat.le_of_ble_eq_true rfl) ?_
  intro p e s m below meth c C0 G ls hl
  have hx := C0.1
  have hb := C0.2.1
  have hown := C0.2.2.2.2.2.1
  have hts := C0.2.2.2.2.2.2.1
  refine lv_iconst (v := 0) hx hb dX5_toldOf_0 (by decide) ?_
  refine lv_istore_n (lv' := [(2, .int 0), (0, .ref (am 0)), (1, .int (nI row))]) hx hb dX5_toldOf_1 rfl hl (by decide) rfl (fun ls hl => ?_)
  refine lv_iconst (v := 0) hx hb dX5_toldOf_2 (by decide) ?_
  refine lv_istore_n (lv' := [(3, .int 0), (2, .int 0), (0, .ref (am 0)), (1, .int (nI row))]) hx hb dX5_toldOf_3 rfl hl (by decide) rfl (fun ls hl => ?_)
  have hl := lv_sub hl (l' := [(0, .ref (am 0)), (1, .int (nI row)), (2, .int 0), (3, .int 0)]) [2, 3, 1, 0] rfl
  refine g_loop (σ := Nat) (fun i => 7 - i) (fun i => wM am cy th (cS mf mb mv) sv X ln ap le fc f1 f2 (biF kn on) ha R) (fun i => [(0, .ref (am 0)), (1, .int (nI row)), (2, .int (nI (rvN on row i))), (3, .int (nI i))]) (fun i => i ≤ 7 ∧ allB (fun j => tb kn (8 * row + j)) i = true) ?_ 0 ⟨by omega, rfl⟩ G hl
  intro i hi_4 ih_4 H locs ls G hl
  obtain ⟨hi_a, hi_b⟩ := hi_4
  have G : gW D (wM am cy th (cS mf mb mv) sv X ln ap le fc f1 f2 (biF kn on) ha R) (va_A (wM am cy th (cS mf mb mv) sv X ln ap le fc f1 f2 (biF kn on) ha R) s.heap.size) s H locs := G
  have hl : lv_has ls 5 [(0, .ref (am 0)), (1, .int (nI row)), (2, .int (nI (rvN on row i))), (3, .int (nI i))] := hl
  refine lv_iload_n hx hb dX5_toldOf_4 rfl (lv_at hl 3 rfl) ?_
  refine lv_bipush (v := 7) hx hb dX5_toldOf_5 (by decide) ?_
  refine lv_icmp_ge (tgt := 44) hx hb dX5_toldOf_7 (by decide) (fun c_7 => ?_) (fun c_7 => ?_)
  · skip
    have c_7 : 7 ≤ i := (nI_leI (a := 7) (b := i) (by omega) (by omega)).mp c_7
    obtain rfl : i = 7 := by omega
    have G : gW D (wM am cy th (cS mf mb mv) sv X ln ap le fc f1 f2 (biF kn on) ha R) (va_A (wM am cy th (cS mf mb mv) sv X ln ap le fc f1 f2 (biF kn on) ha R) s.heap.size) s _ _ := G
    have hl : lv_has ls 5 [(0, .ref (am 0)), (1, .int (nI row)), (2, .int (nI (rvN on row 7))), (3, .int (nI 7))] := hl
    refine lv_iload_n hx hb dX5_toldOf_44 rfl (lv_at hl 2 rfl) ?_
    exact g_iret C0 G ⟨by first | (rw [show rvI kn on row = -1 from if_neg (by rw [allB_no (p := fun j => tb kn (8 * row + j)) (i := i) hbn (by omega)]; decide)]; done) | (rw [show rvI kn on row = nI (rvN on row 7) from if_pos hi_b]), by first | rfl | (exfalso; omega) | (simp only [rvN, c_7, Bool.false_eq_true, ↓reduceIte, eq_self, decide_true, decide_false, not_true_eq_false, not_false_eq_true, Bool.true_and, Bool.false_and, Bool.and_true, Bool.and_false]; done) | (simp [rvN, c_7]; done) | (simp [rvN, c_7]; rfl) | (simp [rvN, c_7]; omega)⟩ dX5_toldOf_45
  · skip
    have c_7 : ¬ (7 ≤ i) := fun h => c_7 ((nI_leI (a := 7) (b := i) (by omega) (by omega)).mpr h)
    refine lv_aload_n hx hb dX5_toldOf_10 rfl (lv_at hl 0 rfl) ?_
    refine g_get (q0 := 0) (v := .ref (am 3)) C0 G in_X5 rfl rfl 10 (by decide) fl_X5_16 (fun _ h => h) rfl dX5_toldOf_11 ?_
    refine lv_bipush (v := 8) hx hb dX5_toldOf_14 (by decide) ?_
    refine lv_iload_n hx hb dX5_toldOf_16 rfl (lv_at hl 1 rfl) ?_
    refine lv_imul hx hb dX5_toldOf_17 ?_
    refine g_topi (x' := nI (8 * row)) (pk_mul 8 row) ?_
    refine lv_iload_n hx hb dX5_toldOf_18 rfl (lv_at hl 3 rfl) ?_
    refine lv_iadd hx hb dX5_toldOf_19 ?_
    refine g_topi (x' := nI ((8 * row) + i)) (nI_add (8 * row) i) ?_
    refine g_iald (q0 := 3) (n := 64) C0 G rfl 1 rfl (vp_in_nI (n := (8 * row) + i) (by omega) (by decide)) dX5_toldOf_20 ?_
    refine g_topi (x' := biF kn on ((8 * row) + i)) (congrArg (biF kn on) (nI_clamp (n := (8 * row) + i) (by omega))) ?_
    refine lv_istore (lv' := [(4, .int (biF kn on ((8 * row) + i))), (0, .ref (am 0)), (1, .int (nI row)), (2, .int (nI (rvN on row i))), (3, .int (nI i))]) hx hb dX5_toldOf_21 hl (by decide) rfl (fun ls hl => ?_)
    refine lv_iload hx hb dX5_toldOf_23 (lv_at hl 0 rfl) ?_
    refine lv_iconst (v := (-1)) hx hb dX5_toldOf_25 (by decide) ?_
    refine lv_icmp_ne (tgt := 31) hx hb dX5_toldOf_26 (by decide) (fun c_26 => ?_) (fun c_26 => ?_)
    · skip
      have hbi := bi_y c_26
      refine lv_iconst (v := 2) hx hb dX5_toldOf_31 (by decide) ?_
      refine lv_iload_n hx hb dX5_toldOf_32 rfl (lv_at hl 3 rfl) ?_
      refine lv_imul hx hb dX5_toldOf_33 ?_
      refine g_topi (x' := nI (2 * (rvN on row i))) (pk_mul 2 (rvN on row i)) ?_
      refine lv_iload hx hb dX5_toldOf_34 (lv_at hl 0 rfl) ?_
      refine lv_iadd hx hb dX5_toldOf_36 ?_
      refine g_topi (x' := nI (rvN on row (i + 1))) (by rw [show biF kn on (8 * row + i) = _ from hbi.2, nI_add]; rfl) ?_
      refine lv_istore_n (lv' := [(2, .int (nI (rvN on row (i + 1)))), (4, .int (biF kn on ((8 * row) + i))), (0, .ref (am 0)), (1, .int (nI row)), (3, .int (nI i))]) hx hb dX5_toldOf_37 rfl hl (by decide) rfl (fun ls hl => ?_)
      refine lv_iinc (v := nI (i + 1)) (lv' := [(3, .int (nI (i + 1))), (2, .int (nI (rvN on row (i + 1)))), (4, .int (biF kn on ((8 * row) + i))), (0, .ref (am 0)), (1, .int (nI row))]) hx hb dX5_toldOf_38 hl (k := 4) rfl (nI_add i 1) (by decide) rfl (fun ls hl => ?_)
      refine lv_goto (tgt := 4) hx hb dX5_toldOf_41 (by decide) ?_
      have hl := lv_sub hl (l' := _) [3, 4, 1, 0] rfl
      exact ih_4 (i + 1) ⟨by omega, by simp only [allB, hi_b, hbi.1, Bool.true_and]⟩ (by show _ < _; omega) _ _ _ G hl
    · skip
      have hbn := bi_n c_26
      refine lv_iconst (v := (-1)) hx hb dX5_toldOf_29 (by decide) ?_
      exact g_iret C0 G ⟨by first | (rw [show rvI kn on row = -1 from if_neg (by rw [allB_no (p := fun j => tb kn (8 * row + j)) (i := i) hbn (by omega)]; decide)]; done) | (rw [show rvI kn on row = nI (rvN on row 7) from if_pos hi_b]), by first | rfl | (exfalso; omega) | (simp only [rvN, c_7, c_26, Bool.false_eq_true, ↓reduceIte, eq_self, decide_true, decide_false, not_true_eq_false, not_false_eq_true, Bool.true_and, Bool.false_and, Bool.and_true, Bool.and_false]; done) | (simp [rvN, c_7, c_26]; done) | (simp [rvN, c_7, c_26]; rfl) | (simp [rvN, c_7, c_26]; omega)⟩ dX5_toldOf_30

set_option maxHeartbeats 4000000 in
set_option maxRecDepth 100000 in
theorem c_X5_untoldBut (l : Launch) (D : va_G) (cy : Nat → ClassId) (am : Nat → Nat) (mf : Nat → Int64) (mb : Nat → Int64) (mv : Nat → Nat) (kn : Int64) (on : Int64) (th : Int32) (sv : Nat) (X : Nat → Int32) (ln : Nat) (ap : Nat) (le : Nat) (fc : Nat) (f1 : Int32) (f2 : Int32) (ha : Int64) (R : va_W) (z : Nat) (k : Nat) (h1 : z < 21) (h2 : k < 64) : GE l D (gts cy) yX5_untoldBut cX5_untoldBut 3 (some .int) 4 0 0 [.ref (am 0), .int (nI z), .int (nI k)] (wM am cy th (cS mf mb mv) sv X ln ap le fc f1 f2 (biF kn on) ha R) (gF (some (.int (uwI (mf z) (mb z) k))) (wM am cy th (cS mf mb mv) sv X ln ap le fc f1 f2 (biF ((uwF (mf z) (mb z) k (kn, on)).1) ((uwF (mf z) (mb z) k (kn, on)).2)) ha R)) := by
  refine g_intro (by decide +kernel) (lv := [(0, .ref (am 0)), (1, .int (nI z)), (2, .int (nI k))]) rfl (Nat.le_of_ble_eq_true rfl) ?_
  intro p e s m below meth c C0 G ls hl
  have hx := C0.1
  have hb := C0.2.1
  have hown := C0.2.2.2.2.2.1
  have hts := C0.2.2.2.2.2.2.1
  refine lv_aload_n hx hb dX5_untoldBut_0 rfl (lv_at hl 0 rfl) ?_
  refine lv_iload_n hx hb dX5_untoldBut_1 rfl (lv_at hl 1 rfl) ?_
  refine lv_iload_n hx hb dX5_untoldBut_2 rfl (lv_at hl 2 rfl) ?_
  refine g_callV (As := [.int (nI z), .int (nI k)]) (rest := []) (q0 := 0) C0 G (c_X5_of l D cy (am := am) (mf := mf) (mb := mb) (mv := mv) (th := th) (sv := sv) (X := X) (ln := ln) (ap := ap) (le := le) (fc := fc) (f1 := f1) (f2 := f2) (ha := ha) (R := R) (B := biF kn on) (z := z) (k := k) (by omega) (by omega)) k_X5_of ml_X5_35 rfl rfl dX5_untoldBut_3 rfl rfl hl.1 (Nat.le_of_ble_eq_true rfl) ⟨Nat.le_of_ble_eq_true rfl, Nat.le_of_ble_eq_true rfl⟩ ⟨Nat.le_of_ble_eq_true rfl, Nat.le_of_ble_eq_true rfl⟩ (fun r W2 H locs hp G => ?_)
  obtain ⟨rfl, hw⟩ := hp
  have G := g_wc hw G
  refine W.eq (g2 := F0 m 6 ls [.int (kdI (mf z) (mb z) k)]) rfl ?_
  refine g_callS (As := [.int (kdI (mf z) (mb z) k)]) (rest := []) C0 G (c_X5_isSound l D cy (W1 := wM am cy th (cS mf mb mv) sv X ln ap le fc f1 f2 (biF kn on) ha R) (u := kdI (mf z) (mb z) k) ) k_X5_isSound ml_X5_66 dX5_untoldBut_6 rfl rfl hl.1 (Nat.le_of_ble_eq_true rfl) ⟨Nat.le_of_ble_eq_true rfl, Nat.le_of_ble_eq_true rfl⟩ ⟨Nat.le_of_ble_eq_true rfl, Nat.le_of_ble_eq_true rfl⟩ (fun r W2 H locs hp G => ?_)
  obtain ⟨rfl, hw⟩ := hp
  have G := g_wc hw G
  refine W.eq (g2 := F0 m 9 ls [.int (bI (decide ((kdI (mf z) (mb z) k) < 2)))]) rfl ?_
  refine lv_if_eq (tgt := 21) hx hb dX5_untoldBut_9 (by decide) (fun c_9 => ?_) (fun c_9 => ?_)
  · skip
    have c_9 : (decide ((kdI (mf z) (mb z) k) < 2)) = false := bI_f c_9
    rw [kd_sd] at c_9
    refine lv_iconst (v := (-1)) hx hb dX5_untoldBut_21 (by decide) ?_
    exact g_iret C0 G ⟨by first | rfl | (exfalso; omega) | (simp only [uwI, uwF, uwT, c_9, Bool.false_eq_true, ↓reduceIte, eq_self, decide_true, decide_false, not_true_eq_false, not_false_eq_true, Bool.true_and, Bool.false_and, Bool.and_true, Bool.and_false]; done) | (simp [uwI, uwF, uwT, c_9]; done) | (simp [uwI, uwF, uwT, c_9]; rfl) | (simp [uwI, uwF, uwT, c_9]; omega), by first | rfl | (exfalso; omega) | (simp only [uwI, uwF, uwT, c_9, Bool.false_eq_true, ↓reduceIte, eq_self, decide_true, decide_false, not_true_eq_false, not_false_eq_true, Bool.true_and, Bool.false_and, Bool.and_true, Bool.and_false]; done) | (simp [uwI, uwF, uwT, c_9]; done) | (simp [uwI, uwF, uwT, c_9]; rfl) | (simp [uwI, uwF, uwT, c_9]; omega)⟩ dX5_untoldBut_22
  · skip
    have c_9 : (decide ((kdI (mf z) (mb z) k) < 2)) = true := bI_t c_9
    rw [kd_sd] at c_9
    refine lv_aload_n hx hb dX5_untoldBut_12 rfl (lv_at hl 0 rfl) ?_
    refine lv_iload_n hx hb dX5_untoldBut_13 rfl (lv_at hl 1 rfl) ?_
    refine lv_iload_n hx hb dX5_untoldBut_14 rfl (lv_at hl 2 rfl) ?_
    refine g_callV (As := [.int (nI z), .int (nI k)]) (rest := []) (q0 := 0) C0 G (c_X5_tells l D cy (am := am) (mf := mf) (mb := mb) (mv := mv) (kn := kn) (on := on) (th := th) (sv := sv) (X := X) (ln := ln) (ap := ap) (le := le) (fc := fc) (f1 := f1) (f2 := f2) (ha := ha) (R := R) (z := z) (but := nI k) (sd := lfW (mf z) (mb z) k) (so := onW (mf z) (mb z) &&& lfW (mf z) (mb z) k) (by omega) (ti_but h2) (ok_lf _ _ _)) k_X5_tells ml_X5_73 rfl rfl dX5_untoldBut_15 rfl rfl hl.1 (Nat.le_of_ble_eq_true rfl) ⟨Nat.le_of_ble_eq_true rfl, Nat.le_of_ble_eq_true rfl⟩ ⟨Nat.le_of_ble_eq_true rfl, Nat.le_of_ble_eq_true rfl⟩ (fun r W2 H locs hp G => ?_)
    obtain ⟨rfl, hw⟩ := hp
    have G := g_wc hw G
    refine W.eq (g2 := F0 m 18 ls [.int (nI (pc ((fa (lfW (mf z) (mb z) k) (onW (mf z) (mb z) &&& lfW (mf z) (mb z) k)).1 ^^^ (-1))))]) rfl ?_
    refine lv_goto (tgt := 22) hx hb dX5_untoldBut_18 (by decide) ?_
    exact g_iret C0 G ⟨by first | rfl | (exfalso; omega) | (simp only [uwI, uwF, uwT, c_9, Bool.false_eq_true, ↓reduceIte, eq_self, decide_true, decide_false, not_true_eq_false, not_false_eq_true, Bool.true_and, Bool.false_and, Bool.and_true, Bool.and_false]; done) | (simp [uwI, uwF, uwT, c_9]; done) | (simp [uwI, uwF, uwT, c_9]; rfl) | (simp [uwI, uwF, uwT, c_9]; omega), by first | rfl | (exfalso; omega) | (simp only [uwI, uwF, uwT, c_9, Bool.false_eq_true, ↓reduceIte, eq_self, decide_true, decide_false, not_true_eq_false, not_false_eq_true, Bool.true_and, Bool.false_and, Bool.and_true, Bool.and_false]; done) | (simp [uwI, uwF, uwT, c_9]; done) | (simp [uwI, uwF, uwT, c_9]; rfl) | (simp [uwI, uwF, uwT, c_9]; omega)⟩ dX5_untoldBut_22

set_option maxHeartbeats 4000000 in
set_option maxRecDepth 100000 in
theorem c_X5_worstOf (l : Launch) (D : va_G) (cy : Nat → ClassId) (am : Nat → Nat) (mf : Nat → Int64) (mb : Nat → Int64) (mv : Nat → Nat) (kn : Int64) (on : Int64) (th : Int32) (sv : Nat) (X : Nat → Int32) (ln : Nat) (ap : Nat) (le : Nat) (fc : Nat) (f1 : Int32) (f2 : Int32) (ha : Int64) (R : va_W) (z : Nat) (h1 : z < 21) : GE l D (gts cy) yX5_worstOf cX5_worstOf 6 (some .int) 5 0 0 [.ref (am 0), .int (nI z)] (wM am cy th (cS mf mb mv) sv X ln ap le fc f1 f2 (biF kn on) ha R) (gF (some (.int ((wcS (mf z) (mb z) 64).1))) (wM am cy th (cS mf mb mv) sv X ln ap le fc f1 f2 (biF ((wcF (mf z) (mb z) (kn, on) 64).1) ((wcF (mf z) (mb z) (kn, on) 64).2)) ha R)) := by
  refine g_intro (by decide +kernel) (lv := [(0, .ref (am 0)), (1, .int (nI z))]) rfl (Nat.le_of_ble_eq_true rfl) ?_
  intro p e s m below meth c C0 G ls hl
  have hx := C0.1
  have hb := C0.2.1
  have hown := C0.2.2.2.2.2.1
  have hts := C0.2.2.2.2.2.2.1
  refine lv_iconst (v := (-1)) hx hb dX5_worstOf_0 (by decide) ?_
  refine lv_istore_n (lv' := [(2, .int (-1)), (0, .ref (am 0)), (1, .int (nI z))]) hx hb dX5_worstOf_1 rfl hl (by decide) rfl (fun ls hl => ?_)
  refine lv_iconst (v := (-1)) hx hb dX5_worstOf_2 (by decide) ?_
  refine lv_istore_n (lv' := [(3, .int (-1)), (2, .int (-1)), (0, .ref (am 0)), (1, .int (nI z))]) hx hb dX5_worstOf_3 rfl hl (by decide) rfl (fun ls hl => ?_)
  refine lv_iconst (v := 0) hx hb dX5_worstOf_4 (by decide) ?_
  refine lv_istore (lv' := [(4, .int 0), (3, .int (-1)), (2, .int (-1)), (0, .ref (am 0)), (1, .int (nI z))]) hx hb dX5_worstOf_5 hl (by decide) rfl (fun ls hl => ?_)
  have hl := lv_sub hl (l' := [(0, .ref (am 0)), (1, .int (nI z)), (2, .int (-1)), (3, .int (-1)), (4, .int 0)]) [3, 4, 2, 1, 0] rfl
  refine g_loop (σ := Nat) (fun i => 64 - i) (fun i => wM am cy th (cS mf mb mv) sv X ln ap le fc f1 f2 (biF ((wcF (mf z) (mb z) (kn, on) i).1) ((wcF (mf z) (mb z) (kn, on) i).2)) ha R) (fun i => [(0, .ref (am 0)), (1, .int (nI z)), (2, .int ((wcS (mf z) (mb z) i).1)), (3, .int ((wcS (mf z) (mb z) i).2)), (4, .int (nI i))]) (fun i => i ≤ 64) ?_ 0 (by show _ ≤ _; omega) G hl
  intro i hi_7 ih_7 H locs ls G hl
  have G : gW D (wM am cy th (cS mf mb mv) sv X ln ap le fc f1 f2 (biF ((wcF (mf z) (mb z) (kn, on) i).1) ((wcF (mf z) (mb z) (kn, on) i).2)) ha R) (va_A (wM am cy th (cS mf mb mv) sv X ln ap le fc f1 f2 (biF kn on) ha R) s.heap.size) s H locs := G
  have hl : lv_has ls 6 [(0, .ref (am 0)), (1, .int (nI z)), (2, .int ((wcS (mf z) (mb z) i).1)), (3, .int ((wcS (mf z) (mb z) i).2)), (4, .int (nI i))] := hl
  refine lv_iload hx hb dX5_worstOf_7 (lv_at hl 4 rfl) ?_
  refine lv_bipush (v := 64) hx hb dX5_worstOf_9 (by decide) ?_
  refine lv_icmp_ge (tgt := 55) hx hb dX5_worstOf_11 (by decide) (fun c_11 => ?_) (fun c_11 => ?_)
  · skip
    have c_11 : 64 ≤ i := (nI_leI (a := 64) (b := i) (by omega) (by omega)).mp c_11
    obtain rfl : i = 64 := by omega
    have G : gW D (wM am cy th (cS mf mb mv) sv X ln ap le fc f1 f2 (biF ((wcF (mf z) (mb z) (kn, on) 64).1) ((wcF (mf z) (mb z) (kn, on) 64).2)) ha R) (va_A (wM am cy th (cS mf mb mv) sv X ln ap le fc f1 f2 (biF kn on) ha R) s.heap.size) s _ _ := G
    have hl : lv_has ls 6 [(0, .ref (am 0)), (1, .int (nI z)), (2, .int ((wcS (mf z) (mb z) 64).1)), (3, .int ((wcS (mf z) (mb z) 64).2)), (4, .int (nI 64))] := hl
    refine lv_iload_n hx hb dX5_worstOf_55 rfl (lv_at hl 2 rfl) ?_
    exact g_iret C0 G ⟨by first | rfl | (exfalso; omega) | (simp only [c_11, Bool.false_eq_true, ↓reduceIte, eq_self, decide_true, decide_false, not_true_eq_false, not_false_eq_true, Bool.true_and, Bool.false_and, Bool.and_true, Bool.and_false]; done) | (simp [c_11]; done) | (simp [c_11]; rfl) | (simp [c_11]; omega), by first | rfl | (exfalso; omega) | (simp only [c_11, Bool.false_eq_true, ↓reduceIte, eq_self, decide_true, decide_false, not_true_eq_false, not_false_eq_true, Bool.true_and, Bool.false_and, Bool.and_true, Bool.and_false]; done) | (simp [c_11]; done) | (simp [c_11]; rfl) | (simp [c_11]; omega)⟩ dX5_worstOf_56
  · skip
    have c_11 : ¬ (64 ≤ i) := fun h => c_11 ((nI_leI (a := 64) (b := i) (by omega) (by omega)).mpr h)
    refine lv_aload_n hx hb dX5_worstOf_14 rfl (lv_at hl 0 rfl) ?_
    refine lv_iload_n hx hb dX5_worstOf_15 rfl (lv_at hl 1 rfl) ?_
    refine lv_iload hx hb dX5_worstOf_16 (lv_at hl 4 rfl) ?_
    refine g_callV (As := [.int (nI z), .int (nI i)]) (rest := []) (q0 := 0) C0 G (c_X5_untoldBut l D cy (am := am) (mf := mf) (mb := mb) (mv := mv) (kn := (wcF (mf z) (mb z) (kn, on) i).1) (on := (wcF (mf z) (mb z) (kn, on) i).2) (th := th) (sv := sv) (X := X) (ln := ln) (ap := ap) (le := le) (fc := fc) (f1 := f1) (f2 := f2) (ha := ha) (R := R) (z := z) (k := i) (by omega) (by omega)) k_X5_untoldBut ml_X5_134 rfl rfl dX5_worstOf_18 rfl rfl hl.1 (Nat.le_of_ble_eq_true rfl) ⟨Nat.le_of_ble_eq_true rfl, Nat.le_of_ble_eq_true rfl⟩ ⟨Nat.le_of_ble_eq_true rfl, Nat.le_of_ble_eq_true rfl⟩ (fun r W2 H locs hp G => ?_)
    obtain ⟨rfl, hw⟩ := hp
    have G := g_wc hw G
    refine W.eq (g2 := F0 m 21 ls [.int (uwI (mf z) (mb z) i)]) rfl ?_
    refine lv_istore (lv' := [(5, .int (uwI (mf z) (mb z) i)), (0, .ref (am 0)), (1, .int (nI z)), (2, .int ((wcS (mf z) (mb z) i).1)), (3, .int ((wcS (mf z) (mb z) i).2)), (4, .int (nI i))]) hx hb dX5_worstOf_21 hl (by decide) rfl (fun ls hl => ?_)
    refine lv_iload hx hb dX5_worstOf_23 (lv_at hl 0 rfl) ?_
    refine lv_iload_n hx hb dX5_worstOf_25 rfl (lv_at hl 4 rfl) ?_
    refine lv_icmp_le (tgt := 34) hx hb dX5_worstOf_26 (by decide) (fun c_26 => ?_) (fun c_26 => ?_)
    · skip
      refine lv_iload_n hx hb dX5_worstOf_34 rfl (lv_at hl 3 rfl) ?_
      refine lv_istore_n (lv' := [(2, .int ((wcS (mf z) (mb z) i).1)), (5, .int (uwI (mf z) (mb z) i)), (0, .ref (am 0)), (1, .int (nI z)), (3, .int ((wcS (mf z) (mb z) i).2)), (4, .int (nI i))]) hx hb dX5_worstOf_35 rfl hl (by decide) rfl (fun ls hl => ?_)
      refine lv_iload hx hb dX5_worstOf_36 (lv_at hl 1 rfl) ?_
      refine lv_iload_n hx hb dX5_worstOf_38 rfl (lv_at hl 4 rfl) ?_
      refine lv_icmp_le (tgt := 47) hx hb dX5_worstOf_39 (by decide) (fun c_39 => ?_) (fun c_39 => ?_)
      · skip
        refine lv_iload_n hx hb dX5_worstOf_47 rfl (lv_at hl 4 rfl) ?_
        refine lv_istore_n (lv' := [(3, .int ((wcS (mf z) (mb z) i).2)), (2, .int ((wcS (mf z) (mb z) i).1)), (5, .int (uwI (mf z) (mb z) i)), (0, .ref (am 0)), (1, .int (nI z)), (4, .int (nI i))]) hx hb dX5_worstOf_48 rfl hl (by decide) rfl (fun ls hl => ?_)
        refine lv_iinc (v := nI (i + 1)) (lv' := [(4, .int (nI (i + 1))), (3, .int ((wcS (mf z) (mb z) i).2)), (2, .int ((wcS (mf z) (mb z) i).1)), (5, .int (uwI (mf z) (mb z) i)), (0, .ref (am 0)), (1, .int (nI z))]) hx hb dX5_worstOf_49 hl (k := 5) rfl (nI_add i 1) (by decide) rfl (fun ls hl => ?_)
        refine lv_goto (tgt := 7) hx hb dX5_worstOf_52 (by decide) ?_
        have hl := lv_sub hl (l' := _) [4, 5, 2, 1, 0] rfl
        exact ih_7 (i + 1) (by show _ ≤ _; omega) (by show _ < _; omega) _ _ _ G (by first | exact absurd c_26 c_39 | exact absurd c_39 c_26 | (rw [show wcS (mf z) (mb z) (i + 1) = wcS (mf z) (mb z) i from if_pos c_26]; exact hl) | (rw [show wcS (mf z) (mb z) (i + 1) = (nI i, uwI (mf z) (mb z) i) from if_neg c_26]; exact hl))
      · skip
        refine lv_iload hx hb dX5_worstOf_42 (lv_at hl 1 rfl) ?_
        refine lv_goto (tgt := 48) hx hb dX5_worstOf_44 (by decide) ?_
        refine lv_istore_n (lv' := [(3, .int (uwI (mf z) (mb z) i)), (2, .int ((wcS (mf z) (mb z) i).1)), (5, .int (uwI (mf z) (mb z) i)), (0, .ref (am 0)), (1, .int (nI z)), (4, .int (nI i))]) hx hb dX5_worstOf_48 rfl hl (by decide) rfl (fun ls hl => ?_)
        refine lv_iinc (v := nI (i + 1)) (lv' := [(4, .int (nI (i + 1))), (3, .int (uwI (mf z) (mb z) i)), (2, .int ((wcS (mf z) (mb z) i).1)), (5, .int (uwI (mf z) (mb z) i)), (0, .ref (am 0)), (1, .int (nI z))]) hx hb dX5_worstOf_49 hl (k := 5) rfl (nI_add i 1) (by decide) rfl (fun ls hl => ?_)
        refine lv_goto (tgt := 7) hx hb dX5_worstOf_52 (by decide) ?_
        have hl := lv_sub hl (l' := _) [4, 5, 2, 1, 0] rfl
        exact ih_7 (i + 1) (by show _ ≤ _; omega) (by show _ < _; omega) _ _ _ G (by first | exact absurd c_26 c_39 | exact absurd c_39 c_26 | (rw [show wcS (mf z) (mb z) (i + 1) = wcS (mf z) (mb z) i from if_pos c_26]; exact hl) | (rw [show wcS (mf z) (mb z) (i + 1) = (nI i, uwI (mf z) (mb z) i) from if_neg c_26]; exact hl))
    · skip
      refine lv_iload hx hb dX5_worstOf_29 (lv_at hl 5 rfl) ?_
      refine lv_goto (tgt := 35) hx hb dX5_worstOf_31 (by decide) ?_
      refine lv_istore_n (lv' := [(2, .int (nI i)), (5, .int (uwI (mf z) (mb z) i)), (0, .ref (am 0)), (1, .int (nI z)), (3, .int ((wcS (mf z) (mb z) i).2)), (4, .int (nI i))]) hx hb dX5_worstOf_35 rfl hl (by decide) rfl (fun ls hl => ?_)
      refine lv_iload hx hb dX5_worstOf_36 (lv_at hl 1 rfl) ?_
      refine lv_iload_n hx hb dX5_worstOf_38 rfl (lv_at hl 4 rfl) ?_
      refine lv_icmp_le (tgt := 47) hx hb dX5_worstOf_39 (by decide) (fun c_39 => ?_) (fun c_39 => ?_)
      · skip
        refine lv_iload_n hx hb dX5_worstOf_47 rfl (lv_at hl 4 rfl) ?_
        refine lv_istore_n (lv' := [(3, .int ((wcS (mf z) (mb z) i).2)), (2, .int (nI i)), (5, .int (uwI (mf z) (mb z) i)), (0, .ref (am 0)), (1, .int (nI z)), (4, .int (nI i))]) hx hb dX5_worstOf_48 rfl hl (by decide) rfl (fun ls hl => ?_)
        refine lv_iinc (v := nI (i + 1)) (lv' := [(4, .int (nI (i + 1))), (3, .int ((wcS (mf z) (mb z) i).2)), (2, .int (nI i)), (5, .int (uwI (mf z) (mb z) i)), (0, .ref (am 0)), (1, .int (nI z))]) hx hb dX5_worstOf_49 hl (k := 5) rfl (nI_add i 1) (by decide) rfl (fun ls hl => ?_)
        refine lv_goto (tgt := 7) hx hb dX5_worstOf_52 (by decide) ?_
        have hl := lv_sub hl (l' := _) [4, 5, 2, 1, 0] rfl
        exact ih_7 (i + 1) (by show _ ≤ _; omega) (by show _ < _; omega) _ _ _ G (by first | exact absurd c_26 c_39 | exact absurd c_39 c_26 | (rw [show wcS (mf z) (mb z) (i + 1) = wcS (mf z) (mb z) i from if_pos c_26]; exact hl) | (rw [show wcS (mf z) (mb z) (i + 1) = (nI i, uwI (mf z) (mb z) i) from if_neg c_26]; exact hl))
      · skip
        refine lv_iload hx hb dX5_worstOf_42 (lv_at hl 1 rfl) ?_
        refine lv_goto (tgt := 48) hx hb dX5_worstOf_44 (by decide) ?_
        refine lv_istore_n (lv' := [(3, .int (uwI (mf z) (mb z) i)), (2, .int (nI i)), (5, .int (uwI (mf z) (mb z) i)), (0, .ref (am 0)), (1, .int (nI z)), (4, .int (nI i))]) hx hb dX5_worstOf_48 rfl hl (by decide) rfl (fun ls hl => ?_)
        refine lv_iinc (v := nI (i + 1)) (lv' := [(4, .int (nI (i + 1))), (3, .int (uwI (mf z) (mb z) i)), (2, .int (nI i)), (5, .int (uwI (mf z) (mb z) i)), (0, .ref (am 0)), (1, .int (nI z))]) hx hb dX5_worstOf_49 hl (k := 5) rfl (nI_add i 1) (by decide) rfl (fun ls hl => ?_)
        refine lv_goto (tgt := 7) hx hb dX5_worstOf_52 (by decide) ?_
        have hl := lv_sub hl (l' := _) [4, 5, 2, 1, 0] rfl
        exact ih_7 (i + 1) (by show _ ≤ _; omega) (by show _ < _; omega) _ _ _ G (by first | exact absurd c_26 c_39 | exact absurd c_39 c_26 | (rw [show wcS (mf z) (mb z) (i + 1) = wcS (mf z) (mb z) i from if_pos c_26]; exact hl) | (rw [show wcS (mf z) (mb z) (i + 1) = (nI i, uwI (mf z) (mb z) i) from if_neg c_26]; exact hl))

set_option maxHeartbeats 4000000 in
set_option maxRecDepth 100000 in
theorem c_X5_mix (l : Launch) (D : va_G) (cy : Nat → ClassId) (am : Nat → Nat) (mf : Nat → Int64) (mb : Nat → Int64) (mv : Nat → Nat) (kn : Int64) (on : Int64) (th : Int32) (sv : Nat) (X : Nat → Int32) (ln : Nat) (ap : Nat) (le : Nat) (fc : Nat) (f1 : Int32) (f2 : Int32) (ha : Int64) (R : va_W) (v : Int64)  : GE l D (gts cy) yX5_mix cX5_mix 3 none 0 0 0 [.ref (am 0), .long v] (wM am cy th (cS mf mb mv) sv X ln ap le fc f1 f2 (biF kn on) ha R) (gF none (wM am cy th (cS mf mb mv) sv X ln ap le fc f1 f2 (biF kn on) (31 * ha + v) R)) := by
  refine g_intro (by decide +kernel) (lv := [(0, .ref (am 0)), (1, .long v)]) rfl (Nat.le_of_ble_eq_true rfl) ?_
  intro p e s m below meth c C0 G ls hl
  have hx := C0.1
  have hb := C0.2.1
  have hown := C0.2.2.2.2.2.1
  have hts := C0.2.2.2.2.2.2.1
  refine lv_aload_n hx hb dX5_mix_0 rfl (lv_at hl 0 rfl) ?_
  refine lv_ldc2 (v := (31)) hx hb hown (hts _ kl_X5_181) dX5_mix_1 ?_
  refine lv_aload_n hx hb dX5_mix_4 rfl (lv_at hl 0 rfl) ?_
  refine g_get (q0 := 0) (v := .long ha) C0 G in_X5 rfl rfl 11 (by decide) fl_X5_183 (fun _ h => h) rfl dX5_mix_5 ?_
  refine lv_lmul hx hb dX5_mix_8 ?_
  refine lv_lload_n hx hb dX5_mix_9 rfl (lv_at hl 1 rfl) ?_
  refine lv_ladd hx hb dX5_mix_10 ?_
  refine g_put (q0 := 0) (W2 := wM am cy th (cS mf mb mv) sv X ln ap le fc f1 f2 (biF kn on) ((((31) : Int64) * ha) + v) R) C0 G ft_X5 in_X5 rfl rfl 11 (by decide) fl_X5_183 (fun _ h => h) rfl rfl rfl (Nat.le_of_ble_eq_true rfl) rfl dX5_mix_11 (fun H locs G => ?_)
  exact g_vret C0 G ⟨by first | rfl | (exfalso; omega) | (simp only [Bool.false_eq_true, ↓reduceIte, eq_self, decide_true, decide_false, not_true_eq_false, not_false_eq_true, Bool.true_and, Bool.false_and, Bool.and_true, Bool.and_false]; done) | (simp []; done) | (simp []; rfl) | (simp []; omega), by first | rfl | (exfalso; omega) | (simp only [Bool.false_eq_true, ↓reduceIte, eq_self, decide_true, decide_false, not_true_eq_false, not_false_eq_true, Bool.true_and, Bool.false_and, Bool.and_true, Bool.and_false]; done) | (simp []; done) | (simp []; rfl) | (simp []; omega)⟩ dX5_mix_14
