/-! closing in the reference; its ranges -/
theorem inB_y {k n : Nat} {hi : Int32} (h : k ≤ n) (hh : hi = nI n) (hn : n < 2 ^ 31) : inB (nI k) 0 hi = true := by
  subst hh
  unfold inB
  rw [decide_eq_false (nI_pos (by omega)), decide_eq_false (nI_nlt h hn)]; rfl
theorem inB_ir {x : Int32} {n : Nat} {hi : Int32} (hh : hi = nI n) (hn : n + 1 < 2 ^ 31) : inB x 0 hi = ir x (n + 1) := by
  subst hh
  unfold inB ir
  by_cases h : x < 0
  · simp [h]
  · obtain ⟨j, hj, rfl⟩ := nI_of h
    by_cases h2 : j ≤ n
    · rw [decide_eq_false (nI_nlt h2 (by omega)), decide_eq_true (nI_lt (a := j) (b := n + 1) (by omega) hn)]; simp [h]
    · rw [decide_eq_true (nI_lt (a := n) (b := j) (by omega) hj), decide_eq_false (nI_nlt (a := j) (b := n + 1) (by omega) hj)]; simp
def xcI (f b : Int64) (col : Nat) : Nat → Int32
  | 0 => 0
  | r + 1 => xcI f b col r ^^^ kdI f b (8 * r + col)
def cbN (f b : Int64) (col : Nat) : Nat := if od (ckW f b &&& colM col) then 1 else 0
def cmF (f b : Int64) : Nat → Int64
  | 0 => f
  | i + 1 => skF (cmF f b i) (56 + i) (cbN f b i)
def cmB (f b : Int64) : Nat → Int64
  | 0 => b
  | i + 1 => skB (cmB f b i) (56 + i) (cbN f b i)
def csN (f b : Int64) : Nat → Nat
  | 0 => 0
  | i + 1 => csN f b i + cbN f b i
theorem cbN_lt (f b : Int64) (col : Nat) : cbN f b col < 2 := by unfold cbN; split <;> decide
theorem csN_le (f b : Int64) : ∀ i, csN f b i ≤ i
  | 0 => Nat.le_refl _
  | i + 1 => by have := csN_le f b i; have := cbN_lt f b i; show csN f b i + cbN f b i ≤ i + 1; omega
theorem cc_sd {f b : Int64} (h : ccB f b = true) : ∀ k, k < 56 → tb (sdW f b) k = true := by
  rw [← cc_all, Bool.and_eq_true, allB_iff] at h
  intro k hk
  rw [← kd_sd]; exact h.2 k hk
theorem xc_cnt {f b : Int64} {col : Nat} (hc : col < 8) (h : ∀ k, k < 56 → tb (sdW f b) k = true) : ∀ n, n ≤ 7 → xcI f b col n = nI (cnt (fun r => tb (onW f b) (8 * r + col)) n % 2)
  | 0, _ => rfl
  | n + 1, hn => by
    show xcI f b col n ^^^ kdI f b (8 * n + col) = _
    rw [xc_cnt hc h n (by omega), kd_on (by omega) (h _ (by omega)), xor2 (Nat.mod_lt _ (by decide)) (by split <;> decide)]
    congr 1
    show _ = (cnt _ n + (if tb (onW f b) (8 * n + col) = true then 1 else 0)) % 2
    split <;> omega
theorem ck_cnt {f b : Int64} {col : Nat} (hc : col < 8) : pc (ckW f b &&& colM col) = cnt (fun r => tb (onW f b) (8 * r + col)) 7 := by
  have h1 : pc (ckW f b &&& colM col) = cnt (fun k => tb (lineM (8 + col)) k && (tb (onW f b) k && !decide (k / 8 = 7))) 64 := by
    unfold pc
    apply cnt_cong
    intro k hk
    unfold ckW
    rw [lineM_hi (by omega), show 8 + col - 8 = col by omega, tb_and, tb_and, tb_not hk, tb_row 7 (by decide) k hk, Bool.and_comm]
  rw [h1, cnt_line _ (8 + col) (by omega)]
  show cnt (fun j => tb (onW f b) (lcN (8 + col) j) && !decide (lcN (8 + col) j / 8 = 7)) 7 + _ = _
  have h2 : cnt (fun j => tb (onW f b) (lcN (8 + col) j) && !decide (lcN (8 + col) j / 8 = 7)) 7 = cnt (fun r => tb (onW f b) (8 * r + col)) 7 := by
    apply cnt_cong
    intro j hj
    have : lcN (8 + col) j = 8 * j + col := by unfold lcN; rw [if_neg (by omega)]; omega
    rw [this, decide_eq_false (by omega)]; simp
  have h3 : lcN (8 + col) 7 / 8 = 7 := by unfold lcN; rw [if_neg (by omega)]; omega
  rw [h2]; simp [h3]
theorem xc_cb {f b : Int64} {col : Nat} (hc : col < 8) (h : ∀ k, k < 56 → tb (sdW f b) k = true) : xcI f b col 7 = nI (cbN f b col) := by
  rw [xc_cnt hc h 7 (by decide)]
  congr 1
  unfold cbN od
  rw [ck_cnt hc]
  rcases Nat.mod_two_eq_zero_or_one (cnt (fun r => tb (onW f b) (8 * r + col)) 7) with e | e <;> simp [e]
theorem cm_same {f b : Int64} : ∀ (i : Nat), i ≤ 8 → ∀ k, k < 56 → kdI (cmF f b i) (cmB f b i) k = kdI f b k
  | 0, _, k, hk => rfl
  | i + 1, hi, k, hk => by
    show kdI (skF (cmF f b i) (56 + i) (cbN f b i)) (skB (cmB f b i) (56 + i) (cbN f b i)) k = _
    have := cbN_lt f b i
    rw [kd_sk (by omega) (by omega) (by omega), if_neg (by omega), cm_same i (by omega) k hk]
theorem xc_same {f b : Int64} {col i : Nat} (hc : col < 8) (hi : i ≤ 8) : ∀ n, n ≤ 7 → xcI (cmF f b i) (cmB f b i) col n = xcI f b col n
  | 0, _ => rfl
  | n + 1, hn => by
    show xcI _ _ col n ^^^ kdI (cmF f b i) (cmB f b i) (8 * n + col) = _
    rw [xc_same hc hi n (by omega), cm_same i hi _ (by omega)]; rfl
theorem xc_cm {f b : Int64} {i : Nat} (hi : i < 8) (h : ∀ k, k < 56 → tb (sdW f b) k = true) : xcI (cmF f b i) (cmB f b i) i 7 = nI (cbN f b i) := by
  rw [xc_same hi (by omega) 7 (by decide), xc_cb hi h]
theorem mSv_lo {α : Type} {g : Nat → α} {sv k : Nat} (hk : k < 3) : mSv g sv k = g k := by
  have cp : ∀ (h : Nat → α) (fm t : Nat), t ≠ 0 → cpU h fm t k = h k := fun h fm t ht => if_neg (by omega)
  have sh : ∀ (h : Nat → α) (i : Nat), shU h i k = h k := by
    intro h i
    induction i with
    | zero => rfl
    | succ i ih => show cpU (shU h i) (i + 2) (i + 1) k = _; rw [cp _ _ _ (by omega), ih]
  unfold mSv
  split
  · exact cp _ _ _ (by omega)
  · rw [cp _ _ _ (by omega), sh]
/-- a cell's kind with the hole of one face turned -/
def tgN (f b : Int64) (k : Nat) (bk : Bool) : Nat := if (tb f k ^^ !bk) then (if (tb b k ^^ bk) then 3 else 1) else (if (tb b k ^^ bk) then 0 else 2)
theorem tgN_lt (f b : Int64) (k : Nat) (bk : Bool) : tgN f b k bk < 4 := by unfold tgN; split <;> split <;> decide
theorem tu_tg {f b : Int64} {k v : Nat} (hv : v < 4) : tuI (kdI f b k) (nI (fcN v)) = nI (tgN f b k (sbB v)) := by
  unfold tuI tgN kdI
  rcases (show v = 0 ∨ v = 1 ∨ v = 2 ∨ v = 3 by omega) with rfl | rfl | rfl | rfl <;>
    (simp only [fcN, sbB]; cases tb f k <;> cases tb b k <;> decide)
def cyF (kn on : Int64) : Nat → Int64
  | 0 => 0
  | i + 1 => skF (cyF kn on i) i (if tb kn i then (if tb on i then 1 else 0) else 2)
def cyB (kn on : Int64) : Nat → Int64
  | 0 => 0
  | i + 1 => skB (cyB kn on i) i (if tb kn i then (if tb on i then 1 else 0) else 2)
set_option maxHeartbeats 4000000 in
set_option maxRecDepth 100000 in
theorem c_X5_closes (l : Launch) (D : va_G) (cy : Nat → ClassId) (am : Nat → Nat) (mf : Nat → Int64) (mb : Nat → Int64) (mv : Nat → Nat) (th : Int32) (sv : Nat) (X : Nat → Int32) (ln : Nat) (ap : Nat) (le : Nat) (fc : Nat) (f1 : Int32) (f2 : Int32) (ha : Int64) (R : va_W) (B : Nat → Int32) (z : Nat) (h1 : z < 21) (hsd : ∀ k, k < 56 → tb (sdW (mf z) (mb z)) k = true) : GE l D (gts cy) yX5_closes cX5_closes 6 (some .int) 1 0 0 [.ref (am 0), .int (nI z)] (wM am cy th (cS mf mb mv) sv X ln ap le fc f1 f2 (B) ha R) (gF (some (.int (nI (csN (mf z) (mb z) 8)))) (wM am cy th (cS (va_up mf z (cmF (mf z) (mb z) 8)) (va_up mb z (cmB (mf z) (mb z) 8)) mv) sv X ln ap le fc f1 f2 (B) ha R)) := by
  refine g_intro (by decide +kernel) (lv := [(0, .ref (am 0)), (1, .int (nI z))]) rfl (Nat.le_of_ble_eq_true rfl) ?_
  intro p e s m below meth c C0 G ls hl
  have hx := C0.1
  have hb := C0.2.1
  have hown := C0.2.2.2.2.2.1
  have hts := C0.2.2.2.2.2.2.1
  refine lv_iconst (v := 0) hx hb dX5_closes_0 (by decide) ?_
  refine lv_istore_n (lv' := [(2, .int 0), (0, .ref (am 0)), (1, .int (nI z))]) hx hb dX5_closes_1 rfl hl (by decide) rfl (fun ls hl => ?_)
  refine lv_iconst (v := 0) hx hb dX5_closes_2 (by decide) ?_
  refine lv_istore_n (lv' := [(3, .int 0), (2, .int 0), (0, .ref (am 0)), (1, .int (nI z))]) hx hb dX5_closes_3 rfl hl (by decide) rfl (fun ls hl => ?_)
  have hl := lv_sub hl (l' := [(0, .ref (am 0)), (1, .int (nI z)), (2, .int 0), (3, .int 0)]) [2, 3, 1, 0] rfl
  refine g_loop (σ := Nat) (fun i => 8 - i) (fun i => wM am cy th (cS (va_up mf z (cmF (mf z) (mb z) i)) (va_up mb z (cmB (mf z) (mb z) i)) mv) sv X ln ap le fc f1 f2 (B) ha R) (fun i => [(0, .ref (am 0)), (1, .int (nI z)), (2, .int (nI (csN (mf z) (mb z) i))), (3, .int (nI i))]) (fun i => i ≤ 8) ?_ 0 (by show _ ≤ _; omega) (g_wc (by rw [show cmF (mf z) (mb z) 0 = mf z from rfl, show cmB (mf z) (mb z) 0 = mb z from rfl, va_up_s, va_up_s]) G) hl
  intro i hi_4 ih_4 H locs ls G hl
  have G : gW D (wM am cy th (cS (va_up mf z (cmF (mf z) (mb z) i)) (va_up mb z (cmB (mf z) (mb z) i)) mv) sv X ln ap le fc f1 f2 (B) ha R) (va_A (wM am cy th (cS mf mb mv) sv X ln ap le fc f1 f2 (B) ha R) s.heap.size) s H locs := G
  have hl : lv_has ls 6 [(0, .ref (am 0)), (1, .int (nI z)), (2, .int (nI (csN (mf z) (mb z) i))), (3, .int (nI i))] := hl
  refine lv_iload_n hx hb dX5_closes_4 rfl (lv_at hl 3 rfl) ?_
  refine lv_bipush (v := 8) hx hb dX5_closes_5 (by decide) ?_
  refine lv_icmp_ge (tgt := 68) hx hb dX5_closes_7 (by decide) (fun c_7 => ?_) (fun c_7 => ?_)
  · skip
    have c_7 : 8 ≤ i := (nI_leI (a := 8) (b := i) (by omega) (by omega)).mp c_7
    obtain rfl : i = 8 := by omega
    have G : gW D (wM am cy th (cS (va_up mf z (cmF (mf z) (mb z) 8)) (va_up mb z (cmB (mf z) (mb z) 8)) mv) sv X ln ap le fc f1 f2 (B) ha R) (va_A (wM am cy th (cS mf mb mv) sv X ln ap le fc f1 f2 (B) ha R) s.heap.size) s _ _ := G
    have hl : lv_has ls 6 [(0, .ref (am 0)), (1, .int (nI z)), (2, .int (nI (csN (mf z) (mb z) 8))), (3, .int (nI 8))] := hl
    refine lv_iload_n hx hb dX5_closes_68 rfl (lv_at hl 2 rfl) ?_
    exact g_iret C0 G ⟨by first | rfl | (exfalso; omega) | (simp only [c_7, Bool.false_eq_true, ↓reduceIte, eq_self, decide_true, decide_false, not_true_eq_false, not_false_eq_true, Bool.true_and, Bool.false_and, Bool.and_true, Bool.and_false]; done) | (simp [c_7]; done) | (simp [c_7]; rfl) | (simp [c_7]; omega), by first | rfl | (exfalso; omega) | (simp only [c_7, Bool.false_eq_true, ↓reduceIte, eq_self, decide_true, decide_false, not_true_eq_false, not_false_eq_true, Bool.true_and, Bool.false_and, Bool.and_true, Bool.and_false]; done) | (simp [c_7]; done) | (simp [c_7]; rfl) | (simp [c_7]; omega)⟩ dX5_closes_69
  · skip
    have c_7 : ¬ (8 ≤ i) := fun h => c_7 ((nI_leI (a := 8) (b := i) (by omega) (by omega)).mpr h)
    refine lv_iconst (v := 0) hx hb dX5_closes_10 (by decide) ?_
    refine lv_istore (lv' := [(4, .int 0), (0, .ref (am 0)), (1, .int (nI z)), (2, .int (nI (csN (mf z) (mb z) i))), (3, .int (nI i))]) hx hb dX5_closes_11 hl (by decide) rfl (fun ls hl => ?_)
    refine lv_iconst (v := 0) hx hb dX5_closes_13 (by decide) ?_
    refine lv_istore (lv' := [(5, .int 0), (4, .int 0), (0, .ref (am 0)), (1, .int (nI z)), (2, .int (nI (csN (mf z) (mb z) i))), (3, .int (nI i))]) hx hb dX5_closes_14 hl (by decide) rfl (fun ls hl => ?_)
    have hl := lv_sub hl (l' := [(0, .ref (am 0)), (1, .int (nI z)), (2, .int (nI (csN (mf z) (mb z) i))), (3, .int (nI i)), (4, .int 0), (5, .int 0)]) [2, 3, 4, 5, 1, 0] rfl
    refine g_loop (σ := Nat) (fun r => 7 - r) (fun r => wM am cy th (cS (va_up mf z (cmF (mf z) (mb z) i)) (va_up mb z (cmB (mf z) (mb z) i)) mv) sv X ln ap le fc f1 f2 (B) ha R) (fun r => [(0, .ref (am 0)), (1, .int (nI z)), (2, .int (nI (csN (mf z) (mb z) i))), (3, .int (nI i)), (4, .int (xcI (cmF (mf z) (mb z) i) (cmB (mf z) (mb z) i) i r)), (5, .int (nI r))]) (fun r => r ≤ 7) ?_ 0 (by show _ ≤ _; omega) G hl
    intro r hi_16 ih_16 H locs ls G hl
    have G : gW D (wM am cy th (cS (va_up mf z (cmF (mf z) (mb z) i)) (va_up mb z (cmB (mf z) (mb z) i)) mv) sv X ln ap le fc f1 f2 (B) ha R) (va_A (wM am cy th (cS mf mb mv) sv X ln ap le fc f1 f2 (B) ha R) s.heap.size) s H locs := G
    have hl : lv_has ls 6 [(0, .ref (am 0)), (1, .int (nI z)), (2, .int (nI (csN (mf z) (mb z) i))), (3, .int (nI i)), (4, .int (xcI (cmF (mf z) (mb z) i) (cmB (mf z) (mb z) i) i r)), (5, .int (nI r))] := hl
    refine lv_iload hx hb dX5_closes_16 (lv_at hl 5 rfl) ?_
    refine lv_bipush (v := 7) hx hb dX5_closes_18 (by decide) ?_
    refine lv_icmp_ge (tgt := 46) hx hb dX5_closes_20 (by decide) (fun c_20 => ?_) (fun c_20 => ?_)
    · skip
      have c_20 : 7 ≤ r := (nI_leI (a := 7) (b := r) (by omega) (by omega)).mp c_20
      obtain rfl : r = 7 := by omega
      have G : gW D (wM am cy th (cS (va_up mf z (cmF (mf z) (mb z) i)) (va_up mb z (cmB (mf z) (mb z) i)) mv) sv X ln ap le fc f1 f2 (B) ha R) (va_A (wM am cy th (cS mf mb mv) sv X ln ap le fc f1 f2 (B) ha R) s.heap.size) s _ _ := G
      have hl : lv_has ls 6 [(0, .ref (am 0)), (1, .int (nI z)), (2, .int (nI (csN (mf z) (mb z) i))), (3, .int (nI i)), (4, .int (xcI (cmF (mf z) (mb z) i) (cmB (mf z) (mb z) i) i 7)), (5, .int (nI 7))] := hl
      rw [xc_cm (by omega) hsd] at hl
      have hcb := cbN_lt (mf z) (mb z) i
      refine lv_aload_n hx hb dX5_closes_46 rfl (lv_at hl 0 rfl) ?_
      refine lv_iload_n hx hb dX5_closes_47 rfl (lv_at hl 1 rfl) ?_
      refine lv_bipush (v := 56) hx hb dX5_closes_48 (by decide) ?_
      refine lv_iload_n hx hb dX5_closes_50 rfl (lv_at hl 3 rfl) ?_
      refine lv_iadd hx hb dX5_closes_51 ?_
      refine g_topi (x' := nI (56 + i)) (nI_add 56 i) ?_
      refine lv_iload hx hb dX5_closes_52 (lv_at hl 4 rfl) ?_
      refine g_callV (As := [.int (nI z), .int (nI (56 + i)), .int (nI (cbN (mf z) (mb z) i))]) (rest := []) (q0 := 0) C0 G (c_X5_lay l D cy (am := am) (mf := va_up mf z (cmF (mf z) (mb z) i)) (mb := va_up mb z (cmB (mf z) (mb z) i)) (mv := mv) (th := th) (sv := sv) (X := X) (ln := ln) (ap := ap) (le := le) (fc := fc) (f1 := f1) (f2 := f2) (ha := ha) (R := R) (B := B) (z := z) (k := 56 + i) (q := cbN (mf z) (mb z) i) (by omega) (by omega) (by omega)) k_X5_lay ml_X5_31 rfl rfl dX5_closes_54 rfl rfl hl.1 (Nat.le_of_ble_eq_true rfl) ⟨Nat.le_of_ble_eq_true rfl, Nat.le_of_ble_eq_true rfl⟩ ⟨Nat.le_of_ble_eq_true rfl, Nat.le_of_ble_eq_true rfl⟩ (fun r W2 H locs hp G => ?_)
      obtain ⟨rfl, hw⟩ := hp
      have G := g_wc hw G
      refine W.eq (g2 := F0 m 57 ls []) rfl ?_
      refine lv_iload_n hx hb dX5_closes_57 rfl (lv_at hl 2 rfl) ?_
      refine lv_iload hx hb dX5_closes_58 (lv_at hl 4 rfl) ?_
      refine lv_iadd hx hb dX5_closes_60 ?_
      refine g_topi (x' := nI ((csN (mf z) (mb z) i) + (cbN (mf z) (mb z) i))) (nI_add (csN (mf z) (mb z) i) (cbN (mf z) (mb z) i)) ?_
      refine lv_istore_n (lv' := [(2, .int (nI ((csN (mf z) (mb z) i) + (cbN (mf z) (mb z) i)))), (0, .ref (am 0)), (1, .int (nI z)), (3, .int (nI i)), (4, .int (nI (cbN (mf z) (mb z) i))), (5, .int (nI 7))]) hx hb dX5_closes_61 rfl hl (by decide) rfl (fun ls hl => ?_)
      refine lv_iinc (v := nI (i + 1)) (lv' := [(3, .int (nI (i + 1))), (2, .int (nI ((csN (mf z) (mb z) i) + (cbN (mf z) (mb z) i)))), (0, .ref (am 0)), (1, .int (nI z)), (4, .int (nI (cbN (mf z) (mb z) i))), (5, .int (nI 7))]) hx hb dX5_closes_62 hl (k := 3) rfl (nI_add i 1) (by decide) rfl (fun ls hl => ?_)
      refine lv_goto (tgt := 4) hx hb dX5_closes_65 (by decide) ?_
      have hl := lv_sub hl (l' := _) [2, 3, 1, 0] rfl
      exact ih_4 (i + 1) (by show _ ≤ _; omega) (by show _ < _; omega) _ _ _ (g_wc (by simp only [va_up_e, bx_uu, cmF, cmB]) G) hl
    · skip
      have c_20 : ¬ (7 ≤ r) := fun h => c_20 ((nI_leI (a := 7) (b := r) (by omega) (by omega)).mpr h)
      refine lv_iload hx hb dX5_closes_23 (lv_at hl 4 rfl) ?_
      refine lv_aload_n hx hb dX5_closes_25 rfl (lv_at hl 0 rfl) ?_
      refine lv_iload_n hx hb dX5_closes_26 rfl (lv_at hl 1 rfl) ?_
      refine lv_bipush (v := 8) hx hb dX5_closes_27 (by decide) ?_
      refine lv_iload hx hb dX5_closes_29 (lv_at hl 5 rfl) ?_
      refine lv_imul hx hb dX5_closes_31 ?_
      refine g_topi (x' := nI (8 * r)) (pk_mul 8 r) ?_
      refine lv_iload_n hx hb dX5_closes_32 rfl (lv_at hl 3 rfl) ?_
      refine lv_iadd hx hb dX5_closes_33 ?_
      refine g_topi (x' := nI ((8 * r) + i)) (nI_add (8 * r) i) ?_
      refine g_callV (As := [.int (nI z), .int (nI ((8 * r) + i))]) (rest := [.int (xcI (cmF (mf z) (mb z) i) (cmB (mf z) (mb z) i) i r)]) (q0 := 0) C0 G (c_X5_of l D cy (am := am) (mf := va_up mf z (cmF (mf z) (mb z) i)) (mb := va_up mb z (cmB (mf z) (mb z) i)) (mv := mv) (th := th) (sv := sv) (X := X) (ln := ln) (ap := ap) (le := le) (fc := fc) (f1 := f1) (f2 := f2) (ha := ha) (R := R) (B := B) (z := z) (k := (8 * r) + i) (by omega) (by omega)) k_X5_of ml_X5_35 rfl rfl dX5_closes_34 rfl rfl hl.1 (Nat.le_of_ble_eq_true rfl) ⟨Nat.le_of_ble_eq_true rfl, Nat.le_of_ble_eq_true rfl⟩ ⟨Nat.le_of_ble_eq_true rfl, Nat.le_of_ble_eq_true rfl⟩ (fun r W2 H locs hp G => ?_)
      obtain ⟨rfl, hw⟩ := hp
      have G := g_wc hw G
      refine W.eq (g2 := F0 m 37 ls [.int (kdI ((va_up mf z (cmF (mf z) (mb z) i)) z) ((va_up mb z (cmB (mf z) (mb z) i)) z) ((8 * r) + i)), .int (xcI (cmF (mf z) (mb z) i) (cmB (mf z) (mb z) i) i r)]) rfl ?_
      refine lv_ixor hx hb dX5_closes_37 ?_
      refine g_topi (x' := xcI (cmF (mf z) (mb z) i) (cmB (mf z) (mb z) i) i (r + 1)) (by rw [va_up_e, va_up_e]; rfl) ?_
      refine lv_istore (lv' := [(4, .int (xcI (cmF (mf z) (mb z) i) (cmB (mf z) (mb z) i) i (r + 1))), (0, .ref (am 0)), (1, .int (nI z)), (2, .int (nI (csN (mf z) (mb z) i))), (3, .int (nI i)), (5, .int (nI r))]) hx hb dX5_closes_38 hl (by decide) rfl (fun ls hl => ?_)
      refine lv_iinc (v := nI (r + 1)) (lv' := [(5, .int (nI (r + 1))), (4, .int (xcI (cmF (mf z) (mb z) i) (cmB (mf z) (mb z) i) i (r + 1))), (0, .ref (am 0)), (1, .int (nI z)), (2, .int (nI (csN (mf z) (mb z) i))), (3, .int (nI i))]) hx hb dX5_closes_40 hl (k := 5) rfl (nI_add r 1) (by decide) rfl (fun ls hl => ?_)
      refine lv_goto (tgt := 16) hx hb dX5_closes_43 (by decide) ?_
      have hl := lv_sub hl (l' := _) [2, 3, 4, 5, 1, 0] rfl
      exact ih_16 (r + 1) (by show _ ≤ _; omega) (by show _ < _; omega) _ _ _ G hl

set_option maxHeartbeats 4000000 in
set_option maxRecDepth 100000 in
theorem c_X5_punch_ok (l : Launch) (D : va_G) (cy : Nat → ClassId) (am : Nat → Nat) (mf : Nat → Int64) (mb : Nat → Int64) (mv : Nat → Nat) (th : Int32) (sv : Nat) (X : Nat → Int32) (ln : Nat) (ap : Nat) (le : Nat) (fc : Nat) (f1 : Int32) (f2 : Int32) (ha : Int64) (R : va_W) (B : Nat → Int32) (k : Nat) (row : Nat) (u : Nat) (h1 : k < 3) (h2 : row < 7) (h3 : u < 128) (hc : cpB (mf k) (mb k) row = true) (hs : sv ≤ 6) : GE l D (gts cy) yX5_punch cX5_punch 5 (some .int) 2 0 0 [.ref (am 0), .int (nI k), .int (nI row), .int (nI u)] (wM am cy th (cS mf mb mv) sv X ln ap le fc f1 f2 (B) ha R) (gF (some (.int (nI (pc7 u % 2)))) (wM am cy (nI 0) (cS (va_up (mSv mf sv) k (pnF ((mSv mf sv) k) row u)) (va_up (mSv mb sv) k (pnB ((mSv mb sv) k) row u)) (mSv mv sv)) (saK sv) X ln ap le fc f1 f2 (B) ha R)) := by
  refine g_intro (by decide +kernel) (lv := [(0, .ref (am 0)), (1, .int (nI k)), (2, .int (nI row)), (3, .int (nI u))]) rfl (Nat.le_of_ble_eq_true rfl) ?_
  intro p e s m below meth c C0 G ls hl
  have hx := C0.1
  have hb := C0.2.1
  have hown := C0.2.2.2.2.2.1
  have hts := C0.2.2.2.2.2.2.1
  refine lv_iload_n hx hb dX5_punch_0 rfl (lv_at hl 1 rfl) ?_
  refine g_callS (As := [.int (nI k)]) (rest := []) C0 G (c_X5_isCard l D cy (W1 := wM am cy th (cS mf mb mv) sv X ln ap le fc f1 f2 (B) ha R) (u := nI k) ) k_X5_isCard ml_X5_89 dX5_punch_1 rfl rfl hl.1 (Nat.le_of_ble_eq_true rfl) ⟨Nat.le_of_ble_eq_true rfl, Nat.le_of_ble_eq_true rfl⟩ ⟨Nat.le_of_ble_eq_true rfl, Nat.le_of_ble_eq_true rfl⟩ (fun r W2 H locs hp G => ?_)
  obtain ⟨rfl, hw⟩ := hp
  have G := g_wc hw G
  refine W.eq (g2 := F0 m 4 ls [.int (bI (inB (nI k) 0 2))]) rfl ?_
  refine lv_if_eq (tgt := 21) hx hb dX5_punch_4 (by decide) (fun c_4 => ?_) (fun c_4 => ?_)
  · skip
    have c_4 : (inB (nI k) 0 2) = false := bI_f c_4
    exact absurd ((inB_y (n := 2) (by omega) rfl (by decide)) : (inB (nI k) 0 2) = true) (by rw [c_4]; decide)
  · skip
    have c_4 : (inB (nI k) 0 2) = true := bI_t c_4
    refine lv_iload_n hx hb dX5_punch_7 rfl (lv_at hl 2 rfl) ?_
    refine lv_iconst (v := 0) hx hb dX5_punch_8 (by decide) ?_
    refine lv_bipush (v := 6) hx hb dX5_punch_9 (by decide) ?_
    refine g_callS (As := [.int (nI row), .int 0, .int 6]) (rest := []) C0 G (c_X5_in l D cy (W1 := wM am cy th (cS mf mb mv) sv X ln ap le fc f1 f2 (B) ha R) (u := nI row) (lo := (0 : Int32)) (hi := (6 : Int32)) ) k_X5_in ml_X5_27 dX5_punch_11 rfl rfl hl.1 (Nat.le_of_ble_eq_true rfl) ⟨Nat.le_of_ble_eq_true rfl, Nat.le_of_ble_eq_true rfl⟩ ⟨Nat.le_of_ble_eq_true rfl, Nat.le_of_ble_eq_true rfl⟩ (fun r W2 H locs hp G => ?_)
    obtain ⟨rfl, hw⟩ := hp
    have G := g_wc hw G
    refine W.eq (g2 := F0 m 14 ls [.int (bI (inB (nI row) (0 : Int32) (6 : Int32)))]) rfl ?_
    refine lv_if_eq (tgt := 21) hx hb dX5_punch_14 (by decide) (fun c_14 => ?_) (fun c_14 => ?_)
    · skip
      have c_14 : (inB (nI row) (0 : Int32) (6 : Int32)) = false := bI_f c_14
      exact absurd ((inB_y (n := 6) (by omega) rfl (by decide)) : (inB (nI row) (0 : Int32) (6 : Int32)) = true) (by rw [c_14]; decide)
    · skip
      have c_14 : (inB (nI row) (0 : Int32) (6 : Int32)) = true := bI_t c_14
      refine lv_iconst (v := 1) hx hb dX5_punch_17 (by decide) ?_
      refine lv_goto (tgt := 22) hx hb dX5_punch_18 (by decide) ?_
      refine lv_istore (lv' := [(4, .int 1), (0, .ref (am 0)), (1, .int (nI k)), (2, .int (nI row)), (3, .int (nI u))]) hx hb dX5_punch_22 hl (by decide) rfl (fun ls hl => ?_)
      refine lv_aload_n hx hb dX5_punch_24 rfl (lv_at hl 1 rfl) ?_
      refine lv_iload hx hb dX5_punch_25 (lv_at hl 0 rfl) ?_
      refine lv_if_ne (tgt := 34) hx hb dX5_punch_27 (by decide) (fun c_27 => ?_) (fun c_27 => ?_)
      · skip
        refine lv_iload_n hx hb dX5_punch_34 rfl (lv_at hl 4 rfl) ?_
        refine lv_iconst (v := 0) hx hb dX5_punch_35 (by decide) ?_
        refine lv_bipush (v := 127) hx hb dX5_punch_36 (by decide) ?_
        refine g_callS (As := [.int (nI u), .int 0, .int 127]) (rest := [.ref (am 0)]) C0 G (c_X5_in l D cy (W1 := wM am cy th (cS mf mb mv) sv X ln ap le fc f1 f2 (B) ha R) (u := nI u) (lo := (0 : Int32)) (hi := (127 : Int32)) ) k_X5_in ml_X5_27 dX5_punch_38 rfl rfl hl.1 (Nat.le_of_ble_eq_true rfl) ⟨Nat.le_of_ble_eq_true rfl, Nat.le_of_ble_eq_true rfl⟩ ⟨Nat.le_of_ble_eq_true rfl, Nat.le_of_ble_eq_true rfl⟩ (fun r W2 H locs hp G => ?_)
        obtain ⟨rfl, hw⟩ := hp
        have G := g_wc hw G
        refine W.eq (g2 := F0 m 41 ls [.int (bI (inB (nI u) (0 : Int32) (127 : Int32))), .ref (am 0)]) rfl ?_
        refine lv_if_ne (tgt := 48) hx hb dX5_punch_41 (by decide) (fun c_41 => ?_) (fun c_41 => ?_)
        · skip
          have c_41 : (inB (nI u) (0 : Int32) (127 : Int32)) = true := bI_t c_41
          refine lv_aload_n hx hb dX5_punch_48 rfl (lv_at hl 1 rfl) ?_
          refine lv_iload_n hx hb dX5_punch_49 rfl (lv_at hl 2 rfl) ?_
          refine lv_iload_n hx hb dX5_punch_50 rfl (lv_at hl 3 rfl) ?_
          refine g_callV (As := [.int (nI k), .int (nI row)]) (rest := [.ref (am 0)]) (q0 := 0) C0 G (c_X5_isBlank l D cy (am := am) (mf := mf) (mb := mb) (mv := mv) (th := th) (sv := sv) (X := X) (ln := ln) (ap := ap) (le := le) (fc := fc) (f1 := f1) (f2 := f2) (ha := ha) (R := R) (B := B) (z := k) (row := row) (by omega) (by omega)) k_X5_isBlank ml_X5_79 rfl rfl dX5_punch_51 rfl rfl hl.1 (Nat.le_of_ble_eq_true rfl) ⟨Nat.le_of_ble_eq_true rfl, Nat.le_of_ble_eq_true rfl⟩ ⟨Nat.le_of_ble_eq_true rfl, Nat.le_of_ble_eq_true rfl⟩ (fun r W2 H locs hp G => ?_)
          obtain ⟨rfl, hw⟩ := hp
          have G := g_wc hw G
          refine W.eq (g2 := F0 m 54 ls [.int (bI (cpB (mf k) (mb k) row)), .ref (am 0)]) rfl ?_
          refine lv_if_ne (tgt := 61) hx hb dX5_punch_54 (by decide) (fun c_54 => ?_) (fun c_54 => ?_)
          · skip
            have c_54 : (cpB (mf k) (mb k) row) = true := bI_t c_54
            refine lv_iconst (v := 0) hx hb dX5_punch_61 (by decide) ?_
            refine g_callV (As := [.int 0]) (rest := []) (q0 := 0) C0 G (c_X5_holds l D cy (am := am) (mf := mf) (mb := mb) (mv := mv) (th := th) (sv := sv) (X := X) (ln := ln) (ap := ap) (le := le) (fc := fc) (f1 := f1) (f2 := f2) (ha := ha) (R := R) (B := B) (pl := 0) (by omega)) k_X5_holds ml_X5_92 rfl rfl dX5_punch_62 rfl rfl hl.1 (Nat.le_of_ble_eq_true rfl) ⟨Nat.le_of_ble_eq_true rfl, Nat.le_of_ble_eq_true rfl⟩ ⟨Nat.le_of_ble_eq_true rfl, Nat.le_of_ble_eq_true rfl⟩ (fun r W2 H locs hp G => ?_)
            obtain ⟨rfl, hw⟩ := hp
            have G := g_wc hw G
            refine W.eq (g2 := F0 m 65 ls [.int (bI (decide (0 = 0)))]) rfl ?_
            refine lv_if_ne (tgt := 70) hx hb dX5_punch_65 (by decide) (fun c_65 => ?_) (fun c_65 => ?_)
            · skip
              have c_65 : (decide (0 = 0)) = true := bI_t c_65
              refine lv_aload_n hx hb dX5_punch_70 rfl (lv_at hl 1 rfl) ?_
              refine g_callV (As := []) (rest := []) (q0 := 0) C0 G (c_X5_save l D cy (am := am) (mf := mf) (mb := mb) (mv := mv) (th := nI 0) (sv := sv) (X := X) (ln := ln) (ap := ap) (le := le) (fc := fc) (f1 := f1) (f2 := f2) (ha := ha) (R := R) (B := B)  (by omega)) k_X5_save ml_X5_95 rfl rfl dX5_punch_71 rfl rfl hl.1 (Nat.le_of_ble_eq_true rfl) ⟨Nat.le_of_ble_eq_true rfl, Nat.le_of_ble_eq_true rfl⟩ ⟨Nat.le_of_ble_eq_true rfl, Nat.le_of_ble_eq_true rfl⟩ (fun r W2 H locs hp G => ?_)
              obtain ⟨rfl, hw⟩ := hp
              have G := g_wc hw G
              refine W.eq (g2 := F0 m 74 ls []) rfl ?_
              refine lv_aload_n hx hb dX5_punch_74 rfl (lv_at hl 1 rfl) ?_
              refine lv_iload_n hx hb dX5_punch_75 rfl (lv_at hl 2 rfl) ?_
              refine lv_iload_n hx hb dX5_punch_76 rfl (lv_at hl 3 rfl) ?_
              refine lv_iload_n hx hb dX5_punch_77 rfl (lv_at hl 4 rfl) ?_
              refine g_callV (As := [.int (nI k), .int (nI row), .int (nI u)]) (rest := []) (q0 := 0) C0 G (c_X5_punches l D cy (am := am) (mf := mSv mf sv) (mb := mSv mb sv) (mv := mSv mv sv) (th := nI 0) (sv := saK sv) (X := X) (ln := ln) (ap := ap) (le := le) (fc := fc) (f1 := f1) (f2 := f2) (ha := ha) (R := R) (B := B) (z := k) (row := row) (u := u) (by omega) (by omega) (by omega)) k_X5_punches ml_X5_98 rfl rfl dX5_punch_78 rfl rfl hl.1 (Nat.le_of_ble_eq_true rfl) ⟨Nat.le_of_ble_eq_true rfl, Nat.le_of_ble_eq_true rfl⟩ ⟨Nat.le_of_ble_eq_true rfl, Nat.le_of_ble_eq_true rfl⟩ (fun r W2 H locs hp G => ?_)
              obtain ⟨rfl, hw⟩ := hp
              have G := g_wc hw G
              refine W.eq (g2 := F0 m 81 ls [.int (nI (pc7 u % 2))]) rfl ?_
              exact g_iret C0 G ⟨by first | rfl | (exfalso; omega) | (simp only [c_4, c_14, c_41, c_54, c_65, Bool.false_eq_true, ↓reduceIte, eq_self, decide_true, decide_false, not_true_eq_false, not_false_eq_true, Bool.true_and, Bool.false_and, Bool.and_true, Bool.and_false]; done) | (simp [c_4, c_14, c_41, c_54, c_65]; done) | (simp [c_4, c_14, c_41, c_54, c_65]; rfl) | (simp [c_4, c_14, c_41, c_54, c_65]; omega), by first | rfl | (exfalso; omega) | (simp only [c_4, c_14, c_41, c_54, c_65, Bool.false_eq_true, ↓reduceIte, eq_self, decide_true, decide_false, not_true_eq_false, not_false_eq_true, Bool.true_and, Bool.false_and, Bool.and_true, Bool.and_false]; done) | (simp [c_4, c_14, c_41, c_54, c_65]; done) | (simp [c_4, c_14, c_41, c_54, c_65]; rfl) | (simp [c_4, c_14, c_41, c_54, c_65]; omega)⟩ dX5_punch_81
            · skip
              have c_65 : (decide (0 = 0)) = false := bI_f c_65
              exact absurd ((by decide) : (decide (0 = 0)) = true) (by rw [c_65]; decide)
          · skip
            have c_54 : (cpB (mf k) (mb k) row) = false := bI_f c_54
            exact absurd (hc : (cpB (mf k) (mb k) row) = true) (by rw [c_54]; decide)
        · skip
          have c_41 : (inB (nI u) (0 : Int32) (127 : Int32)) = false := bI_f c_41
          exact absurd ((inB_y (n := 127) (by omega) rfl (by decide)) : (inB (nI u) (0 : Int32) (127 : Int32)) = true) (by rw [c_41]; decide)
      · exact absurd c_27 (by decide)

set_option maxHeartbeats 4000000 in
set_option maxRecDepth 100000 in
theorem c_X5_punch_e1 (l : Launch) (D : va_G) (cy : Nat → ClassId) (am : Nat → Nat) (mf : Nat → Int64) (mb : Nat → Int64) (mv : Nat → Nat) (th : Int32) (sv : Nat) (X : Nat → Int32) (ln : Nat) (ap : Nat) (le : Nat) (fc : Nat) (f1 : Int32) (f2 : Int32) (ha : Int64) (R : va_W) (B : Nat → Int32) (p0 : Int32) (p1 : Int32) (p2 : Int32) (he : (inB p0 0 2 && inB p1 (0 : Int32) (6 : Int32)) = false) : GE l D (gts cy) yX5_punch cX5_punch 5 (some .int) 2 0 0 [.ref (am 0), .int p0, .int p1, .int p2] (wM am cy th (cS mf mb mv) sv X ln ap le fc f1 f2 (B) ha R) (gF (some (.int 0)) (wM am cy (nI 1) (cS mf mb mv) sv X ln ap le fc f1 f2 (B) ha R)) := by
  refine g_intro (by decide +kernel) (lv := [(0, .ref (am 0)), (1, .int p0), (2, .int p1), (3, .int p2)]) rfl (Nat.le_of_ble_eq_true rfl) ?_
  intro p e s m below meth c C0 G ls hl
  have hx := C0.1
  have hb := C0.2.1
  have hown := C0.2.2.2.2.2.1
  have hts := C0.2.2.2.2.2.2.1
  refine lv_iload_n hx hb dX5_punch_0 rfl (lv_at hl 1 rfl) ?_
  refine g_callS (As := [.int p0]) (rest := []) C0 G (c_X5_isCard l D cy (W1 := wM am cy th (cS mf mb mv) sv X ln ap le fc f1 f2 (B) ha R) (u := p0) ) k_X5_isCard ml_X5_89 dX5_punch_1 rfl rfl hl.1 (Nat.le_of_ble_eq_true rfl) ⟨Nat.le_of_ble_eq_true rfl, Nat.le_of_ble_eq_true rfl⟩ ⟨Nat.le_of_ble_eq_true rfl, Nat.le_of_ble_eq_true rfl⟩ (fun r W2 H locs hp G => ?_)
  obtain ⟨rfl, hw⟩ := hp
  have G := g_wc hw G
  refine W.eq (g2 := F0 m 4 ls [.int (bI (inB p0 0 2))]) rfl ?_
  refine lv_if_eq (tgt := 21) hx hb dX5_punch_4 (by decide) (fun c_4 => ?_) (fun c_4 => ?_)
  · skip
    have c_4 : (inB p0 0 2) = false := bI_f c_4
    refine lv_iconst (v := 0) hx hb dX5_punch_21 (by decide) ?_
    refine lv_istore (lv' := [(4, .int 0), (0, .ref (am 0)), (1, .int p0), (2, .int p1), (3, .int p2)]) hx hb dX5_punch_22 hl (by decide) rfl (fun ls hl => ?_)
    refine lv_aload_n hx hb dX5_punch_24 rfl (lv_at hl 1 rfl) ?_
    refine lv_iload hx hb dX5_punch_25 (lv_at hl 0 rfl) ?_
    refine lv_if_ne (tgt := 34) hx hb dX5_punch_27 (by decide) (fun c_27 => ?_) (fun c_27 => ?_)
    · exact absurd c_27 (by decide)
    · skip
      refine lv_iconst (v := 1) hx hb dX5_punch_30 (by decide) ?_
      refine lv_goto (tgt := 62) hx hb dX5_punch_31 (by decide) ?_
      refine g_callV (As := [.int 1]) (rest := []) (q0 := 0) C0 G (c_X5_holds l D cy (am := am) (mf := mf) (mb := mb) (mv := mv) (th := th) (sv := sv) (X := X) (ln := ln) (ap := ap) (le := le) (fc := fc) (f1 := f1) (f2 := f2) (ha := ha) (R := R) (B := B) (pl := 1) (by omega)) k_X5_holds ml_X5_92 rfl rfl dX5_punch_62 rfl rfl hl.1 (Nat.le_of_ble_eq_true rfl) ⟨Nat.le_of_ble_eq_true rfl, Nat.le_of_ble_eq_true rfl⟩ ⟨Nat.le_of_ble_eq_true rfl, Nat.le_of_ble_eq_true rfl⟩ (fun r W2 H locs hp G => ?_)
      obtain ⟨rfl, hw⟩ := hp
      have G := g_wc hw G
      refine W.eq (g2 := F0 m 65 ls [.int (bI (decide (1 = 0)))]) rfl ?_
      refine lv_if_ne (tgt := 70) hx hb dX5_punch_65 (by decide) (fun c_65 => ?_) (fun c_65 => ?_)
      · skip
        have c_65 : (decide (1 = 0)) = true := bI_t c_65
        exact absurd ((by decide) : (decide (1 = 0)) = false) (by rw [c_65]; decide)
      · skip
        have c_65 : (decide (1 = 0)) = false := bI_f c_65
        refine lv_iconst (v := 0) hx hb dX5_punch_68 (by decide) ?_
        exact g_iret C0 G ⟨by first | rfl | (exfalso; omega) | (simp only [c_4, c_65, Bool.false_eq_true, ↓reduceIte, eq_self, decide_true, decide_false, not_true_eq_false, not_false_eq_true, Bool.true_and, Bool.false_and, Bool.and_true, Bool.and_false]; done) | (simp [c_4, c_65]; done) | (simp [c_4, c_65]; rfl) | (simp [c_4, c_65]; omega), by first | rfl | (exfalso; omega) | (simp only [c_4, c_65, Bool.false_eq_true, ↓reduceIte, eq_self, decide_true, decide_false, not_true_eq_false, not_false_eq_true, Bool.true_and, Bool.false_and, Bool.and_true, Bool.and_false]; done) | (simp [c_4, c_65]; done) | (simp [c_4, c_65]; rfl) | (simp [c_4, c_65]; omega)⟩ dX5_punch_69
  · skip
    have c_4 : (inB p0 0 2) = true := bI_t c_4
    refine lv_iload_n hx hb dX5_punch_7 rfl (lv_at hl 2 rfl) ?_
    refine lv_iconst (v := 0) hx hb dX5_punch_8 (by decide) ?_
    refine lv_bipush (v := 6) hx hb dX5_punch_9 (by decide) ?_
    refine g_callS (As := [.int p1, .int 0, .int 6]) (rest := []) C0 G (c_X5_in l D cy (W1 := wM am cy th (cS mf mb mv) sv X ln ap le fc f1 f2 (B) ha R) (u := p1) (lo := (0 : Int32)) (hi := (6 : Int32)) ) k_X5_in ml_X5_27 dX5_punch_11 rfl rfl hl.1 (Nat.le_of_ble_eq_true rfl) ⟨Nat.le_of_ble_eq_true rfl, Nat.le_of_ble_eq_true rfl⟩ ⟨Nat.le_of_ble_eq_true rfl, Nat.le_of_ble_eq_true rfl⟩ (fun r W2 H locs hp G => ?_)
    obtain ⟨rfl, hw⟩ := hp
    have G := g_wc hw G
    refine W.eq (g2 := F0 m 14 ls [.int (bI (inB p1 (0 : Int32) (6 : Int32)))]) rfl ?_
    refine lv_if_eq (tgt := 21) hx hb dX5_punch_14 (by decide) (fun c_14 => ?_) (fun c_14 => ?_)
    · skip
      have c_14 : (inB p1 (0 : Int32) (6 : Int32)) = false := bI_f c_14
      refine lv_iconst (v := 0) hx hb dX5_punch_21 (by decide) ?_
      refine lv_istore (lv' := [(4, .int 0), (0, .ref (am 0)), (1, .int p0), (2, .int p1), (3, .int p2)]) hx hb dX5_punch_22 hl (by decide) rfl (fun ls hl => ?_)
      refine lv_aload_n hx hb dX5_punch_24 rfl (lv_at hl 1 rfl) ?_
      refine lv_iload hx hb dX5_punch_25 (lv_at hl 0 rfl) ?_
      refine lv_if_ne (tgt := 34) hx hb dX5_punch_27 (by decide) (fun c_27 => ?_) (fun c_27 => ?_)
      · exact absurd c_27 (by decide)
      · skip
        refine lv_iconst (v := 1) hx hb dX5_punch_30 (by decide) ?_
        refine lv_goto (tgt := 62) hx hb dX5_punch_31 (by decide) ?_
        refine g_callV (As := [.int 1]) (rest := []) (q0 := 0) C0 G (c_X5_holds l D cy (am := am) (mf := mf) (mb := mb) (mv := mv) (th := th) (sv := sv) (X := X) (ln := ln) (ap := ap) (le := le) (fc := fc) (f1 := f1) (f2 := f2) (ha := ha) (R := R) (B := B) (pl := 1) (by omega)) k_X5_holds ml_X5_92 rfl rfl dX5_punch_62 rfl rfl hl.1 (Nat.le_of_ble_eq_true rfl) ⟨Nat.le_of_ble_eq_true rfl, Nat.le_of_ble_eq_true rfl⟩ ⟨Nat.le_of_ble_eq_true rfl, Nat.le_of_ble_eq_true rfl⟩ (fun r W2 H locs hp G => ?_)
        obtain ⟨rfl, hw⟩ := hp
        have G := g_wc hw G
        refine W.eq (g2 := F0 m 65 ls [.int (bI (decide (1 = 0)))]) rfl ?_
        refine lv_if_ne (tgt := 70) hx hb dX5_punch_65 (by decide) (fun c_65 => ?_) (fun c_65 => ?_)
        · skip
          have c_65 : (decide (1 = 0)) = true := bI_t c_65
          exact absurd ((by decide) : (decide (1 = 0)) = false) (by rw [c_65]; decide)
        · skip
          have c_65 : (decide (1 = 0)) = false := bI_f c_65
          refine lv_iconst (v := 0) hx hb dX5_punch_68 (by decide) ?_
          exact g_iret C0 G ⟨by first | rfl | (exfalso; omega) | (simp only [c_4, c_14, c_65, Bool.false_eq_true, ↓reduceIte, eq_self, decide_true, decide_false, not_true_eq_false, not_false_eq_true, Bool.true_and, Bool.false_and, Bool.and_true, Bool.and_false]; done) | (simp [c_4, c_14, c_65]; done) | (simp [c_4, c_14, c_65]; rfl) | (simp [c_4, c_14, c_65]; omega), by first | rfl | (exfalso; omega) | (simp only [c_4, c_14, c_65, Bool.false_eq_true, ↓reduceIte, eq_self, decide_true, decide_false, not_true_eq_false, not_false_eq_true, Bool.true_and, Bool.false_and, Bool.and_true, Bool.and_false]; done) | (simp [c_4, c_14, c_65]; done) | (simp [c_4, c_14, c_65]; rfl) | (simp [c_4, c_14, c_65]; omega)⟩ dX5_punch_69
    · skip
      have c_14 : (inB p1 (0 : Int32) (6 : Int32)) = true := bI_t c_14
      rw [c_4, c_14] at he; exact absurd he (by decide)

set_option maxHeartbeats 4000000 in
set_option maxRecDepth 100000 in
theorem c_X5_punch_e2 (l : Launch) (D : va_G) (cy : Nat → ClassId) (am : Nat → Nat) (mf : Nat → Int64) (mb : Nat → Int64) (mv : Nat → Nat) (th : Int32) (sv : Nat) (X : Nat → Int32) (ln : Nat) (ap : Nat) (le : Nat) (fc : Nat) (f1 : Int32) (f2 : Int32) (ha : Int64) (R : va_W) (B : Nat → Int32) (k : Nat) (row : Nat) (p2 : Int32) (h1 : k < 3) (h2 : row < 7) (he : inB p2 (0 : Int32) (127 : Int32) = false) : GE l D (gts cy) yX5_punch cX5_punch 5 (some .int) 2 0 0 [.ref (am 0), .int (nI k), .int (nI row), .int p2] (wM am cy th (cS mf mb mv) sv X ln ap le fc f1 f2 (B) ha R) (gF (some (.int 0)) (wM am cy (nI 2) (cS mf mb mv) sv X ln ap le fc f1 f2 (B) ha R)) := by
  refine g_intro (by decide +kernel) (lv := [(0, .ref (am 0)), (1, .int (nI k)), (2, .int (nI row)), (3, .int p2)]) rfl (Nat.le_of_ble_eq_true rfl) ?_
  intro p e s m below meth c C0 G ls hl
  have hx := C0.1
  have hb := C0.2.1
  have hown := C0.2.2.2.2.2.1
  have hts := C0.2.2.2.2.2.2.1
  refine lv_iload_n hx hb dX5_punch_0 rfl (lv_at hl 1 rfl) ?_
  refine g_callS (As := [.int (nI k)]) (rest := []) C0 G (c_X5_isCard l D cy (W1 := wM am cy th (cS mf mb mv) sv X ln ap le fc f1 f2 (B) ha R) (u := nI k) ) k_X5_isCard ml_X5_89 dX5_punch_1 rfl rfl hl.1 (Nat.le_of_ble_eq_true rfl) ⟨Nat.le_of_ble_eq_true rfl, Nat.le_of_ble_eq_true rfl⟩ ⟨Nat.le_of_ble_eq_true rfl, Nat.le_of_ble_eq_true rfl⟩ (fun r W2 H locs hp G => ?_)
  obtain ⟨rfl, hw⟩ := hp
  have G := g_wc hw G
  refine W.eq (g2 := F0 m 4 ls [.int (bI (inB (nI k) 0 2))]) rfl ?_
  refine lv_if_eq (tgt := 21) hx hb dX5_punch_4 (by decide) (fun c_4 => ?_) (fun c_4 => ?_)
  · skip
    have c_4 : (inB (nI k) 0 2) = false := bI_f c_4
    exact absurd ((inB_y (n := 2) (by omega) rfl (by decide)) : (inB (nI k) 0 2) = true) (by rw [c_4]; decide)
  · skip
    have c_4 : (inB (nI k) 0 2) = true := bI_t c_4
    refine lv_iload_n hx hb dX5_punch_7 rfl (lv_at hl 2 rfl) ?_
    refine lv_iconst (v := 0) hx hb dX5_punch_8 (by decide) ?_
    refine lv_bipush (v := 6) hx hb dX5_punch_9 (by decide) ?_
    refine g_callS (As := [.int (nI row), .int 0, .int 6]) (rest := []) C0 G (c_X5_in l D cy (W1 := wM am cy th (cS mf mb mv) sv X ln ap le fc f1 f2 (B) ha R) (u := nI row) (lo := (0 : Int32)) (hi := (6 : Int32)) ) k_X5_in ml_X5_27 dX5_punch_11 rfl rfl hl.1 (Nat.le_of_ble_eq_true rfl) ⟨Nat.le_of_ble_eq_true rfl, Nat.le_of_ble_eq_true rfl⟩ ⟨Nat.le_of_ble_eq_true rfl, Nat.le_of_ble_eq_true rfl⟩ (fun r W2 H locs hp G => ?_)
    obtain ⟨rfl, hw⟩ := hp
    have G := g_wc hw G
    refine W.eq (g2 := F0 m 14 ls [.int (bI (inB (nI row) (0 : Int32) (6 : Int32)))]) rfl ?_
    refine lv_if_eq (tgt := 21) hx hb dX5_punch_14 (by decide) (fun c_14 => ?_) (fun c_14 => ?_)
    · skip
      have c_14 : (inB (nI row) (0 : Int32) (6 : Int32)) = false := bI_f c_14
      exact absurd ((inB_y (n := 6) (by omega) rfl (by decide)) : (inB (nI row) (0 : Int32) (6 : Int32)) = true) (by rw [c_14]; decide)
    · skip
      have c_14 : (inB (nI row) (0 : Int32) (6 : Int32)) = true := bI_t c_14
      refine lv_iconst (v := 1) hx hb dX5_punch_17 (by decide) ?_
      refine lv_goto (tgt := 22) hx hb dX5_punch_18 (by decide) ?_
      refine lv_istore (lv' := [(4, .int 1), (0, .ref (am 0)), (1, .int (nI k)), (2, .int (nI row)), (3, .int p2)]) hx hb dX5_punch_22 hl (by decide) rfl (fun ls hl => ?_)
      refine lv_aload_n hx hb dX5_punch_24 rfl (lv_at hl 1 rfl) ?_
      refine lv_iload hx hb dX5_punch_25 (lv_at hl 0 rfl) ?_
      refine lv_if_ne (tgt := 34) hx hb dX5_punch_27 (by decide) (fun c_27 => ?_) (fun c_27 => ?_)
      · skip
        refine lv_iload_n hx hb dX5_punch_34 rfl (lv_at hl 4 rfl) ?_
        refine lv_iconst (v := 0) hx hb dX5_punch_35 (by decide) ?_
        refine lv_bipush (v := 127) hx hb dX5_punch_36 (by decide) ?_
        refine g_callS (As := [.int p2, .int 0, .int 127]) (rest := [.ref (am 0)]) C0 G (c_X5_in l D cy (W1 := wM am cy th (cS mf mb mv) sv X ln ap le fc f1 f2 (B) ha R) (u := p2) (lo := (0 : Int32)) (hi := (127 : Int32)) ) k_X5_in ml_X5_27 dX5_punch_38 rfl rfl hl.1 (Nat.le_of_ble_eq_true rfl) ⟨Nat.le_of_ble_eq_true rfl, Nat.le_of_ble_eq_true rfl⟩ ⟨Nat.le_of_ble_eq_true rfl, Nat.le_of_ble_eq_true rfl⟩ (fun r W2 H locs hp G => ?_)
        obtain ⟨rfl, hw⟩ := hp
        have G := g_wc hw G
        refine W.eq (g2 := F0 m 41 ls [.int (bI (inB p2 (0 : Int32) (127 : Int32))), .ref (am 0)]) rfl ?_
        refine lv_if_ne (tgt := 48) hx hb dX5_punch_41 (by decide) (fun c_41 => ?_) (fun c_41 => ?_)
        · skip
          have c_41 : (inB p2 (0 : Int32) (127 : Int32)) = true := bI_t c_41
          exact absurd (he : (inB p2 (0 : Int32) (127 : Int32)) = false) (by rw [c_41]; decide)
        · skip
          have c_41 : (inB p2 (0 : Int32) (127 : Int32)) = false := bI_f c_41
          refine lv_iconst (v := 2) hx hb dX5_punch_44 (by decide) ?_
          refine lv_goto (tgt := 62) hx hb dX5_punch_45 (by decide) ?_
          refine g_callV (As := [.int 2]) (rest := []) (q0 := 0) C0 G (c_X5_holds l D cy (am := am) (mf := mf) (mb := mb) (mv := mv) (th := th) (sv := sv) (X := X) (ln := ln) (ap := ap) (le := le) (fc := fc) (f1 := f1) (f2 := f2) (ha := ha) (R := R) (B := B) (pl := 2) (by omega)) k_X5_holds ml_X5_92 rfl rfl dX5_punch_62 rfl rfl hl.1 (Nat.le_of_ble_eq_true rfl) ⟨Nat.le_of_ble_eq_true rfl, Nat.le_of_ble_eq_true rfl⟩ ⟨Nat.le_of_ble_eq_true rfl, Nat.le_of_ble_eq_true rfl⟩ (fun r W2 H locs hp G => ?_)
          obtain ⟨rfl, hw⟩ := hp
          have G := g_wc hw G
          refine W.eq (g2 := F0 m 65 ls [.int (bI (decide (2 = 0)))]) rfl ?_
          refine lv_if_ne (tgt := 70) hx hb dX5_punch_65 (by decide) (fun c_65 => ?_) (fun c_65 => ?_)
          · skip
            have c_65 : (decide (2 = 0)) = true := bI_t c_65
            exact absurd ((by decide) : (decide (2 = 0)) = false) (by rw [c_65]; decide)
          · skip
            have c_65 : (decide (2 = 0)) = false := bI_f c_65
            refine lv_iconst (v := 0) hx hb dX5_punch_68 (by decide) ?_
            exact g_iret C0 G ⟨by first | rfl | (exfalso; omega) | (simp only [c_4, c_14, c_41, c_65, Bool.false_eq_true, ↓reduceIte, eq_self, decide_true, decide_false, not_true_eq_false, not_false_eq_true, Bool.true_and, Bool.false_and, Bool.and_true, Bool.and_false]; done) | (simp [c_4, c_14, c_41, c_65]; done) | (simp [c_4, c_14, c_41, c_65]; rfl) | (simp [c_4, c_14, c_41, c_65]; omega), by first | rfl | (exfalso; omega) | (simp only [c_4, c_14, c_41, c_65, Bool.false_eq_true, ↓reduceIte, eq_self, decide_true, decide_false, not_true_eq_false, not_false_eq_true, Bool.true_and, Bool.false_and, Bool.and_true, Bool.and_false]; done) | (simp [c_4, c_14, c_41, c_65]; done) | (simp [c_4, c_14, c_41, c_65]; rfl) | (simp [c_4, c_14, c_41, c_65]; omega)⟩ dX5_punch_69
      · exact absurd c_27 (by decide)

set_option maxHeartbeats 4000000 in
set_option maxRecDepth 100000 in
theorem c_X5_punch_e3 (l : Launch) (D : va_G) (cy : Nat → ClassId) (am : Nat → Nat) (mf : Nat → Int64) (mb : Nat → Int64) (mv : Nat → Nat) (th : Int32) (sv : Nat) (X : Nat → Int32) (ln : Nat) (ap : Nat) (le : Nat) (fc : Nat) (f1 : Int32) (f2 : Int32) (ha : Int64) (R : va_W) (B : Nat → Int32) (k : Nat) (row : Nat) (u : Nat) (h1 : k < 3) (h2 : row < 7) (h3 : u < 128) (hc : cpB (mf k) (mb k) row = false) : GE l D (gts cy) yX5_punch cX5_punch 5 (some .int) 2 0 0 [.ref (am 0), .int (nI k), .int (nI row), .int (nI u)] (wM am cy th (cS mf mb mv) sv X ln ap le fc f1 f2 (B) ha R) (gF (some (.int 0)) (wM am cy (nI 3) (cS mf mb mv) sv X ln ap le fc f1 f2 (B) ha R)) := by
  refine g_intro (by decide +kernel) (lv := [(0, .ref (am 0)), (1, .int (nI k)), (2, .int (nI row)), (3, .int (nI u))]) rfl (Nat.le_of_ble_eq_true rfl) ?_
  intro p e s m below meth c C0 G ls hl
  have hx := C0.1
  have hb := C0.2.1
  have hown := C0.2.2.2.2.2.1
  have hts := C0.2.2.2.2.2.2.1
  refine lv_iload_n hx hb dX5_punch_0 rfl (lv_at hl 1 rfl) ?_
  refine g_callS (As := [.int (nI k)]) (rest := []) C0 G (c_X5_isCard l D cy (W1 := wM am cy th (cS mf mb mv) sv X ln ap le fc f1 f2 (B) ha R) (u := nI k) ) k_X5_isCard ml_X5_89 dX5_punch_1 rfl rfl hl.1 (Nat.le_of_ble_eq_true rfl) ⟨Nat.le_of_ble_eq_true rfl, Nat.le_of_ble_eq_true rfl⟩ ⟨Nat.le_of_ble_eq_true rfl, Nat.le_of_ble_eq_true rfl⟩ (fun r W2 H locs hp G => ?_)
  obtain ⟨rfl, hw⟩ := hp
  have G := g_wc hw G
  refine W.eq (g2 := F0 m 4 ls [.int (bI (inB (nI k) 0 2))]) rfl ?_
  refine lv_if_eq (tgt := 21) hx hb dX5_punch_4 (by decide) (fun c_4 => ?_) (fun c_4 => ?_)
  · skip
    have c_4 : (inB (nI k) 0 2) = false := bI_f c_4
    exact absurd ((inB_y (n := 2) (by omega) rfl (by decide)) : (inB (nI k) 0 2) = true) (by rw [c_4]; decide)
  · skip
    have c_4 : (inB (nI k) 0 2) = true := bI_t c_4
    refine lv_iload_n hx hb dX5_punch_7 rfl (lv_at hl 2 rfl) ?_
    refine lv_iconst (v := 0) hx hb dX5_punch_8 (by decide) ?_
    refine lv_bipush (v := 6) hx hb dX5_punch_9 (by decide) ?_
    refine g_callS (As := [.int (nI row), .int 0, .int 6]) (rest := []) C0 G (c_X5_in l D cy (W1 := wM am cy th (cS mf mb mv) sv X ln ap le fc f1 f2 (B) ha R) (u := nI row) (lo := (0 : Int32)) (hi := (6 : Int32)) ) k_X5_in ml_X5_27 dX5_punch_11 rfl rfl hl.1 (Nat.le_of_ble_eq_true rfl) ⟨Nat.le_of_ble_eq_true rfl, Nat.le_of_ble_eq_true rfl⟩ ⟨Nat.le_of_ble_eq_true rfl, Nat.le_of_ble_eq_true rfl⟩ (fun r W2 H locs hp G => ?_)
    obtain ⟨rfl, hw⟩ := hp
    have G := g_wc hw G
    refine W.eq (g2 := F0 m 14 ls [.int (bI (inB (nI row) (0 : Int32) (6 : Int32)))]) rfl ?_
    refine lv_if_eq (tgt := 21) hx hb dX5_punch_14 (by decide) (fun c_14 => ?_) (fun c_14 => ?_)
    · skip
      have c_14 : (inB (nI row) (0 : Int32) (6 : Int32)) = false := bI_f c_14
      exact absurd ((inB_y (n := 6) (by omega) rfl (by decide)) : (inB (nI row) (0 : Int32) (6 : Int32)) = true) (by rw [c_14]; decide)
    · skip
      have c_14 : (inB (nI row) (0 : Int32) (6 : Int32)) = true := bI_t c_14
      refine lv_iconst (v := 1) hx hb dX5_punch_17 (by decide) ?_
      refine lv_goto (tgt := 22) hx hb dX5_punch_18 (by decide) ?_
      refine lv_istore (lv' := [(4, .int 1), (0, .ref (am 0)), (1, .int (nI k)), (2, .int (nI row)), (3, .int (nI u))]) hx hb dX5_punch_22 hl (by decide) rfl (fun ls hl => ?_)
      refine lv_aload_n hx hb dX5_punch_24 rfl (lv_at hl 1 rfl) ?_
      refine lv_iload hx hb dX5_punch_25 (lv_at hl 0 rfl) ?_
      refine lv_if_ne (tgt := 34) hx hb dX5_punch_27 (by decide) (fun c_27 => ?_) (fun c_27 => ?_)
      · skip
        refine lv_iload_n hx hb dX5_punch_34 rfl (lv_at hl 4 rfl) ?_
        refine lv_iconst (v := 0) hx hb dX5_punch_35 (by decide) ?_
        refine lv_bipush (v := 127) hx hb dX5_punch_36 (by decide) ?_
        refine g_callS (As := [.int (nI u), .int 0, .int 127]) (rest := [.ref (am 0)]) C0 G (c_X5_in l D cy (W1 := wM am cy th (cS mf mb mv) sv X ln ap le fc f1 f2 (B) ha R) (u := nI u) (lo := (0 : Int32)) (hi := (127 : Int32)) ) k_X5_in ml_X5_27 dX5_punch_38 rfl rfl hl.1 (Nat.le_of_ble_eq_true rfl) ⟨Nat.le_of_ble_eq_true rfl, Nat.le_of_ble_eq_true rfl⟩ ⟨Nat.le_of_ble_eq_true rfl, Nat.le_of_ble_eq_true rfl⟩ (fun r W2 H locs hp G => ?_)
        obtain ⟨rfl, hw⟩ := hp
        have G := g_wc hw G
        refine W.eq (g2 := F0 m 41 ls [.int (bI (inB (nI u) (0 : Int32) (127 : Int32))), .ref (am 0)]) rfl ?_
        refine lv_if_ne (tgt := 48) hx hb dX5_punch_41 (by decide) (fun c_41 => ?_) (fun c_41 => ?_)
        · skip
          have c_41 : (inB (nI u) (0 : Int32) (127 : Int32)) = true := bI_t c_41
          refine lv_aload_n hx hb dX5_punch_48 rfl (lv_at hl 1 rfl) ?_
          refine lv_iload_n hx hb dX5_punch_49 rfl (lv_at hl 2 rfl) ?_
          refine lv_iload_n hx hb dX5_punch_50 rfl (lv_at hl 3 rfl) ?_
          refine g_callV (As := [.int (nI k), .int (nI row)]) (rest := [.ref (am 0)]) (q0 := 0) C0 G (c_X5_isBlank l D cy (am := am) (mf := mf) (mb := mb) (mv := mv) (th := th) (sv := sv) (X := X) (ln := ln) (ap := ap) (le := le) (fc := fc) (f1 := f1) (f2 := f2) (ha := ha) (R := R) (B := B) (z := k) (row := row) (by omega) (by omega)) k_X5_isBlank ml_X5_79 rfl rfl dX5_punch_51 rfl rfl hl.1 (Nat.le_of_ble_eq_true rfl) ⟨Nat.le_of_ble_eq_true rfl, Nat.le_of_ble_eq_true rfl⟩ ⟨Nat.le_of_ble_eq_true rfl, Nat.le_of_ble_eq_true rfl⟩ (fun r W2 H locs hp G => ?_)
          obtain ⟨rfl, hw⟩ := hp
          have G := g_wc hw G
          refine W.eq (g2 := F0 m 54 ls [.int (bI (cpB (mf k) (mb k) row)), .ref (am 0)]) rfl ?_
          refine lv_if_ne (tgt := 61) hx hb dX5_punch_54 (by decide) (fun c_54 => ?_) (fun c_54 => ?_)
          · skip
            have c_54 : (cpB (mf k) (mb k) row) = true := bI_t c_54
            exact absurd (hc : (cpB (mf k) (mb k) row) = false) (by rw [c_54]; decide)
          · skip
            have c_54 : (cpB (mf k) (mb k) row) = false := bI_f c_54
            refine lv_iconst (v := 3) hx hb dX5_punch_57 (by decide) ?_
            refine lv_goto (tgt := 62) hx hb dX5_punch_58 (by decide) ?_
            refine g_callV (As := [.int 3]) (rest := []) (q0 := 0) C0 G (c_X5_holds l D cy (am := am) (mf := mf) (mb := mb) (mv := mv) (th := th) (sv := sv) (X := X) (ln := ln) (ap := ap) (le := le) (fc := fc) (f1 := f1) (f2 := f2) (ha := ha) (R := R) (B := B) (pl := 3) (by omega)) k_X5_holds ml_X5_92 rfl rfl dX5_punch_62 rfl rfl hl.1 (Nat.le_of_ble_eq_true rfl) ⟨Nat.le_of_ble_eq_true rfl, Nat.le_of_ble_eq_true rfl⟩ ⟨Nat.le_of_ble_eq_true rfl, Nat.le_of_ble_eq_true rfl⟩ (fun r W2 H locs hp G => ?_)
            obtain ⟨rfl, hw⟩ := hp
            have G := g_wc hw G
            refine W.eq (g2 := F0 m 65 ls [.int (bI (decide (3 = 0)))]) rfl ?_
            refine lv_if_ne (tgt := 70) hx hb dX5_punch_65 (by decide) (fun c_65 => ?_) (fun c_65 => ?_)
            · skip
              have c_65 : (decide (3 = 0)) = true := bI_t c_65
              exact absurd ((by decide) : (decide (3 = 0)) = false) (by rw [c_65]; decide)
            · skip
              have c_65 : (decide (3 = 0)) = false := bI_f c_65
              refine lv_iconst (v := 0) hx hb dX5_punch_68 (by decide) ?_
              exact g_iret C0 G ⟨by first | rfl | (exfalso; omega) | (simp only [c_4, c_14, c_41, c_54, c_65, Bool.false_eq_true, ↓reduceIte, eq_self, decide_true, decide_false, not_true_eq_false, not_false_eq_true, Bool.true_and, Bool.false_and, Bool.and_true, Bool.and_false]; done) | (simp [c_4, c_14, c_41, c_54, c_65]; done) | (simp [c_4, c_14, c_41, c_54, c_65]; rfl) | (simp [c_4, c_14, c_41, c_54, c_65]; omega), by first | rfl | (exfalso; omega) | (simp only [c_4, c_14, c_41, c_54, c_65, Bool.false_eq_true, ↓reduceIte, eq_self, decide_true, decide_false, not_true_eq_false, not_false_eq_true, Bool.true_and, Bool.false_and, Bool.and_true, Bool.and_false]; done) | (simp [c_4, c_14, c_41, c_54, c_65]; done) | (simp [c_4, c_14, c_41, c_54, c_65]; rfl) | (simp [c_4, c_14, c_41, c_54, c_65]; omega)⟩ dX5_punch_69
        · skip
          have c_41 : (inB (nI u) (0 : Int32) (127 : Int32)) = false := bI_f c_41
          exact absurd ((inB_y (n := 127) (by omega) rfl (by decide)) : (inB (nI u) (0 : Int32) (127 : Int32)) = true) (by rw [c_41]; decide)
      · exact absurd c_27 (by decide)

set_option maxHeartbeats 4000000 in
set_option maxRecDepth 100000 in
theorem c_X5_close_ok (l : Launch) (D : va_G) (cy : Nat → ClassId) (am : Nat → Nat) (mf : Nat → Int64) (mb : Nat → Int64) (mv : Nat → Nat) (th : Int32) (sv : Nat) (X : Nat → Int32) (ln : Nat) (ap : Nat) (le : Nat) (fc : Nat) (f1 : Int32) (f2 : Int32) (ha : Int64) (R : va_W) (B : Nat → Int32) (k : Nat) (h1 : k < 3) (hc : ccB (mf k) (mb k) = true) (hs : sv ≤ 6) : GE l D (gts cy) yX5_close cX5_close 3 (some .int) 3 0 0 [.ref (am 0), .int (nI k)] (wM am cy th (cS mf mb mv) sv X ln ap le fc f1 f2 (B) ha R) (gF (some (.int (nI (csN ((mSv mf sv) k) ((mSv mb sv) k) 8)))) (wM am cy (nI 0) (cS (va_up (mSv mf sv) k (cmF ((mSv mf sv) k) ((mSv mb sv) k) 8)) (va_up (mSv mb sv) k (cmB ((mSv mf sv) k) ((mSv mb sv) k) 8)) (mSv mv sv)) (saK sv) X ln ap le fc f1 f2 (B) ha R)) := by
  refine g_intro (by decide +kernel) (lv := [(0, .ref (am 0)), (1, .int (nI k))]) rfl (Nat.le_of_ble_eq_true rfl) ?_
  intro p e s m below meth c C0 G ls hl
  have hx := C0.1
  have hb := C0.2.1
  have hown := C0.2.2.2.2.2.1
  have hts := C0.2.2.2.2.2.2.1
  refine lv_iload_n hx hb dX5_close_0 rfl (lv_at hl 1 rfl) ?_
  refine g_callS (As := [.int (nI k)]) (rest := []) C0 G (c_X5_isCard l D cy (W1 := wM am cy th (cS mf mb mv) sv X ln ap le fc f1 f2 (B) ha R) (u := nI k) ) k_X5_isCard ml_X5_89 dX5_close_1 rfl rfl hl.1 (Nat.le_of_ble_eq_true rfl) ⟨Nat.le_of_ble_eq_true rfl, Nat.le_of_ble_eq_true rfl⟩ ⟨Nat.le_of_ble_eq_true rfl, Nat.le_of_ble_eq_true rfl⟩ (fun r W2 H locs hp G => ?_)
  obtain ⟨rfl, hw⟩ := hp
  have G := g_wc hw G
  refine W.eq (g2 := F0 m 4 ls [.int (bI (inB (nI k) 0 2))]) rfl ?_
  refine lv_istore_n (lv' := [(2, .int (bI (inB (nI k) 0 2))), (0, .ref (am 0)), (1, .int (nI k))]) hx hb dX5_close_4 rfl hl (by decide) rfl (fun ls hl => ?_)
  refine lv_aload_n hx hb dX5_close_5 rfl (lv_at hl 1 rfl) ?_
  refine lv_iload_n hx hb dX5_close_6 rfl (lv_at hl 0 rfl) ?_
  refine lv_if_ne (tgt := 14) hx hb dX5_close_7 (by decide) (fun c_7 => ?_) (fun c_7 => ?_)
  · skip
    have c_7 : (inB (nI k) 0 2) = true := bI_t c_7
    refine lv_aload_n hx hb dX5_close_14 rfl (lv_at hl 1 rfl) ?_
    refine lv_iload_n hx hb dX5_close_15 rfl (lv_at hl 2 rfl) ?_
    refine g_callV (As := [.int (nI k)]) (rest := [.ref (am 0)]) (q0 := 0) C0 G (c_X5_canClose l D cy (am := am) (mf := mf) (mb := mb) (mv := mv) (th := th) (sv := sv) (X := X) (ln := ln) (ap := ap) (le := le) (fc := fc) (f1 := f1) (f2 := f2) (ha := ha) (R := R) (B := B) (z := k) (by omega)) k_X5_canClose ml_X5_101 rfl rfl dX5_close_16 rfl rfl hl.1 (Nat.le_of_ble_eq_true rfl) ⟨Nat.le_of_ble_eq_true rfl, Nat.le_of_ble_eq_true rfl⟩ ⟨Nat.le_of_ble_eq_true rfl, Nat.le_of_ble_eq_true rfl⟩ (fun r W2 H locs hp G => ?_)
    obtain ⟨rfl, hw⟩ := hp
    have G := g_wc hw G
    refine W.eq (g2 := F0 m 19 ls [.int (bI (ccB (mf k) (mb k))), .ref (am 0)]) rfl ?_
    refine lv_if_ne (tgt := 26) hx hb dX5_close_19 (by decide) (fun c_19 => ?_) (fun c_19 => ?_)
    · skip
      have c_19 : (ccB (mf k) (mb k)) = true := bI_t c_19
      refine lv_iconst (v := 0) hx hb dX5_close_26 (by decide) ?_
      refine g_callV (As := [.int 0]) (rest := []) (q0 := 0) C0 G (c_X5_holds l D cy (am := am) (mf := mf) (mb := mb) (mv := mv) (th := th) (sv := sv) (X := X) (ln := ln) (ap := ap) (le := le) (fc := fc) (f1 := f1) (f2 := f2) (ha := ha) (R := R) (B := B) (pl := 0) (by omega)) k_X5_holds ml_X5_92 rfl rfl dX5_close_27 rfl rfl hl.1 (Nat.le_of_ble_eq_true rfl) ⟨Nat.le_of_ble_eq_true rfl, Nat.le_of_ble_eq_true rfl⟩ ⟨Nat.le_of_ble_eq_true rfl, Nat.le_of_ble_eq_true rfl⟩ (fun r W2 H locs hp G => ?_)
      obtain ⟨rfl, hw⟩ := hp
      have G := g_wc hw G
      refine W.eq (g2 := F0 m 30 ls [.int (bI (decide (0 = 0)))]) rfl ?_
      refine lv_if_ne (tgt := 35) hx hb dX5_close_30 (by decide) (fun c_30 => ?_) (fun c_30 => ?_)
      · skip
        have c_30 : (decide (0 = 0)) = true := bI_t c_30
        refine lv_aload_n hx hb dX5_close_35 rfl (lv_at hl 1 rfl) ?_
        refine g_callV (As := []) (rest := []) (q0 := 0) C0 G (c_X5_save l D cy (am := am) (mf := mf) (mb := mb) (mv := mv) (th := nI 0) (sv := sv) (X := X) (ln := ln) (ap := ap) (le := le) (fc := fc) (f1 := f1) (f2 := f2) (ha := ha) (R := R) (B := B)  (by omega)) k_X5_save ml_X5_95 rfl rfl dX5_close_36 rfl rfl hl.1 (Nat.le_of_ble_eq_true rfl) ⟨Nat.le_of_ble_eq_true rfl, Nat.le_of_ble_eq_true rfl⟩ ⟨Nat.le_of_ble_eq_true rfl, Nat.le_of_ble_eq_true rfl⟩ (fun r W2 H locs hp G => ?_)
        obtain ⟨rfl, hw⟩ := hp
        have G := g_wc hw G
        refine W.eq (g2 := F0 m 39 ls []) rfl ?_
        have hsd2 : ∀ j, j < 56 → tb (sdW (mSv mf sv k) (mSv mb sv k)) j = true := by rw [mSv_lo h1, mSv_lo h1]; exact cc_sd hc
        refine lv_aload_n hx hb dX5_close_39 rfl (lv_at hl 1 rfl) ?_
        refine lv_iload_n hx hb dX5_close_40 rfl (lv_at hl 2 rfl) ?_
        refine g_callV (As := [.int (nI k)]) (rest := []) (q0 := 0) C0 G (c_X5_closes l D cy (am := am) (mf := mSv mf sv) (mb := mSv mb sv) (mv := mSv mv sv) (th := nI 0) (sv := saK sv) (X := X) (ln := ln) (ap := ap) (le := le) (fc := fc) (f1 := f1) (f2 := f2) (ha := ha) (R := R) (B := B) (z := k) (by omega) hsd2) k_X5_closes ml_X5_104 rfl rfl dX5_close_41 rfl rfl hl.1 (Nat.le_of_ble_eq_true rfl) ⟨Nat.le_of_ble_eq_true rfl, Nat.le_of_ble_eq_true rfl⟩ ⟨Nat.le_of_ble_eq_true rfl, Nat.le_of_ble_eq_true rfl⟩ (fun r W2 H locs hp G => ?_)
        obtain ⟨rfl, hw⟩ := hp
        have G := g_wc hw G
        refine W.eq (g2 := F0 m 44 ls [.int (nI (csN ((mSv mf sv) k) ((mSv mb sv) k) 8))]) rfl ?_
        exact g_iret C0 G ⟨by first | rfl | (exfalso; omega) | (simp only [c_7, c_19, c_30, Bool.false_eq_true, ↓reduceIte, eq_self, decide_true, decide_false, not_true_eq_false, not_false_eq_true, Bool.true_and, Bool.false_and, Bool.and_true, Bool.and_false]; done) | (simp [c_7, c_19, c_30]; done) | (simp [c_7, c_19, c_30]; rfl) | (simp [c_7, c_19, c_30]; omega), by first | rfl | (exfalso; omega) | (simp only [c_7, c_19, c_30, Bool.false_eq_true, ↓reduceIte, eq_self, decide_true, decide_false, not_true_eq_false, not_false_eq_true, Bool.true_and, Bool.false_and, Bool.and_true, Bool.and_false]; done) | (simp [c_7, c_19, c_30]; done) | (simp [c_7, c_19, c_30]; rfl) | (simp [c_7, c_19, c_30]; omega)⟩ dX5_close_44
      · skip
        have c_30 : (decide (0 = 0)) = false := bI_f c_30
        exact absurd ((by decide) : (decide (0 = 0)) = true) (by rw [c_30]; decide)
    · skip
      have c_19 : (ccB (mf k) (mb k)) = false := bI_f c_19
      exact absurd (hc : (ccB (mf k) (mb k)) = true) (by rw [c_19]; decide)
  · skip
    have c_7 : (inB (nI k) 0 2) = false := bI_f c_7
    exact absurd ((inB_y (n := 2) (by omega) rfl (by decide)) : (inB (nI k) 0 2) = true) (by rw [c_7]; decide)

set_option maxHeartbeats 4000000 in
set_option maxRecDepth 100000 in
theorem c_X5_close_e1 (l : Launch) (D : va_G) (cy : Nat → ClassId) (am : Nat → Nat) (mf : Nat → Int64) (mb : Nat → Int64) (mv : Nat → Nat) (th : Int32) (sv : Nat) (X : Nat → Int32) (ln : Nat) (ap : Nat) (le : Nat) (fc : Nat) (f1 : Int32) (f2 : Int32) (ha : Int64) (R : va_W) (B : Nat → Int32) (p0 : Int32) (he : inB p0 0 2 = false) : GE l D (gts cy) yX5_close cX5_close 3 (some .int) 3 0 0 [.ref (am 0), .int p0] (wM am cy th (cS mf mb mv) sv X ln ap le fc f1 f2 (B) ha R) (gF (some (.int 0)) (wM am cy (nI 1) (cS mf mb mv) sv X ln ap le fc f1 f2 (B) ha R)) := by
  refine g_intro (by decide +kernel) (lv := [(0, .ref (am 0)), (1, .int p0)]) rfl (Nat.le_of_ble_eq_true rfl) ?_
  intro p e s m below meth c C0 G ls hl
  have hx := C0.1
  have hb := C0.2.1
  have hown := C0.2.2.2.2.2.1
  have hts := C0.2.2.2.2.2.2.1
  refine lv_iload_n hx hb dX5_close_0 rfl (lv_at hl 1 rfl) ?_
  refine g_callS (As := [.int p0]) (rest := []) C0 G (c_X5_isCard l D cy (W1 := wM am cy th (cS mf mb mv) sv X ln ap le fc f1 f2 (B) ha R) (u := p0) ) k_X5_isCard ml_X5_89 dX5_close_1 rfl rfl hl.1 (Nat.le_of_ble_eq_true rfl) ⟨Nat.le_of_ble_eq_true rfl, Nat.le_of_ble_eq_true rfl⟩ ⟨Nat.le_of_ble_eq_true rfl, Nat.le_of_ble_eq_true rfl⟩ (fun r W2 H locs hp G => ?_)
  obtain ⟨rfl, hw⟩ := hp
  have G := g_wc hw G
  refine W.eq (g2 := F0 m 4 ls [.int (bI (inB p0 0 2))]) rfl ?_
  refine lv_istore_n (lv' := [(2, .int (bI (inB p0 0 2))), (0, .ref (am 0)), (1, .int p0)]) hx hb dX5_close_4 rfl hl (by decide) rfl (fun ls hl => ?_)
  refine lv_aload_n hx hb dX5_close_5 rfl (lv_at hl 1 rfl) ?_
  refine lv_iload_n hx hb dX5_close_6 rfl (lv_at hl 0 rfl) ?_
  refine lv_if_ne (tgt := 14) hx hb dX5_close_7 (by decide) (fun c_7 => ?_) (fun c_7 => ?_)
  · skip
    have c_7 : (inB p0 0 2) = true := bI_t c_7
    exact absurd (he : (inB p0 0 2) = false) (by rw [c_7]; decide)
  · skip
    have c_7 : (inB p0 0 2) = false := bI_f c_7
    refine lv_iconst (v := 1) hx hb dX5_close_10 (by decide) ?_
    refine lv_goto (tgt := 27) hx hb dX5_close_11 (by decide) ?_
    refine g_callV (As := [.int 1]) (rest := []) (q0 := 0) C0 G (c_X5_holds l D cy (am := am) (mf := mf) (mb := mb) (mv := mv) (th := th) (sv := sv) (X := X) (ln := ln) (ap := ap) (le := le) (fc := fc) (f1 := f1) (f2 := f2) (ha := ha) (R := R) (B := B) (pl := 1) (by omega)) k_X5_holds ml_X5_92 rfl rfl dX5_close_27 rfl rfl hl.1 (Nat.le_of_ble_eq_true rfl) ⟨Nat.le_of_ble_eq_true rfl, Nat.le_of_ble_eq_true rfl⟩ ⟨Nat.le_of_ble_eq_true rfl, Nat.le_of_ble_eq_true rfl⟩ (fun r W2 H locs hp G => ?_)
    obtain ⟨rfl, hw⟩ := hp
    have G := g_wc hw G
    refine W.eq (g2 := F0 m 30 ls [.int (bI (decide (1 = 0)))]) rfl ?_
    refine lv_if_ne (tgt := 35) hx hb dX5_close_30 (by decide) (fun c_30 => ?_) (fun c_30 => ?_)
    · skip
      have c_30 : (decide (1 = 0)) = true := bI_t c_30
      exact absurd ((by decide) : (decide (1 = 0)) = false) (by rw [c_30]; decide)
    · skip
      have c_30 : (decide (1 = 0)) = false := bI_f c_30
      refine lv_iconst (v := 0) hx hb dX5_close_33 (by decide) ?_
      exact g_iret C0 G ⟨by first | rfl | (exfalso; omega) | (simp only [c_7, c_30, Bool.false_eq_true, ↓reduceIte, eq_self, decide_true, decide_false, not_true_eq_false, not_false_eq_true, Bool.true_and, Bool.false_and, Bool.and_true, Bool.and_false]; done) | (simp [c_7, c_30]; done) | (simp [c_7, c_30]; rfl) | (simp [c_7, c_30]; omega), by first | rfl | (exfalso; omega) | (simp only [c_7, c_30, Bool.false_eq_true, ↓reduceIte, eq_self, decide_true, decide_false, not_true_eq_false, not_false_eq_true, Bool.true_and, Bool.false_and, Bool.and_true, Bool.and_false]; done) | (simp [c_7, c_30]; done) | (simp [c_7, c_30]; rfl) | (simp [c_7, c_30]; omega)⟩ dX5_close_34

set_option maxHeartbeats 4000000 in
set_option maxRecDepth 100000 in
theorem c_X5_close_e2 (l : Launch) (D : va_G) (cy : Nat → ClassId) (am : Nat → Nat) (mf : Nat → Int64) (mb : Nat → Int64) (mv : Nat → Nat) (th : Int32) (sv : Nat) (X : Nat → Int32) (ln : Nat) (ap : Nat) (le : Nat) (fc : Nat) (f1 : Int32) (f2 : Int32) (ha : Int64) (R : va_W) (B : Nat → Int32) (k : Nat) (h1 : k < 3) (hc : ccB (mf k) (mb k) = false) : GE l D (gts cy) yX5_close cX5_close 3 (some .int) 3 0 0 [.ref (am 0), .int (nI k)] (wM am cy th (cS mf mb mv) sv X ln ap le fc f1 f2 (B) ha R) (gF (some (.int 0)) (wM am cy (nI 2) (cS mf mb mv) sv X ln ap le fc f1 f2 (B) ha R)) := by
  refine g_intro (by decide +kernel) (lv := [(0, .ref (am 0)), (1, .int (nI k))]) rfl (Nat.le_of_ble_eq_true rfl) ?_
  intro p e s m below meth c C0 G ls hl
  have hx := C0.1
  have hb := C0.2.1
  have hown := C0.2.2.2.2.2.1
  have hts := C0.2.2.2.2.2.2.1
  refine lv_iload_n hx hb dX5_close_0 rfl (lv_at hl 1 rfl) ?_
  refine g_callS (As := [.int (nI k)]) (rest := []) C0 G (c_X5_isCard l D cy (W1 := wM am cy th (cS mf mb mv) sv X ln ap le fc f1 f2 (B) ha R) (u := nI k) ) k_X5_isCard ml_X5_89 dX5_close_1 rfl rfl hl.1 (Nat.le_of_ble_eq_true rfl) ⟨Nat.le_of_ble_eq_true rfl, Nat.le_of_ble_eq_true rfl⟩ ⟨Nat.le_of_ble_eq_true rfl, Nat.le_of_ble_eq_true rfl⟩ (fun r W2 H locs hp G => ?_)
  obtain ⟨rfl, hw⟩ := hp
  have G := g_wc hw G
  refine W.eq (g2 := F0 m 4 ls [.int (bI (inB (nI k) 0 2))]) rfl ?_
  refine lv_istore_n (lv' := [(2, .int (bI (inB (nI k) 0 2))), (0, .ref (am 0)), (1, .int (nI k))]) hx hb dX5_close_4 rfl hl (by decide) rfl (fun ls hl => ?_)
  refine lv_aload_n hx hb dX5_close_5 rfl (lv_at hl 1 rfl) ?_
  refine lv_iload_n hx hb dX5_close_6 rfl (lv_at hl 0 rfl) ?_
  refine lv_if_ne (tgt := 14) hx hb dX5_close_7 (by decide) (fun c_7 => ?_) (fun c_7 => ?_)
  · skip
    have c_7 : (inB (nI k) 0 2) = true := bI_t c_7
    refine lv_aload_n hx hb dX5_close_14 rfl (lv_at hl 1 rfl) ?_
    refine lv_iload_n hx hb dX5_close_15 rfl (lv_at hl 2 rfl) ?_
    refine g_callV (As := [.int (nI k)]) (rest := [.ref (am 0)]) (q0 := 0) C0 G (c_X5_canClose l D cy (am := am) (mf := mf) (mb := mb) (mv := mv) (th := th) (sv := sv) (X := X) (ln := ln) (ap := ap) (le := le) (fc := fc) (f1 := f1) (f2 := f2) (ha := ha) (R := R) (B := B) (z := k) (by omega)) k_X5_canClose ml_X5_101 rfl rfl dX5_close_16 rfl rfl hl.1 (Nat.le_of_ble_eq_true rfl) ⟨Nat.le_of_ble_eq_true rfl, Nat.le_of_ble_eq_true rfl⟩ ⟨Nat.le_of_ble_eq_true rfl, Nat.le_of_ble_eq_true rfl⟩ (fun r W2 H locs hp G => ?_)
    obtain ⟨rfl, hw⟩ := hp
    have G := g_wc hw G
    refine W.eq (g2 := F0 m 19 ls [.int (bI (ccB (mf k) (mb k))), .ref (am 0)]) rfl ?_
    refine lv_if_ne (tgt := 26) hx hb dX5_close_19 (by decide) (fun c_19 => ?_) (fun c_19 => ?_)
    · skip
      have c_19 : (ccB (mf k) (mb k)) = true := bI_t c_19
      exact absurd (hc : (ccB (mf k) (mb k)) = false) (by rw [c_19]; decide)
    · skip
      have c_19 : (ccB (mf k) (mb k)) = false := bI_f c_19
      refine lv_iconst (v := 2) hx hb dX5_close_22 (by decide) ?_
      refine lv_goto (tgt := 27) hx hb dX5_close_23 (by decide) ?_
      refine g_callV (As := [.int 2]) (rest := []) (q0 := 0) C0 G (c_X5_holds l D cy (am := am) (mf := mf) (mb := mb) (mv := mv) (th := th) (sv := sv) (X := X) (ln := ln) (ap := ap) (le := le) (fc := fc) (f1 := f1) (f2 := f2) (ha := ha) (R := R) (B := B) (pl := 2) (by omega)) k_X5_holds ml_X5_92 rfl rfl dX5_close_27 rfl rfl hl.1 (Nat.le_of_ble_eq_true rfl) ⟨Nat.le_of_ble_eq_true rfl, Nat.le_of_ble_eq_true rfl⟩ ⟨Nat.le_of_ble_eq_true rfl, Nat.le_of_ble_eq_true rfl⟩ (fun r W2 H locs hp G => ?_)
      obtain ⟨rfl, hw⟩ := hp
      have G := g_wc hw G
      refine W.eq (g2 := F0 m 30 ls [.int (bI (decide (2 = 0)))]) rfl ?_
      refine lv_if_ne (tgt := 35) hx hb dX5_close_30 (by decide) (fun c_30 => ?_) (fun c_30 => ?_)
      · skip
        have c_30 : (decide (2 = 0)) = true := bI_t c_30
        exact absurd ((by decide) : (decide (2 = 0)) = false) (by rw [c_30]; decide)
      · skip
        have c_30 : (decide (2 = 0)) = false := bI_f c_30
        refine lv_iconst (v := 0) hx hb dX5_close_33 (by decide) ?_
        exact g_iret C0 G ⟨by first | rfl | (exfalso; omega) | (simp only [c_7, c_19, c_30, Bool.false_eq_true, ↓reduceIte, eq_self, decide_true, decide_false, not_true_eq_false, not_false_eq_true, Bool.true_and, Bool.false_and, Bool.and_true, Bool.and_false]; done) | (simp [c_7, c_19, c_30]; done) | (simp [c_7, c_19, c_30]; rfl) | (simp [c_7, c_19, c_30]; omega), by first | rfl | (exfalso; omega) | (simp only [c_7, c_19, c_30, Bool.false_eq_true, ↓reduceIte, eq_self, decide_true, decide_false, not_true_eq_false, not_false_eq_true, Bool.true_and, Bool.false_and, Bool.and_true, Bool.and_false]; done) | (simp [c_7, c_19, c_30]; done) | (simp [c_7, c_19, c_30]; rfl) | (simp [c_7, c_19, c_30]; omega)⟩ dX5_close_34
  · skip
    have c_7 : (inB (nI k) 0 2) = false := bI_f c_7
    exact absurd ((inB_y (n := 2) (by omega) rfl (by decide)) : (inB (nI k) 0 2) = true) (by rw [c_7]; decide)

set_option maxHeartbeats 4000000 in
set_option maxRecDepth 100000 in
theorem c_X5_renew_ok (l : Launch) (D : va_G) (cy : Nat → ClassId) (am : Nat → Nat) (mf : Nat → Int64) (mb : Nat → Int64) (mv : Nat → Nat) (th : Int32) (sv : Nat) (X : Nat → Int32) (ln : Nat) (ap : Nat) (le : Nat) (fc : Nat) (f1 : Int32) (f2 : Int32) (ha : Int64) (R : va_W) (B : Nat → Int32) (k : Nat) (h1 : k < 3) (hs : sv ≤ 6) : GE l D (gts cy) yX5_renew cX5_renew 3 (some .int) 2 0 0 [.ref (am 0), .int (nI k)] (wM am cy th (cS mf mb mv) sv X ln ap le fc f1 f2 (B) ha R) (gF (some (.int (nI (((cuN ((mSv mf sv) k) ((mSv mb sv) k) (0 : Int32)) + (cuN ((mSv mf sv) k) ((mSv mb sv) k) (1 : Int32))) + (2 * (cuN ((mSv mf sv) k) ((mSv mb sv) k) (3 : Int32))))))) (wM am cy (nI 0) (cS (va_up (mSv mf sv) k 0) (va_up (mSv mb sv) k 0) (va_up (mSv mv sv) k 0)) (saK sv) X ln ap le fc f1 f2 (B) ha R)) := by
  refine g_intro (by decide +kernel) (lv := [(0, .ref (am 0)), (1, .int (nI k))]) rfl (Nat.le_of_ble_eq_true rfl) ?_
  intro p e s m below meth c C0 G ls hl
  have hx := C0.1
  have hb := C0.2.1
  have hown := C0.2.2.2.2.2.1
  have hts := C0.2.2.2.2.2.2.1
  refine lv_aload_n hx hb dX5_renew_0 rfl (lv_at hl 0 rfl) ?_
  refine lv_iload_n hx hb dX5_renew_1 rfl (lv_at hl 1 rfl) ?_
  refine g_callS (As := [.int (nI k)]) (rest := [.ref (am 0)]) C0 G (c_X5_isCard l D cy (W1 := wM am cy th (cS mf mb mv) sv X ln ap le fc f1 f2 (B) ha R) (u := nI k) ) k_X5_isCard ml_X5_89 dX5_renew_2 rfl rfl hl.1 (Nat.le_of_ble_eq_true rfl) ⟨Nat.le_of_ble_eq_true rfl, Nat.le_of_ble_eq_true rfl⟩ ⟨Nat.le_of_ble_eq_true rfl, Nat.le_of_ble_eq_true rfl⟩ (fun r W2 H locs hp G => ?_)
  obtain ⟨rfl, hw⟩ := hp
  have G := g_wc hw G
  refine W.eq (g2 := F0 m 5 ls [.int (bI (inB (nI k) 0 2)), .ref (am 0)]) rfl ?_
  refine lv_if_eq (tgt := 12) hx hb dX5_renew_5 (by decide) (fun c_5 => ?_) (fun c_5 => ?_)
  · skip
    have c_5 : (inB (nI k) 0 2) = false := bI_f c_5
    exact absurd ((inB_y (n := 2) (by omega) rfl (by decide)) : (inB (nI k) 0 2) = true) (by rw [c_5]; decide)
  · skip
    have c_5 : (inB (nI k) 0 2) = true := bI_t c_5
    refine lv_iconst (v := 0) hx hb dX5_renew_8 (by decide) ?_
    refine lv_goto (tgt := 13) hx hb dX5_renew_9 (by decide) ?_
    refine g_callV (As := [.int 0]) (rest := []) (q0 := 0) C0 G (c_X5_holds l D cy (am := am) (mf := mf) (mb := mb) (mv := mv) (th := th) (sv := sv) (X := X) (ln := ln) (ap := ap) (le := le) (fc := fc) (f1 := f1) (f2 := f2) (ha := ha) (R := R) (B := B) (pl := 0) (by omega)) k_X5_holds ml_X5_92 rfl rfl dX5_renew_13 rfl rfl hl.1 (Nat.le_of_ble_eq_true rfl) ⟨Nat.le_of_ble_eq_true rfl, Nat.le_of_ble_eq_true rfl⟩ ⟨Nat.le_of_ble_eq_true rfl, Nat.le_of_ble_eq_true rfl⟩ (fun r W2 H locs hp G => ?_)
    obtain ⟨rfl, hw⟩ := hp
    have G := g_wc hw G
    refine W.eq (g2 := F0 m 16 ls [.int (bI (decide (0 = 0)))]) rfl ?_
    refine lv_if_ne (tgt := 21) hx hb dX5_renew_16 (by decide) (fun c_16 => ?_) (fun c_16 => ?_)
    · skip
      have c_16 : (decide (0 = 0)) = true := bI_t c_16
      refine lv_aload_n hx hb dX5_renew_21 rfl (lv_at hl 0 rfl) ?_
      refine g_callV (As := []) (rest := []) (q0 := 0) C0 G (c_X5_save l D cy (am := am) (mf := mf) (mb := mb) (mv := mv) (th := nI 0) (sv := sv) (X := X) (ln := ln) (ap := ap) (le := le) (fc := fc) (f1 := f1) (f2 := f2) (ha := ha) (R := R) (B := B)  (by omega)) k_X5_save ml_X5_95 rfl rfl dX5_renew_22 rfl rfl hl.1 (Nat.le_of_ble_eq_true rfl) ⟨Nat.le_of_ble_eq_true rfl, Nat.le_of_ble_eq_true rfl⟩ ⟨Nat.le_of_ble_eq_true rfl, Nat.le_of_ble_eq_true rfl⟩ (fun r W2 H locs hp G => ?_)
      obtain ⟨rfl, hw⟩ := hp
      have G := g_wc hw G
      refine W.eq (g2 := F0 m 25 ls []) rfl ?_
      refine lv_aload_n hx hb dX5_renew_25 rfl (lv_at hl 0 rfl) ?_
      refine lv_iload_n hx hb dX5_renew_26 rfl (lv_at hl 1 rfl) ?_
      refine lv_iconst (v := 0) hx hb dX5_renew_27 (by decide) ?_
      refine g_callV (As := [.int (nI k), .int 0]) (rest := []) (q0 := 0) C0 G (c_X5_counted l D cy (am := am) (mf := mSv mf sv) (mb := mSv mb sv) (mv := mSv mv sv) (th := nI 0) (sv := saK sv) (X := X) (ln := ln) (ap := ap) (le := le) (fc := fc) (f1 := f1) (f2 := f2) (ha := ha) (R := R) (B := B) (z := k) (q := (0 : Int32)) (by omega)) k_X5_counted ml_X5_107 rfl rfl dX5_renew_28 rfl rfl hl.1 (Nat.le_of_ble_eq_true rfl) ⟨Nat.le_of_ble_eq_true rfl, Nat.le_of_ble_eq_true rfl⟩ ⟨Nat.le_of_ble_eq_true rfl, Nat.le_of_ble_eq_true rfl⟩ (fun r W2 H locs hp G => ?_)
      obtain ⟨rfl, hw⟩ := hp
      have G := g_wc hw G
      refine W.eq (g2 := F0 m 31 ls [.int (nI (cuN ((mSv mf sv) k) ((mSv mb sv) k) (0 : Int32)))]) rfl ?_
      refine lv_aload_n hx hb dX5_renew_31 rfl (lv_at hl 0 rfl) ?_
      refine lv_iload_n hx hb dX5_renew_32 rfl (lv_at hl 1 rfl) ?_
      refine lv_iconst (v := 1) hx hb dX5_renew_33 (by decide) ?_
      refine g_callV (As := [.int (nI k), .int 1]) (rest := [.int (nI (cuN ((mSv mf sv) k) ((mSv mb sv) k) (0 : Int32)))]) (q0 := 0) C0 G (c_X5_counted l D cy (am := am) (mf := mSv mf sv) (mb := mSv mb sv) (mv := mSv mv sv) (th := nI 0) (sv := saK sv) (X := X) (ln := ln) (ap := ap) (le := le) (fc := fc) (f1 := f1) (f2 := f2) (ha := ha) (R := R) (B := B) (z := k) (q := (1 : Int32)) (by omega)) k_X5_counted ml_X5_107 rfl rfl dX5_renew_34 rfl rfl hl.1 (Nat.le_of_ble_eq_true rfl) ⟨Nat.le_of_ble_eq_true rfl, Nat.le_of_ble_eq_true rfl⟩ ⟨Nat.le_of_ble_eq_true rfl, Nat.le_of_ble_eq_true rfl⟩ (fun r W2 H locs hp G => ?_)
      obtain ⟨rfl, hw⟩ := hp
      have G := g_wc hw G
      refine W.eq (g2 := F0 m 37 ls [.int (nI (cuN ((mSv mf sv) k) ((mSv mb sv) k) (1 : Int32))), .int (nI (cuN ((mSv mf sv) k) ((mSv mb sv) k) (0 : Int32)))]) rfl ?_
      refine lv_iadd hx hb dX5_renew_37 ?_
      refine g_topi (x' := nI ((cuN ((mSv mf sv) k) ((mSv mb sv) k) (0 : Int32)) + (cuN ((mSv mf sv) k) ((mSv mb sv) k) (1 : Int32)))) (nI_add (cuN ((mSv mf sv) k) ((mSv mb sv) k) (0 : Int32)) (cuN ((mSv mf sv) k) ((mSv mb sv) k) (1 : Int32))) ?_
      refine lv_iconst (v := 2) hx hb dX5_renew_38 (by decide) ?_
      refine lv_aload_n hx hb dX5_renew_39 rfl (lv_at hl 0 rfl) ?_
      refine lv_iload_n hx hb dX5_renew_40 rfl (lv_at hl 1 rfl) ?_
      refine lv_iconst (v := 3) hx hb dX5_renew_41 (by decide) ?_
      refine g_callV (As := [.int (nI k), .int 3]) (rest := [.int 2, .int (nI ((cuN ((mSv mf sv) k) ((mSv mb sv) k) (0 : Int32)) + (cuN ((mSv mf sv) k) ((mSv mb sv) k) (1 : Int32))))]) (q0 := 0) C0 G (c_X5_counted l D cy (am := am) (mf := mSv mf sv) (mb := mSv mb sv) (mv := mSv mv sv) (th := nI 0) (sv := saK sv) (X := X) (ln := ln) (ap := ap) (le := le) (fc := fc) (f1 := f1) (f2 := f2) (ha := ha) (R := R) (B := B) (z := k) (q := (3 : Int32)) (by omega)) k_X5_counted ml_X5_107 rfl rfl dX5_renew_42 rfl rfl hl.1 (Nat.le_of_ble_eq_true rfl) ⟨Nat.le_of_ble_eq_true rfl, Nat.le_of_ble_eq_true rfl⟩ ⟨Nat.le_of_ble_eq_true rfl, Nat.le_of_ble_eq_true rfl⟩ (fun r W2 H locs hp G => ?_)
      obtain ⟨rfl, hw⟩ := hp
      have G := g_wc hw G
      refine W.eq (g2 := F0 m 45 ls [.int (nI (cuN ((mSv mf sv) k) ((mSv mb sv) k) (3 : Int32))), .int 2, .int (nI ((cuN ((mSv mf sv) k) ((mSv mb sv) k) (0 : Int32)) + (cuN ((mSv mf sv) k) ((mSv mb sv) k) (1 : Int32))))]) rfl ?_
      refine lv_imul hx hb dX5_renew_45 ?_
      refine g_topi (x' := nI (2 * (cuN ((mSv mf sv) k) ((mSv mb sv) k) (3 : Int32)))) (pk_mul 2 (cuN ((mSv mf sv) k) ((mSv mb sv) k) (3 : Int32))) ?_
      refine lv_iadd hx hb dX5_renew_46 ?_
      refine g_topi (x' := nI (((cuN ((mSv mf sv) k) ((mSv mb sv) k) (0 : Int32)) + (cuN ((mSv mf sv) k) ((mSv mb sv) k) (1 : Int32))) + (2 * (cuN ((mSv mf sv) k) ((mSv mb sv) k) (3 : Int32))))) (nI_add ((cuN ((mSv mf sv) k) ((mSv mb sv) k) (0 : Int32)) + (cuN ((mSv mf sv) k) ((mSv mb sv) k) (1 : Int32))) (2 * (cuN ((mSv mf sv) k) ((mSv mb sv) k) (3 : Int32)))) ?_
      refine lv_istore_n (lv' := [(2, .int (nI (((cuN ((mSv mf sv) k) ((mSv mb sv) k) (0 : Int32)) + (cuN ((mSv mf sv) k) ((mSv mb sv) k) (1 : Int32))) + (2 * (cuN ((mSv mf sv) k) ((mSv mb sv) k) (3 : Int32)))))), (0, .ref (am 0)), (1, .int (nI k))]) hx hb dX5_renew_47 rfl hl (by decide) rfl (fun ls hl => ?_)
      refine lv_aload_n hx hb dX5_renew_48 rfl (lv_at hl 1 rfl) ?_
      refine lv_iload_n hx hb dX5_renew_49 rfl (lv_at hl 2 rfl) ?_
      refine g_callV (As := [.int (nI k)]) (rest := []) (q0 := 0) C0 G (c_X5_blanks l D cy (am := am) (mf := mSv mf sv) (mb := mSv mb sv) (mv := mSv mv sv) (th := nI 0) (sv := saK sv) (X := X) (ln := ln) (ap := ap) (le := le) (fc := fc) (f1 := f1) (f2 := f2) (ha := ha) (R := R) (B := B) (z := k) (by omega)) k_X5_blanks ml_X5_19 rfl rfl dX5_renew_50 rfl rfl hl.1 (Nat.le_of_ble_eq_true rfl) ⟨Nat.le_of_ble_eq_true rfl, Nat.le_of_ble_eq_true rfl⟩ ⟨Nat.le_of_ble_eq_true rfl, Nat.le_of_ble_eq_true rfl⟩ (fun r W2 H locs hp G => ?_)
      obtain ⟨rfl, hw⟩ := hp
      have G := g_wc hw G
      refine W.eq (g2 := F0 m 53 ls []) rfl ?_
      refine lv_iload_n hx hb dX5_renew_53 rfl (lv_at hl 0 rfl) ?_
      exact g_iret C0 G ⟨by first | rfl | (exfalso; omega) | (simp only [c_5, c_16, Bool.false_eq_true, ↓reduceIte, eq_self, decide_true, decide_false, not_true_eq_false, not_false_eq_true, Bool.true_and, Bool.false_and, Bool.and_true, Bool.and_false]; done) | (simp [c_5, c_16]; done) | (simp [c_5, c_16]; rfl) | (simp [c_5, c_16]; omega), by first | rfl | (exfalso; omega) | (simp only [c_5, c_16, Bool.false_eq_true, ↓reduceIte, eq_self, decide_true, decide_false, not_true_eq_false, not_false_eq_true, Bool.true_and, Bool.false_and, Bool.and_true, Bool.and_false]; done) | (simp [c_5, c_16]; done) | (simp [c_5, c_16]; rfl) | (simp [c_5, c_16]; omega)⟩ dX5_renew_54
    · skip
      have c_16 : (decide (0 = 0)) = false := bI_f c_16
      exact absurd ((by decide) : (decide (0 = 0)) = true) (by rw [c_16]; decide)

set_option maxHeartbeats 4000000 in
set_option maxRecDepth 100000 in
theorem c_X5_renew_e1 (l : Launch) (D : va_G) (cy : Nat → ClassId) (am : Nat → Nat) (mf : Nat → Int64) (mb : Nat → Int64) (mv : Nat → Nat) (th : Int32) (sv : Nat) (X : Nat → Int32) (ln : Nat) (ap : Nat) (le : Nat) (fc : Nat) (f1 : Int32) (f2 : Int32) (ha : Int64) (R : va_W) (B : Nat → Int32) (p0 : Int32) (he : inB p0 0 2 = false) : GE l D (gts cy) yX5_renew cX5_renew 3 (some .int) 2 0 0 [.ref (am 0), .int p0] (wM am cy th (cS mf mb mv) sv X ln ap le fc f1 f2 (B) ha R) (gF (some (.int 0)) (wM am cy (nI 1) (cS mf mb mv) sv X ln ap le fc f1 f2 (B) ha R)) := by
  refine g_intro (by decide +kernel) (lv := [(0, .ref (am 0)), (1, .int p0)]) rfl (Nat.le_of_ble_eq_true rfl) ?_
  intro p e s m below meth c C0 G ls hl
  have hx := C0.1
  have hb := C0.2.1
  have hown := C0.2.2.2.2.2.1
  have hts := C0.2.2.2.2.2.2.1
  refine lv_aload_n hx hb dX5_renew_0 rfl (lv_at hl 0 rfl) ?_
  refine lv_iload_n hx hb dX5_renew_1 rfl (lv_at hl 1 rfl) ?_
  refine g_callS (As := [.int p0]) (rest := [.ref (am 0)]) C0 G (c_X5_isCard l D cy (W1 := wM am cy th (cS mf mb mv) sv X ln ap le fc f1 f2 (B) ha R) (u := p0) ) k_X5_isCard ml_X5_89 dX5_renew_2 rfl rfl hl.1 (Nat.le_of_ble_eq_true rfl) ⟨Nat.le_of_ble_eq_true rfl, Nat.le_of_ble_eq_true rfl⟩ ⟨Nat.le_of_ble_eq_true rfl, Nat.le_of_ble_eq_true rfl⟩ (fun r W2 H locs hp G => ?_)
  obtain ⟨rfl, hw⟩ := hp
  have G := g_wc hw G
  refine W.eq (g2 := F0 m 5 ls [.int (bI (inB p0 0 2)), .ref (am 0)]) rfl ?_
  refine lv_if_eq (tgt := 12) hx hb dX5_renew_5 (by decide) (fun c_5 => ?_) (fun c_5 => ?_)
  · skip
    have c_5 : (inB p0 0 2) = false := bI_f c_5
    refine lv_iconst (v := 1) hx hb dX5_renew_12 (by decide) ?_
    refine g_callV (As := [.int 1]) (rest := []) (q0 := 0) C0 G (c_X5_holds l D cy (am := am) (mf := mf) (mb := mb) (mv := mv) (th := th) (sv := sv) (X := X) (ln := ln) (ap := ap) (le := le) (fc := fc) (f1 := f1) (f2 := f2) (ha := ha) (R := R) (B := B) (pl := 1) (by omega)) k_X5_holds ml_X5_92 rfl rfl dX5_renew_13 rfl rfl hl.1 (Nat.le_of_ble_eq_true rfl) ⟨Nat.le_of_ble_eq_true rfl, Nat.le_of_ble_eq_true rfl⟩ ⟨Nat.le_of_ble_eq_true rfl, Nat.le_of_ble_eq_true rfl⟩ (fun r W2 H locs hp G => ?_)
    obtain ⟨rfl, hw⟩ := hp
    have G := g_wc hw G
    refine W.eq (g2 := F0 m 16 ls [.int (bI (decide (1 = 0)))]) rfl ?_
    refine lv_if_ne (tgt := 21) hx hb dX5_renew_16 (by decide) (fun c_16 => ?_) (fun c_16 => ?_)
    · skip
      have c_16 : (decide (1 = 0)) = true := bI_t c_16
      exact absurd ((by decide) : (decide (1 = 0)) = false) (by rw [c_16]; decide)
    · skip
      have c_16 : (decide (1 = 0)) = false := bI_f c_16
      refine lv_iconst (v := 0) hx hb dX5_renew_19 (by decide) ?_
      exact g_iret C0 G ⟨by first | rfl | (exfalso; omega) | (simp only [c_5, c_16, Bool.false_eq_true, ↓reduceIte, eq_self, decide_true, decide_false, not_true_eq_false, not_false_eq_true, Bool.true_and, Bool.false_and, Bool.and_true, Bool.and_false]; done) | (simp [c_5, c_16]; done) | (simp [c_5, c_16]; rfl) | (simp [c_5, c_16]; omega), by first | rfl | (exfalso; omega) | (simp only [c_5, c_16, Bool.false_eq_true, ↓reduceIte, eq_self, decide_true, decide_false, not_true_eq_false, not_false_eq_true, Bool.true_and, Bool.false_and, Bool.and_true, Bool.and_false]; done) | (simp [c_5, c_16]; done) | (simp [c_5, c_16]; rfl) | (simp [c_5, c_16]; omega)⟩ dX5_renew_20
  · skip
    have c_5 : (inB p0 0 2) = true := bI_t c_5
    exact absurd (he : (inB p0 0 2) = false) (by rw [c_5]; decide)

set_option maxHeartbeats 4000000 in
set_option maxRecDepth 100000 in
theorem c_X5_copy_e1 (l : Launch) (D : va_G) (cy : Nat → ClassId) (am : Nat → Nat) (mf : Nat → Int64) (mb : Nat → Int64) (mv : Nat → Nat) (th : Int32) (sv : Nat) (X : Nat → Int32) (ln : Nat) (ap : Nat) (le : Nat) (fc : Nat) (f1 : Int32) (f2 : Int32) (ha : Int64) (R : va_W) (B : Nat → Int32) (p0 : Int32) (p1 : Int32) (he : (inB p0 0 2 && inB p1 0 2) = false) : GE l D (gts cy) yX5_copy cX5_copy 5 (some .int) 4 0 0 [.ref (am 0), .int p0, .int p1] (wM am cy th (cS mf mb mv) sv X ln ap le fc f1 f2 (B) ha R) (gF (some (.int 0)) (wM am cy (nI 1) (cS mf mb mv) sv X ln ap le fc f1 f2 (B) ha R)) := by
  refine g_intro (by decide +kernel) (lv := [(0, .ref (am 0)), (1, .int p0), (2, .int p1)]) rfl (Nat.le_of_ble_eq_true rfl) ?_
  intro p e s m below meth c C0 G ls hl
  have hx := C0.1
  have hb := C0.2.1
  have hown := C0.2.2.2.2.2.1
  have hts := C0.2.2.2.2.2.2.1
  refine lv_aload_n hx hb dX5_copy_0 rfl (lv_at hl 0 rfl) ?_
  refine lv_iload_n hx hb dX5_copy_1 rfl (lv_at hl 1 rfl) ?_
  refine g_callS (As := [.int p0]) (rest := [.ref (am 0)]) C0 G (c_X5_isCard l D cy (W1 := wM am cy th (cS mf mb mv) sv X ln ap le fc f1 f2 (B) ha R) (u := p0) ) k_X5_isCard ml_X5_89 dX5_copy_2 rfl rfl hl.1 (Nat.le_of_ble_eq_true rfl) ⟨Nat.le_of_ble_eq_true rfl, Nat.le_of_ble_eq_true rfl⟩ ⟨Nat.le_of_ble_eq_true rfl, Nat.le_of_ble_eq_true rfl⟩ (fun r W2 H locs hp G => ?_)
  obtain ⟨rfl, hw⟩ := hp
  have G := g_wc hw G
  refine W.eq (g2 := F0 m 5 ls [.int (bI (inB p0 0 2)), .ref (am 0)]) rfl ?_
  refine lv_if_eq (tgt := 15) hx hb dX5_copy_5 (by decide) (fun c_5 => ?_) (fun c_5 => ?_)
  · skip
    have c_5 : (inB p0 0 2) = false := bI_f c_5
    refine lv_iconst (v := 1) hx hb dX5_copy_15 (by decide) ?_
    refine lv_goto (tgt := 29) hx hb dX5_copy_16 (by decide) ?_
    refine g_callV (As := [.int 1]) (rest := []) (q0 := 0) C0 G (c_X5_holds l D cy (am := am) (mf := mf) (mb := mb) (mv := mv) (th := th) (sv := sv) (X := X) (ln := ln) (ap := ap) (le := le) (fc := fc) (f1 := f1) (f2 := f2) (ha := ha) (R := R) (B := B) (pl := 1) (by omega)) k_X5_holds ml_X5_92 rfl rfl dX5_copy_29 rfl rfl hl.1 (Nat.le_of_ble_eq_true rfl) ⟨Nat.le_of_ble_eq_true rfl, Nat.le_of_ble_eq_true rfl⟩ ⟨Nat.le_of_ble_eq_true rfl, Nat.le_of_ble_eq_true rfl⟩ (fun r W2 H locs hp G => ?_)
    obtain ⟨rfl, hw⟩ := hp
    have G := g_wc hw G
    refine W.eq (g2 := F0 m 32 ls [.int (bI (decide (1 = 0)))]) rfl ?_
    refine lv_if_ne (tgt := 37) hx hb dX5_copy_32 (by decide) (fun c_32 => ?_) (fun c_32 => ?_)
    · skip
      have c_32 : (decide (1 = 0)) = true := bI_t c_32
      exact absurd ((by decide) : (decide (1 = 0)) = false) (by rw [c_32]; decide)
    · skip
      have c_32 : (decide (1 = 0)) = false := bI_f c_32
      refine lv_iconst (v := 0) hx hb dX5_copy_35 (by decide) ?_
      exact g_iret C0 G ⟨by first | rfl | (exfalso; omega) | (simp only [c_5, c_32, Bool.false_eq_true, ↓reduceIte, eq_self, decide_true, decide_false, not_true_eq_false, not_false_eq_true, Bool.true_and, Bool.false_and, Bool.and_true, Bool.and_false]; done) | (simp [c_5, c_32]; done) | (simp [c_5, c_32]; rfl) | (simp [c_5, c_32]; omega), by first | rfl | (exfalso; omega) | (simp only [c_5, c_32, Bool.false_eq_true, ↓reduceIte, eq_self, decide_true, decide_false, not_true_eq_false, not_false_eq_true, Bool.true_and, Bool.false_and, Bool.and_true, Bool.and_false]; done) | (simp [c_5, c_32]; done) | (simp [c_5, c_32]; rfl) | (simp [c_5, c_32]; omega)⟩ dX5_copy_36
  · skip
    have c_5 : (inB p0 0 2) = true := bI_t c_5
    refine lv_iload_n hx hb dX5_copy_8 rfl (lv_at hl 2 rfl) ?_
    refine g_callS (As := [.int p1]) (rest := [.ref (am 0)]) C0 G (c_X5_isCard l D cy (W1 := wM am cy th (cS mf mb mv) sv X ln ap le fc f1 f2 (B) ha R) (u := p1) ) k_X5_isCard ml_X5_89 dX5_copy_9 rfl rfl hl.1 (Nat.le_of_ble_eq_true rfl) ⟨Nat.le_of_ble_eq_true rfl, Nat.le_of_ble_eq_true rfl⟩ ⟨Nat.le_of_ble_eq_true rfl, Nat.le_of_ble_eq_true rfl⟩ (fun r W2 H locs hp G => ?_)
    obtain ⟨rfl, hw⟩ := hp
    have G := g_wc hw G
    refine W.eq (g2 := F0 m 12 ls [.int (bI (inB p1 0 2)), .ref (am 0)]) rfl ?_
    refine lv_if_ne (tgt := 19) hx hb dX5_copy_12 (by decide) (fun c_12 => ?_) (fun c_12 => ?_)
    · skip
      have c_12 : (inB p1 0 2) = true := bI_t c_12
      rw [c_5, c_12] at he; exact absurd he (by decide)
    · skip
      have c_12 : (inB p1 0 2) = false := bI_f c_12
      refine lv_iconst (v := 1) hx hb dX5_copy_15 (by decide) ?_
      refine lv_goto (tgt := 29) hx hb dX5_copy_16 (by decide) ?_
      refine g_callV (As := [.int 1]) (rest := []) (q0 := 0) C0 G (c_X5_holds l D cy (am := am) (mf := mf) (mb := mb) (mv := mv) (th := th) (sv := sv) (X := X) (ln := ln) (ap := ap) (le := le) (fc := fc) (f1 := f1) (f2 := f2) (ha := ha) (R := R) (B := B) (pl := 1) (by omega)) k_X5_holds ml_X5_92 rfl rfl dX5_copy_29 rfl rfl hl.1 (Nat.le_of_ble_eq_true rfl) ⟨Nat.le_of_ble_eq_true rfl, Nat.le_of_ble_eq_true rfl⟩ ⟨Nat.le_of_ble_eq_true rfl, Nat.le_of_ble_eq_true rfl⟩ (fun r W2 H locs hp G => ?_)
      obtain ⟨rfl, hw⟩ := hp
      have G := g_wc hw G
      refine W.eq (g2 := F0 m 32 ls [.int (bI (decide (1 = 0)))]) rfl ?_
      refine lv_if_ne (tgt := 37) hx hb dX5_copy_32 (by decide) (fun c_32 => ?_) (fun c_32 => ?_)
      · skip
        have c_32 : (decide (1 = 0)) = true := bI_t c_32
        exact absurd ((by decide) : (decide (1 = 0)) = false) (by rw [c_32]; decide)
      · skip
        have c_32 : (decide (1 = 0)) = false := bI_f c_32
        refine lv_iconst (v := 0) hx hb dX5_copy_35 (by decide) ?_
        exact g_iret C0 G ⟨by first | rfl | (exfalso; omega) | (simp only [c_5, c_12, c_32, Bool.false_eq_true, ↓reduceIte, eq_self, decide_true, decide_false, not_true_eq_false, not_false_eq_true, Bool.true_and, Bool.false_and, Bool.and_true, Bool.and_false]; done) | (simp [c_5, c_12, c_32]; done) | (simp [c_5, c_12, c_32]; rfl) | (simp [c_5, c_12, c_32]; omega), by first | rfl | (exfalso; omega) | (simp only [c_5, c_12, c_32, Bool.false_eq_true, ↓reduceIte, eq_self, decide_true, decide_false, not_true_eq_false, not_false_eq_true, Bool.true_and, Bool.false_and, Bool.and_true, Bool.and_false]; done) | (simp [c_5, c_12, c_32]; done) | (simp [c_5, c_12, c_32]; rfl) | (simp [c_5, c_12, c_32]; omega)⟩ dX5_copy_36

set_option maxHeartbeats 4000000 in
set_option maxRecDepth 100000 in
theorem c_X5_copy_e2 (l : Launch) (D : va_G) (cy : Nat → ClassId) (am : Nat → Nat) (mf : Nat → Int64) (mb : Nat → Int64) (mv : Nat → Nat) (th : Int32) (sv : Nat) (X : Nat → Int32) (ln : Nat) (ap : Nat) (le : Nat) (fc : Nat) (f1 : Int32) (f2 : Int32) (ha : Int64) (R : va_W) (B : Nat → Int32) (k : Nat) (j : Nat) (h1 : k < 3) (h2 : j < 3) (hc : k = j) : GE l D (gts cy) yX5_copy cX5_copy 5 (some .int) 4 0 0 [.ref (am 0), .int (nI k), .int (nI j)] (wM am cy th (cS mf mb mv) sv X ln ap le fc f1 f2 (B) ha R) (gF (some (.int 0)) (wM am cy (nI 2) (cS mf mb mv) sv X ln ap le fc f1 f2 (B) ha R)) := by
  refine g_intro (by decide +kernel) (lv := [(0, .ref (am 0)), (1, .int (nI k)), (2, .int (nI j))]) rfl (Nat.le_of_ble_eq_true rfl) ?_
  intro p e s m below meth c C0 G ls hl
  have hx := C0.1
  have hb := C0.2.1
  have hown := C0.2.2.2.2.2.1
  have hts := C0.2.2.2.2.2.2.1
  refine lv_aload_n hx hb dX5_copy_0 rfl (lv_at hl 0 rfl) ?_
  refine lv_iload_n hx hb dX5_copy_1 rfl (lv_at hl 1 rfl) ?_
  refine g_callS (As := [.int (nI k)]) (rest := [.ref (am 0)]) C0 G (c_X5_isCard l D cy (W1 := wM am cy th (cS mf mb mv) sv X ln ap le fc f1 f2 (B) ha R) (u := nI k) ) k_X5_isCard ml_X5_89 dX5_copy_2 rfl rfl hl.1 (Nat.le_of_ble_eq_true rfl) ⟨Nat.le_of_ble_eq_true rfl, Nat.le_of_ble_eq_true rfl⟩ ⟨Nat.le_of_ble_eq_true rfl, Nat.le_of_ble_eq_true rfl⟩ (fun r W2 H locs hp G => ?_)
  obtain ⟨rfl, hw⟩ := hp
  have G := g_wc hw G
  refine W.eq (g2 := F0 m 5 ls [.int (bI (inB (nI k) 0 2)), .ref (am 0)]) rfl ?_
  refine lv_if_eq (tgt := 15) hx hb dX5_copy_5 (by decide) (fun c_5 => ?_) (fun c_5 => ?_)
  · skip
    have c_5 : (inB (nI k) 0 2) = false := bI_f c_5
    exact absurd ((inB_y (n := 2) (by omega) rfl (by decide)) : (inB (nI k) 0 2) = true) (by rw [c_5]; decide)
  · skip
    have c_5 : (inB (nI k) 0 2) = true := bI_t c_5
    refine lv_iload_n hx hb dX5_copy_8 rfl (lv_at hl 2 rfl) ?_
    refine g_callS (As := [.int (nI j)]) (rest := [.ref (am 0)]) C0 G (c_X5_isCard l D cy (W1 := wM am cy th (cS mf mb mv) sv X ln ap le fc f1 f2 (B) ha R) (u := nI j) ) k_X5_isCard ml_X5_89 dX5_copy_9 rfl rfl hl.1 (Nat.le_of_ble_eq_true rfl) ⟨Nat.le_of_ble_eq_true rfl, Nat.le_of_ble_eq_true rfl⟩ ⟨Nat.le_of_ble_eq_true rfl, Nat.le_of_ble_eq_true rfl⟩ (fun r W2 H locs hp G => ?_)
    obtain ⟨rfl, hw⟩ := hp
    have G := g_wc hw G
    refine W.eq (g2 := F0 m 12 ls [.int (bI (inB (nI j) 0 2)), .ref (am 0)]) rfl ?_
    refine lv_if_ne (tgt := 19) hx hb dX5_copy_12 (by decide) (fun c_12 => ?_) (fun c_12 => ?_)
    · skip
      have c_12 : (inB (nI j) 0 2) = true := bI_t c_12
      refine lv_iload_n hx hb dX5_copy_19 rfl (lv_at hl 1 rfl) ?_
      refine lv_iload_n hx hb dX5_copy_20 rfl (lv_at hl 2 rfl) ?_
      refine lv_icmp_ne (tgt := 28) hx hb dX5_copy_21 (by decide) (fun c_21 => ?_) (fun c_21 => ?_)
      · skip
        have c_21 : ¬ (k = j) := fun h => c_21 ((nI_eq (a := k) (b := j) (by omega) (by omega)).mpr h)
        exact absurd hc c_21
      · skip
        have c_21 : k = j := (nI_eq (a := k) (b := j) (by omega) (by omega)).mp c_21
        refine lv_iconst (v := 2) hx hb dX5_copy_24 (by decide) ?_
        refine lv_goto (tgt := 29) hx hb dX5_copy_25 (by decide) ?_
        refine g_callV (As := [.int 2]) (rest := []) (q0 := 0) C0 G (c_X5_holds l D cy (am := am) (mf := mf) (mb := mb) (mv := mv) (th := th) (sv := sv) (X := X) (ln := ln) (ap := ap) (le := le) (fc := fc) (f1 := f1) (f2 := f2) (ha := ha) (R := R) (B := B) (pl := 2) (by omega)) k_X5_holds ml_X5_92 rfl rfl dX5_copy_29 rfl rfl hl.1 (Nat.le_of_ble_eq_true rfl) ⟨Nat.le_of_ble_eq_true rfl, Nat.le_of_ble_eq_true rfl⟩ ⟨Nat.le_of_ble_eq_true rfl, Nat.le_of_ble_eq_true rfl⟩ (fun r W2 H locs hp G => ?_)
        obtain ⟨rfl, hw⟩ := hp
        have G := g_wc hw G
        refine W.eq (g2 := F0 m 32 ls [.int (bI (decide (2 = 0)))]) rfl ?_
        refine lv_if_ne (tgt := 37) hx hb dX5_copy_32 (by decide) (fun c_32 => ?_) (fun c_32 => ?_)
        · skip
          have c_32 : (decide (2 = 0)) = true := bI_t c_32
          exact absurd ((by decide) : (decide (2 = 0)) = false) (by rw [c_32]; decide)
        · skip
          have c_32 : (decide (2 = 0)) = false := bI_f c_32
          refine lv_iconst (v := 0) hx hb dX5_copy_35 (by decide) ?_
          exact g_iret C0 G ⟨by first | rfl | (exfalso; omega) | (simp only [c_5, c_12, c_21, c_32, Bool.false_eq_true, ↓reduceIte, eq_self, decide_true, decide_false, not_true_eq_false, not_false_eq_true, Bool.true_and, Bool.false_and, Bool.and_true, Bool.and_false]; done) | (simp [c_5, c_12, c_21, c_32]; done) | (simp [c_5, c_12, c_21, c_32]; rfl) | (simp [c_5, c_12, c_21, c_32]; omega), by first | rfl | (exfalso; omega) | (simp only [c_5, c_12, c_21, c_32, Bool.false_eq_true, ↓reduceIte, eq_self, decide_true, decide_false, not_true_eq_false, not_false_eq_true, Bool.true_and, Bool.false_and, Bool.and_true, Bool.and_false]; done) | (simp [c_5, c_12, c_21, c_32]; done) | (simp [c_5, c_12, c_21, c_32]; rfl) | (simp [c_5, c_12, c_21, c_32]; omega)⟩ dX5_copy_36
    · skip
      have c_12 : (inB (nI j) 0 2) = false := bI_f c_12
      exact absurd ((inB_y (n := 2) (by omega) rfl (by decide)) : (inB (nI j) 0 2) = true) (by rw [c_12]; decide)

set_option maxHeartbeats 4000000 in
set_option maxRecDepth 100000 in
theorem c_X5_changes_ok (l : Launch) (D : va_G) (cy : Nat → ClassId) (am : Nat → Nat) (mf : Nat → Int64) (mb : Nat → Int64) (mv : Nat → Nat) (th : Int32) (sv : Nat) (X : Nat → Int32) (ln : Nat) (ap : Nat) (le : Nat) (fc : Nat) (f1 : Int32) (f2 : Int32) (ha : Int64) (R : va_W) (B : Nat → Int32) (k : Nat) (i : Nat) (j : Nat) (lo : Bool) (h1 : k < 3) (h2 : i < 8) (h3 : j < 8) (hv : mv k < 4) (hc : shB1 (mf k) (mb k) (mv k) i j = lo) (hs : sv ≤ 6) : GE l D (gts cy) yX5_changes cX5_changes 7 (some .int) 2 0 0 [.ref (am 0), .int (nI k), .int (nI i), .int (nI j), .int (bI lo)] (wM am cy th (cS mf mb mv) sv X ln ap le fc f1 f2 (B) ha R) (gF (some (.int (kdI ((va_up (mSv mf sv) k (skF ((mSv mf sv) k) (scN ((mSv mv sv) k) i j) (tgN (mSv mf sv k) (mSv mb sv k) (scN (mSv mv sv k) i j) (sbB (mSv mv sv k))))) k) ((va_up (mSv mb sv) k (skB ((mSv mb sv) k) (scN ((mSv mv sv) k) i j) (tgN (mSv mf sv k) (mSv mb sv k) (scN (mSv mv sv k) i j) (sbB (mSv mv sv k))))) k) (scN ((mSv mv sv) k) i j)))) (wM am cy (nI 0) (cS (va_up (mSv mf sv) k (skF ((mSv mf sv) k) (scN ((mSv mv sv) k) i j) (tgN (mSv mf sv k) (mSv mb sv k) (scN (mSv mv sv k) i j) (sbB (mSv mv sv k))))) (va_up (mSv mb sv) k (skB ((mSv mb sv) k) (scN ((mSv mv sv) k) i j) (tgN (mSv mf sv k) (mSv mb sv k) (scN (mSv mv sv k) i j) (sbB (mSv mv sv k))))) (mSv mv sv)) (saK sv) X ln ap le fc f1 f2 (B) ha R)) := by
  refine g_intro (by decide +kernel) (lv := [(0, .ref (am 0)), (1, .int (nI k)), (2, .int (nI i)), (3, .int (nI j)), (4, .int (bI lo))]) rfl (Nat.le_of_ble_eq_true rfl) ?_
  intro p e s m below meth c C0 G ls hl
  have hx := C0.1
  have hb := C0.2.1
  have hown := C0.2.2.2.2.2.1
  have hts := C0.2.2.2.2.2.2.1
  refine lv_iload_n hx hb dX5_changes_0 rfl (lv_at hl 1 rfl) ?_
  refine g_callS (As := [.int (nI k)]) (rest := []) C0 G (c_X5_isCard l D cy (W1 := wM am cy th (cS mf mb mv) sv X ln ap le fc f1 f2 (B) ha R) (u := nI k) ) k_X5_isCard ml_X5_89 dX5_changes_1 rfl rfl hl.1 (Nat.le_of_ble_eq_true rfl) ⟨Nat.le_of_ble_eq_true rfl, Nat.le_of_ble_eq_true rfl⟩ ⟨Nat.le_of_ble_eq_true rfl, Nat.le_of_ble_eq_true rfl⟩ (fun r W2 H locs hp G => ?_)
  obtain ⟨rfl, hw⟩ := hp
  have G := g_wc hw G
  refine W.eq (g2 := F0 m 4 ls [.int (bI (inB (nI k) 0 2))]) rfl ?_
  refine lv_if_eq (tgt := 19) hx hb dX5_changes_4 (by decide) (fun c_4 => ?_) (fun c_4 => ?_)
  · skip
    have c_4 : (inB (nI k) 0 2) = false := bI_f c_4
    exact absurd ((inB_y (n := 2) (by omega) rfl (by decide)) : (inB (nI k) 0 2) = true) (by rw [c_4]; decide)
  · skip
    have c_4 : (inB (nI k) 0 2) = true := bI_t c_4
    refine lv_iload_n hx hb dX5_changes_7 rfl (lv_at hl 2 rfl) ?_
    refine lv_iload_n hx hb dX5_changes_8 rfl (lv_at hl 3 rfl) ?_
    refine g_callS (As := [.int (nI i), .int (nI j)]) (rest := []) C0 G (c_X5_isCell l D cy (W1 := wM am cy th (cS mf mb mv) sv X ln ap le fc f1 f2 (B) ha R) (u := nI i) (w := nI j) ) k_X5_isCell ml_X5_110 dX5_changes_9 rfl rfl hl.1 (Nat.le_of_ble_eq_true rfl) ⟨Nat.le_of_ble_eq_true rfl, Nat.le_of_ble_eq_true rfl⟩ ⟨Nat.le_of_ble_eq_true rfl, Nat.le_of_ble_eq_true rfl⟩ (fun r W2 H locs hp G => ?_)
    obtain ⟨rfl, hw⟩ := hp
    have G := g_wc hw G
    refine W.eq (g2 := F0 m 12 ls [.int (bI (inB (nI i) 0 7 && inB (nI j) 0 7))]) rfl ?_
    refine lv_if_eq (tgt := 19) hx hb dX5_changes_12 (by decide) (fun c_12 => ?_) (fun c_12 => ?_)
    · skip
      have c_12 : (inB (nI i) 0 7 && inB (nI j) 0 7) = false := bI_f c_12
      exact absurd ((by rw [inB_y (k := i) (n := 7) (hi := 7) (by omega) rfl (by decide), inB_y (k := j) (n := 7) (hi := 7) (by omega) rfl (by decide)]; rfl) : (inB (nI i) 0 7 && inB (nI j) 0 7) = true) (by rw [c_12]; decide)
    · skip
      have c_12 : (inB (nI i) 0 7 && inB (nI j) 0 7) = true := bI_t c_12
      refine lv_iconst (v := 1) hx hb dX5_changes_15 (by decide) ?_
      refine lv_goto (tgt := 20) hx hb dX5_changes_16 (by decide) ?_
      refine lv_istore (lv' := [(5, .int 1), (0, .ref (am 0)), (1, .int (nI k)), (2, .int (nI i)), (3, .int (nI j)), (4, .int (bI lo))]) hx hb dX5_changes_20 hl (by decide) rfl (fun ls hl => ?_)
      refine lv_aload_n hx hb dX5_changes_22 rfl (lv_at hl 1 rfl) ?_
      refine lv_iload hx hb dX5_changes_23 (lv_at hl 0 rfl) ?_
      refine lv_if_ne (tgt := 32) hx hb dX5_changes_25 (by decide) (fun c_25 => ?_) (fun c_25 => ?_)
      · skip
        refine lv_aload_n hx hb dX5_changes_32 rfl (lv_at hl 1 rfl) ?_
        refine lv_iload_n hx hb dX5_changes_33 rfl (lv_at hl 2 rfl) ?_
        refine lv_iload_n hx hb dX5_changes_34 rfl (lv_at hl 3 rfl) ?_
        refine lv_iload_n hx hb dX5_changes_35 rfl (lv_at hl 4 rfl) ?_
        refine g_callV (As := [.int (nI k), .int (nI i), .int (nI j)]) (rest := [.ref (am 0)]) (q0 := 0) C0 G (c_X5_isSeen l D cy (am := am) (mf := mf) (mb := mb) (mv := mv) (th := th) (sv := sv) (X := X) (ln := ln) (ap := ap) (le := le) (fc := fc) (f1 := f1) (f2 := f2) (ha := ha) (R := R) (B := B) (z := k) (row := i) (col := j) (by omega) (by omega) (by omega) hv) k_X5_isSeen ml_X5_54 rfl rfl dX5_changes_36 rfl rfl hl.1 (Nat.le_of_ble_eq_true rfl) ⟨Nat.le_of_ble_eq_true rfl, Nat.le_of_ble_eq_true rfl⟩ ⟨Nat.le_of_ble_eq_true rfl, Nat.le_of_ble_eq_true rfl⟩ (fun r W2 H locs hp G => ?_)
        obtain ⟨rfl, hw⟩ := hp
        have G := g_wc hw G
        refine W.eq (g2 := F0 m 39 ls [.int (bI (shB1 (mf k) (mb k) (mv k) i j)), .ref (am 0)]) rfl ?_
        refine lv_iload hx hb dX5_changes_39 (lv_at hl 5 rfl) ?_
        refine lv_icmp_eq (tgt := 48) hx hb dX5_changes_41 (by decide) (fun c_41 => ?_) (fun c_41 => ?_)
        · skip
          have c_41 : (shB1 (mf k) (mb k) (mv k) i j) = lo := bI_inj c_41
          refine lv_iconst (v := 0) hx hb dX5_changes_48 (by decide) ?_
          refine g_callV (As := [.int 0]) (rest := []) (q0 := 0) C0 G (c_X5_holds l D cy (am := am) (mf := mf) (mb := mb) (mv := mv) (th := th) (sv := sv) (X := X) (ln := ln) (ap := ap) (le := le) (fc := fc) (f1 := f1) (f2 := f2) (ha := ha) (R := R) (B := B) (pl := 0) (by omega)) k_X5_holds ml_X5_92 rfl rfl dX5_changes_49 rfl rfl hl.1 (Nat.le_of_ble_eq_true rfl) ⟨Nat.le_of_ble_eq_true rfl, Nat.le_of_ble_eq_true rfl⟩ ⟨Nat.le_of_ble_eq_true rfl, Nat.le_of_ble_eq_true rfl⟩ (fun r W2 H locs hp G => ?_)
          obtain ⟨rfl, hw⟩ := hp
          have G := g_wc hw G
          refine W.eq (g2 := F0 m 52 ls [.int (bI (decide (0 = 0)))]) rfl ?_
          refine lv_if_ne (tgt := 57) hx hb dX5_changes_52 (by decide) (fun c_52 => ?_) (fun c_52 => ?_)
          · skip
            have c_52 : (decide (0 = 0)) = true := bI_t c_52
            refine lv_aload_n hx hb dX5_changes_57 rfl (lv_at hl 1 rfl) ?_
            refine g_callV (As := []) (rest := []) (q0 := 0) C0 G (c_X5_save l D cy (am := am) (mf := mf) (mb := mb) (mv := mv) (th := nI 0) (sv := sv) (X := X) (ln := ln) (ap := ap) (le := le) (fc := fc) (f1 := f1) (f2 := f2) (ha := ha) (R := R) (B := B)  (by omega)) k_X5_save ml_X5_95 rfl rfl dX5_changes_58 rfl rfl hl.1 (Nat.le_of_ble_eq_true rfl) ⟨Nat.le_of_ble_eq_true rfl, Nat.le_of_ble_eq_true rfl⟩ ⟨Nat.le_of_ble_eq_true rfl, Nat.le_of_ble_eq_true rfl⟩ (fun r W2 H locs hp G => ?_)
            obtain ⟨rfl, hw⟩ := hp
            have G := g_wc hw G
            refine W.eq (g2 := F0 m 61 ls []) rfl ?_
            have hv2 : mSv mv sv k < 4 := by rw [mSv_lo h1]; exact hv
            have hsc := scN_lt (v := mSv mv sv k) h2 h3
            have htg := tgN_lt (mSv mf sv k) (mSv mb sv k) (scN (mSv mv sv k) i j) (sbB (mSv mv sv k))
            refine lv_aload_n hx hb dX5_changes_61 rfl (lv_at hl 1 rfl) ?_
            refine lv_iload_n hx hb dX5_changes_62 rfl (lv_at hl 2 rfl) ?_
            refine g_callV (As := [.int (nI k)]) (rest := []) (q0 := 0) C0 G (c_X5_viewOf l D cy (am := am) (mf := mSv mf sv) (mb := mSv mb sv) (mv := mSv mv sv) (th := nI 0) (sv := saK sv) (X := X) (ln := ln) (ap := ap) (le := le) (fc := fc) (f1 := f1) (f2 := f2) (ha := ha) (R := R) (B := B) (z := k) (by omega)) k_X5_viewOf ml_X5_39 rfl rfl dX5_changes_63 rfl rfl hl.1 (Nat.le_of_ble_eq_true rfl) ⟨Nat.le_of_ble_eq_true rfl, Nat.le_of_ble_eq_true rfl⟩ ⟨Nat.le_of_ble_eq_true rfl, Nat.le_of_ble_eq_true rfl⟩ (fun r W2 H locs hp G => ?_)
            obtain ⟨rfl, hw⟩ := hp
            have G := g_wc hw G
            refine W.eq (g2 := F0 m 66 ls [.int (nI ((mSv mv sv) k))]) rfl ?_
            refine lv_iload_n hx hb dX5_changes_66 rfl (lv_at hl 3 rfl) ?_
            refine lv_iload_n hx hb dX5_changes_67 rfl (lv_at hl 4 rfl) ?_
            refine g_callS (As := [.int (nI ((mSv mv sv) k)), .int (nI i), .int (nI j)]) (rest := []) C0 G (c_X5_seenCell l D cy (W1 := wM am cy (nI 0) (cS (mSv mf sv) (mSv mb sv) (mSv mv sv)) (saK sv) X ln ap le fc f1 f2 (B) ha R) (v := (mSv mv sv) k) (row := i) (col := j) (by omega) (by omega) (by omega)) k_X5_seenCell ml_X5_43 dX5_changes_68 rfl rfl hl.1 (Nat.le_of_ble_eq_true rfl) ⟨Nat.le_of_ble_eq_true rfl, Nat.le_of_ble_eq_true rfl⟩ ⟨Nat.le_of_ble_eq_true rfl, Nat.le_of_ble_eq_true rfl⟩ (fun r W2 H locs hp G => ?_)
            obtain ⟨rfl, hw⟩ := hp
            have G := g_wc hw G
            refine W.eq (g2 := F0 m 71 ls [.int (nI (scN ((mSv mv sv) k) i j))]) rfl ?_
            refine lv_istore (lv' := [(6, .int (nI (scN ((mSv mv sv) k) i j))), (5, .int 1), (0, .ref (am 0)), (1, .int (nI k)), (2, .int (nI i)), (3, .int (nI j)), (4, .int (bI lo))]) hx hb dX5_changes_71 hl (by decide) rfl (fun ls hl => ?_)
            refine lv_aload_n hx hb dX5_changes_73 rfl (lv_at hl 2 rfl) ?_
            refine lv_iload_n hx hb dX5_changes_74 rfl (lv_at hl 3 rfl) ?_
            refine lv_iload hx hb dX5_changes_75 (lv_at hl 0 rfl) ?_
            refine lv_aload_n hx hb dX5_changes_77 rfl (lv_at hl 2 rfl) ?_
            refine lv_iload_n hx hb dX5_changes_78 rfl (lv_at hl 3 rfl) ?_
            refine lv_iload hx hb dX5_changes_79 (lv_at hl 0 rfl) ?_
            refine g_callV (As := [.int (nI k), .int (nI (scN ((mSv mv sv) k) i j))]) (rest := [.int (nI (scN ((mSv mv sv) k) i j)), .int (nI k), .ref (am 0)]) (q0 := 0) C0 G (c_X5_of l D cy (am := am) (mf := mSv mf sv) (mb := mSv mb sv) (mv := mSv mv sv) (th := nI 0) (sv := saK sv) (X := X) (ln := ln) (ap := ap) (le := le) (fc := fc) (f1 := f1) (f2 := f2) (ha := ha) (R := R) (B := B) (z := k) (k := scN ((mSv mv sv) k) i j) (by omega) (by omega)) k_X5_of ml_X5_35 rfl rfl dX5_changes_81 rfl rfl hl.1 (Nat.le_of_ble_eq_true rfl) ⟨Nat.le_of_ble_eq_true rfl, Nat.le_of_ble_eq_true rfl⟩ ⟨Nat.le_of_ble_eq_true rfl, Nat.le_of_ble_eq_true rfl⟩ (fun r W2 H locs hp G => ?_)
            obtain ⟨rfl, hw⟩ := hp
            have G := g_wc hw G
            refine W.eq (g2 := F0 m 84 ls [.int (kdI ((mSv mf sv) k) ((mSv mb sv) k) (scN ((mSv mv sv) k) i j)), .int (nI (scN ((mSv mv sv) k) i j)), .int (nI k), .ref (am 0)]) rfl ?_
            refine lv_aload_n hx hb dX5_changes_84 rfl (lv_at hl 2 rfl) ?_
            refine lv_iload_n hx hb dX5_changes_85 rfl (lv_at hl 3 rfl) ?_
            refine g_callV (As := [.int (nI k)]) (rest := [.int (kdI ((mSv mf sv) k) ((mSv mb sv) k) (scN ((mSv mv sv) k) i j)), .int (nI (scN ((mSv mv sv) k) i j)), .int (nI k), .ref (am 0)]) (q0 := 0) C0 G (c_X5_viewOf l D cy (am := am) (mf := mSv mf sv) (mb := mSv mb sv) (mv := mSv mv sv) (th := nI 0) (sv := saK sv) (X := X) (ln := ln) (ap := ap) (le := le) (fc := fc) (f1 := f1) (f2 := f2) (ha := ha) (R := R) (B := B) (z := k) (by omega)) k_X5_viewOf ml_X5_39 rfl rfl dX5_changes_86 rfl rfl hl.1 (Nat.le_of_ble_eq_true rfl) ⟨Nat.le_of_ble_eq_true rfl, Nat.le_of_ble_eq_true rfl⟩ ⟨Nat.le_of_ble_eq_true rfl, Nat.le_of_ble_eq_true rfl⟩ (fun r W2 H locs hp G => ?_)
            obtain ⟨rfl, hw⟩ := hp
            have G := g_wc hw G
            refine W.eq (g2 := F0 m 89 ls [.int (nI ((mSv mv sv) k)), .int (kdI ((mSv mf sv) k) ((mSv mb sv) k) (scN ((mSv mv sv) k) i j)), .int (nI (scN ((mSv mv sv) k) i j)), .int (nI k), .ref (am 0)]) rfl ?_
            refine g_callS (As := [.int (nI ((mSv mv sv) k))]) (rest := [.int (kdI ((mSv mf sv) k) ((mSv mb sv) k) (scN ((mSv mv sv) k) i j)), .int (nI (scN ((mSv mv sv) k) i j)), .int (nI k), .ref (am 0)]) C0 G (c_X5_faceOf l D cy (W1 := wM am cy (nI 0) (cS (mSv mf sv) (mSv mb sv) (mSv mv sv)) (saK sv) X ln ap le fc f1 f2 (B) ha R) (v := (mSv mv sv) k) (by omega)) k_X5_faceOf ml_X5_47 dX5_changes_89 rfl rfl hl.1 (Nat.le_of_ble_eq_true rfl) ⟨Nat.le_of_ble_eq_true rfl, Nat.le_of_ble_eq_true rfl⟩ ⟨Nat.le_of_ble_eq_true rfl, Nat.le_of_ble_eq_true rfl⟩ (fun r W2 H locs hp G => ?_)
            obtain ⟨rfl, hw⟩ := hp
            have G := g_wc hw G
            refine W.eq (g2 := F0 m 92 ls [.int (nI (fcN ((mSv mv sv) k))), .int (kdI ((mSv mf sv) k) ((mSv mb sv) k) (scN ((mSv mv sv) k) i j)), .int (nI (scN ((mSv mv sv) k) i j)), .int (nI k), .ref (am 0)]) rfl ?_
            refine g_callS (As := [.int (kdI ((mSv mf sv) k) ((mSv mb sv) k) (scN ((mSv mv sv) k) i j)), .int (nI (fcN ((mSv mv sv) k)))]) (rest := [.int (nI (scN ((mSv mv sv) k) i j)), .int (nI k), .ref (am 0)]) C0 G (c_X5_turned l D cy (W1 := wM am cy (nI 0) (cS (mSv mf sv) (mSv mb sv) (mSv mv sv)) (saK sv) X ln ap le fc f1 f2 (B) ha R) (q := kdI ((mSv mf sv) k) ((mSv mb sv) k) (scN ((mSv mv sv) k) i j)) (fr := nI (fcN ((mSv mv sv) k))) ) k_X5_turned ml_X5_113 dX5_changes_92 rfl rfl hl.1 (Nat.le_of_ble_eq_true rfl) ⟨Nat.le_of_ble_eq_true rfl, Nat.le_of_ble_eq_true rfl⟩ ⟨Nat.le_of_ble_eq_true rfl, Nat.le_of_ble_eq_true rfl⟩ (fun r W2 H locs hp G => ?_)
            obtain ⟨rfl, hw⟩ := hp
            have G := g_wc hw G
            refine W.eq (g2 := F0 m 95 ls [.int (tuI (kdI ((mSv mf sv) k) ((mSv mb sv) k) (scN ((mSv mv sv) k) i j)) (nI (fcN ((mSv mv sv) k)))), .int (nI (scN ((mSv mv sv) k) i j)), .int (nI k), .ref (am 0)]) rfl ?_
            refine g_topi (x' := nI (tgN (mSv mf sv k) (mSv mb sv k) (scN (mSv mv sv k) i j) (sbB (mSv mv sv k)))) (tu_tg hv2) ?_
            refine g_callV (As := [.int (nI k), .int (nI (scN ((mSv mv sv) k) i j)), .int (nI (tgN (mSv mf sv k) (mSv mb sv k) (scN (mSv mv sv k) i j) (sbB (mSv mv sv k))))]) (rest := []) (q0 := 0) C0 G (c_X5_lay l D cy (am := am) (mf := mSv mf sv) (mb := mSv mb sv) (mv := mSv mv sv) (th := nI 0) (sv := saK sv) (X := X) (ln := ln) (ap := ap) (le := le) (fc := fc) (f1 := f1) (f2 := f2) (ha := ha) (R := R) (B := B) (z := k) (k := scN ((mSv mv sv) k) i j) (q := tgN (mSv mf sv k) (mSv mb sv k) (scN (mSv mv sv k) i j) (sbB (mSv mv sv k))) (by omega) (by omega) (by omega)) k_X5_lay ml_X5_31 rfl rfl dX5_changes_95 rfl rfl hl.1 (Nat.le_of_ble_eq_true rfl) ⟨Nat.le_of_ble_eq_true rfl, Nat.le_of_ble_eq_true rfl⟩ ⟨Nat.le_of_ble_eq_true rfl, Nat.le_of_ble_eq_true rfl⟩ (fun r W2 H locs hp G => ?_)
            obtain ⟨rfl, hw⟩ := hp
            have G := g_wc hw G
            refine W.eq (g2 := F0 m 98 ls []) rfl ?_
            refine lv_aload_n hx hb dX5_changes_98 rfl (lv_at hl 2 rfl) ?_
            refine lv_iload_n hx hb dX5_changes_99 rfl (lv_at hl 3 rfl) ?_
            refine lv_iload hx hb dX5_changes_100 (lv_at hl 0 rfl) ?_
            refine g_callV (As := [.int (nI k), .int (nI (scN ((mSv mv sv) k) i j))]) (rest := []) (q0 := 0) C0 G (c_X5_of l D cy (am := am) (mf := va_up (mSv mf sv) k (skF ((mSv mf sv) k) (scN ((mSv mv sv) k) i j) (tgN (mSv mf sv k) (mSv mb sv k) (scN (mSv mv sv k) i j) (sbB (mSv mv sv k))))) (mb := va_up (mSv mb sv) k (skB ((mSv mb sv) k) (scN ((mSv mv sv) k) i j) (tgN (mSv mf sv k) (mSv mb sv k) (scN (mSv mv sv k) i j) (sbB (mSv mv sv k))))) (mv := mSv mv sv) (th := nI 0) (sv := saK sv) (X := X) (ln := ln) (ap := ap) (le := le) (fc := fc) (f1 := f1) (f2 := f2) (ha := ha) (R := R) (B := B) (z := k) (k := scN ((mSv mv sv) k) i j) (by omega) (by omega)) k_X5_of ml_X5_35 rfl rfl dX5_changes_102 rfl rfl hl.1 (Nat.le_of_ble_eq_true rfl) ⟨Nat.le_of_ble_eq_true rfl, Nat.le_of_ble_eq_true rfl⟩ ⟨Nat.le_of_ble_eq_true rfl, Nat.le_of_ble_eq_true rfl⟩ (fun r W2 H locs hp G => ?_)
            obtain ⟨rfl, hw⟩ := hp
            have G := g_wc hw G
            refine W.eq (g2 := F0 m 105 ls [.int (kdI ((va_up (mSv mf sv) k (skF ((mSv mf sv) k) (scN ((mSv mv sv) k) i j) (tgN (mSv mf sv k) (mSv mb sv k) (scN (mSv mv sv k) i j) (sbB (mSv mv sv k))))) k) ((va_up (mSv mb sv) k (skB ((mSv mb sv) k) (scN ((mSv mv sv) k) i j) (tgN (mSv mf sv k) (mSv mb sv k) (scN (mSv mv sv k) i j) (sbB (mSv mv sv k))))) k) (scN ((mSv mv sv) k) i j))]) rfl ?_
            exact g_iret C0 G ⟨by first | rfl | (exfalso; omega) | (simp only [c_4, c_12, c_41, c_52, Bool.false_eq_true, ↓reduceIte, eq_self, decide_true, decide_false, not_true_eq_false, not_false_eq_true, Bool.true_and, Bool.false_and, Bool.and_true, Bool.and_false]; done) | (simp [c_4, c_12, c_41, c_52]; done) | (simp [c_4, c_12, c_41, c_52]; rfl) | (simp [c_4, c_12, c_41, c_52]; omega), by first | rfl | (exfalso; omega) | (simp only [c_4, c_12, c_41, c_52, Bool.false_eq_true, ↓reduceIte, eq_self, decide_true, decide_false, not_true_eq_false, not_false_eq_true, Bool.true_and, Bool.false_and, Bool.and_true, Bool.and_false]; done) | (simp [c_4, c_12, c_41, c_52]; done) | (simp [c_4, c_12, c_41, c_52]; rfl) | (simp [c_4, c_12, c_41, c_52]; omega)⟩ dX5_changes_105
          · skip
            have c_52 : (decide (0 = 0)) = false := bI_f c_52
            exact absurd ((by decide) : (decide (0 = 0)) = true) (by rw [c_52]; decide)
        · skip
          have c_41 : ¬ (shB1 (mf k) (mb k) (mv k) i j) = lo := fun h => c_41 (congrArg bI h)
          exact absurd hc c_41
      · exact absurd c_25 (by decide)

set_option maxHeartbeats 4000000 in
set_option maxRecDepth 100000 in
theorem c_X5_changes_e1 (l : Launch) (D : va_G) (cy : Nat → ClassId) (am : Nat → Nat) (mf : Nat → Int64) (mb : Nat → Int64) (mv : Nat → Nat) (th : Int32) (sv : Nat) (X : Nat → Int32) (ln : Nat) (ap : Nat) (le : Nat) (fc : Nat) (f1 : Int32) (f2 : Int32) (ha : Int64) (R : va_W) (B : Nat → Int32) (p0 : Int32) (p1 : Int32) (p2 : Int32) (lo : Bool) (he : (inB p0 0 2 && (inB p1 0 7 && inB p2 0 7)) = false) : GE l D (gts cy) yX5_changes cX5_changes 7 (some .int) 2 0 0 [.ref (am 0), .int p0, .int p1, .int p2, .int (bI lo)] (wM am cy th (cS mf mb mv) sv X ln ap le fc f1 f2 (B) ha R) (gF (some (.int 0)) (wM am cy (nI 1) (cS mf mb mv) sv X ln ap le fc f1 f2 (B) ha R)) := by
  refine g_intro (by decide +kernel) (lv := [(0, .ref (am 0)), (1, .int p0), (2, .int p1), (3, .int p2), (4, .int (bI lo))]) rfl (Nat.le_of_ble_eq_true rfl) ?_
  intro p e s m below meth c C0 G ls hl
  have hx := C0.1
  have hb := C0.2.1
  have hown := C0.2.2.2.2.2.1
  have hts := C0.2.2.2.2.2.2.1
  refine lv_iload_n hx hb dX5_changes_0 rfl (lv_at hl 1 rfl) ?_
  refine g_callS (As := [.int p0]) (rest := []) C0 G (c_X5_isCard l D cy (W1 := wM am cy th (cS mf mb mv) sv X ln ap le fc f1 f2 (B) ha R) (u := p0) ) k_X5_isCard ml_X5_89 dX5_changes_1 rfl rfl hl.1 (Nat.le_of_ble_eq_true rfl) ⟨Nat.le_of_ble_eq_true rfl, Nat.le_of_ble_eq_true rfl⟩ ⟨Nat.le_of_ble_eq_true rfl, Nat.le_of_ble_eq_true rfl⟩ (fun r W2 H locs hp G => ?_)
  obtain ⟨rfl, hw⟩ := hp
  have G := g_wc hw G
  refine W.eq (g2 := F0 m 4 ls [.int (bI (inB p0 0 2))]) rfl ?_
  refine lv_if_eq (tgt := 19) hx hb dX5_changes_4 (by decide) (fun c_4 => ?_) (fun c_4 => ?_)
  · skip
    have c_4 : (inB p0 0 2) = false := bI_f c_4
    refine lv_iconst (v := 0) hx hb dX5_changes_19 (by decide) ?_
    refine lv_istore (lv' := [(5, .int 0), (0, .ref (am 0)), (1, .int p0), (2, .int p1), (3, .int p2), (4, .int (bI lo))]) hx hb dX5_changes_20 hl (by decide) rfl (fun ls hl => ?_)
    refine lv_aload_n hx hb dX5_changes_22 rfl (lv_at hl 1 rfl) ?_
    refine lv_iload hx hb dX5_changes_23 (lv_at hl 0 rfl) ?_
    refine lv_if_ne (tgt := 32) hx hb dX5_changes_25 (by decide) (fun c_25 => ?_) (fun c_25 => ?_)
    · exact absurd c_25 (by decide)
    · skip
      refine lv_iconst (v := 1) hx hb dX5_changes_28 (by decide) ?_
      refine lv_goto (tgt := 49) hx hb dX5_changes_29 (by decide) ?_
      refine g_callV (As := [.int 1]) (rest := []) (q0 := 0) C0 G (c_X5_holds l D cy (am := am) (mf := mf) (mb := mb) (mv := mv) (th := th) (sv := sv) (X := X) (ln := ln) (ap := ap) (le := le) (fc := fc) (f1 := f1) (f2 := f2) (ha := ha) (R := R) (B := B) (pl := 1) (by omega)) k_X5_holds ml_X5_92 rfl rfl dX5_changes_49 rfl rfl hl.1 (Nat.le_of_ble_eq_true rfl) ⟨Nat.le_of_ble_eq_true rfl, Nat.le_of_ble_eq_true rfl⟩ ⟨Nat.le_of_ble_eq_true rfl, Nat.le_of_ble_eq_true rfl⟩ (fun r W2 H locs hp G => ?_)
      obtain ⟨rfl, hw⟩ := hp
      have G := g_wc hw G
      refine W.eq (g2 := F0 m 52 ls [.int (bI (decide (1 = 0)))]) rfl ?_
      refine lv_if_ne (tgt := 57) hx hb dX5_changes_52 (by decide) (fun c_52 => ?_) (fun c_52 => ?_)
      · skip
        have c_52 : (decide (1 = 0)) = true := bI_t c_52
        exact absurd ((by decide) : (decide (1 = 0)) = false) (by rw [c_52]; decide)
      · skip
        have c_52 : (decide (1 = 0)) = false := bI_f c_52
        refine lv_iconst (v := 0) hx hb dX5_changes_55 (by decide) ?_
        exact g_iret C0 G ⟨by first | rfl | (exfalso; omega) | (simp only [c_4, c_52, Bool.false_eq_true, ↓reduceIte, eq_self, decide_true, decide_false, not_true_eq_false, not_false_eq_true, Bool.true_and, Bool.false_and, Bool.and_true, Bool.and_false]; done) | (simp [c_4, c_52]; done) | (simp [c_4, c_52]; rfl) | (simp [c_4, c_52]; omega), by first | rfl | (exfalso; omega) | (simp only [c_4, c_52, Bool.false_eq_true, ↓reduceIte, eq_self, decide_true, decide_false, not_true_eq_false, not_false_eq_true, Bool.true_and, Bool.false_and, Bool.and_true, Bool.and_false]; done) | (simp [c_4, c_52]; done) | (simp [c_4, c_52]; rfl) | (simp [c_4, c_52]; omega)⟩ dX5_changes_56
  · skip
    have c_4 : (inB p0 0 2) = true := bI_t c_4
    refine lv_iload_n hx hb dX5_changes_7 rfl (lv_at hl 2 rfl) ?_
    refine lv_iload_n hx hb dX5_changes_8 rfl (lv_at hl 3 rfl) ?_
    refine g_callS (As := [.int p1, .int p2]) (rest := []) C0 G (c_X5_isCell l D cy (W1 := wM am cy th (cS mf mb mv) sv X ln ap le fc f1 f2 (B) ha R) (u := p1) (w := p2) ) k_X5_isCell ml_X5_110 dX5_changes_9 rfl rfl hl.1 (Nat.le_of_ble_eq_true rfl) ⟨Nat.le_of_ble_eq_true rfl, Nat.le_of_ble_eq_true rfl⟩ ⟨Nat.le_of_ble_eq_true rfl, Nat.le_of_ble_eq_true rfl⟩ (fun r W2 H locs hp G => ?_)
    obtain ⟨rfl, hw⟩ := hp
    have G := g_wc hw G
    refine W.eq (g2 := F0 m 12 ls [.int (bI (inB p1 0 7 && inB p2 0 7))]) rfl ?_
    refine lv_if_eq (tgt := 19) hx hb dX5_changes_12 (by decide) (fun c_12 => ?_) (fun c_12 => ?_)
    · skip
      have c_12 : (inB p1 0 7 && inB p2 0 7) = false := bI_f c_12
      refine lv_iconst (v := 0) hx hb dX5_changes_19 (by decide) ?_
      refine lv_istore (lv' := [(5, .int 0), (0, .ref (am 0)), (1, .int p0), (2, .int p1), (3, .int p2), (4, .int (bI lo))]) hx hb dX5_changes_20 hl (by decide) rfl (fun ls hl => ?_)
      refine lv_aload_n hx hb dX5_changes_22 rfl (lv_at hl 1 rfl) ?_
      refine lv_iload hx hb dX5_changes_23 (lv_at hl 0 rfl) ?_
      refine lv_if_ne (tgt := 32) hx hb dX5_changes_25 (by decide) (fun c_25 => ?_) (fun c_25 => ?_)
      · exact absurd c_25 (by decide)
      · skip
        refine lv_iconst (v := 1) hx hb dX5_changes_28 (by decide) ?_
        refine lv_goto (tgt := 49) hx hb dX5_changes_29 (by decide) ?_
        refine g_callV (As := [.int 1]) (rest := []) (q0 := 0) C0 G (c_X5_holds l D cy (am := am) (mf := mf) (mb := mb) (mv := mv) (th := th) (sv := sv) (X := X) (ln := ln) (ap := ap) (le := le) (fc := fc) (f1 := f1) (f2 := f2) (ha := ha) (R := R) (B := B) (pl := 1) (by omega)) k_X5_holds ml_X5_92 rfl rfl dX5_changes_49 rfl rfl hl.1 (Nat.le_of_ble_eq_true rfl) ⟨Nat.le_of_ble_eq_true rfl, Nat.le_of_ble_eq_true rfl⟩ ⟨Nat.le_of_ble_eq_true rfl, Nat.le_of_ble_eq_true rfl⟩ (fun r W2 H locs hp G => ?_)
        obtain ⟨rfl, hw⟩ := hp
        have G := g_wc hw G
        refine W.eq (g2 := F0 m 52 ls [.int (bI (decide (1 = 0)))]) rfl ?_
        refine lv_if_ne (tgt := 57) hx hb dX5_changes_52 (by decide) (fun c_52 => ?_) (fun c_52 => ?_)
        · skip
          have c_52 : (decide (1 = 0)) = true := bI_t c_52
          exact absurd ((by decide) : (decide (1 = 0)) = false) (by rw [c_52]; decide)
        · skip
          have c_52 : (decide (1 = 0)) = false := bI_f c_52
          refine lv_iconst (v := 0) hx hb dX5_changes_55 (by decide) ?_
          exact g_iret C0 G ⟨by first | rfl | (exfalso; omega) | (simp only [c_4, c_12, c_52, Bool.false_eq_true, ↓reduceIte, eq_self, decide_true, decide_false, not_true_eq_false, not_false_eq_true, Bool.true_and, Bool.false_and, Bool.and_true, Bool.and_false]; done) | (simp [c_4, c_12, c_52]; done) | (simp [c_4, c_12, c_52]; rfl) | (simp [c_4, c_12, c_52]; omega), by first | rfl | (exfalso; omega) | (simp only [c_4, c_12, c_52, Bool.false_eq_true, ↓reduceIte, eq_self, decide_true, decide_false, not_true_eq_false, not_false_eq_true, Bool.true_and, Bool.false_and, Bool.and_true, Bool.and_false]; done) | (simp [c_4, c_12, c_52]; done) | (simp [c_4, c_12, c_52]; rfl) | (simp [c_4, c_12, c_52]; omega)⟩ dX5_changes_56
    · skip
      have c_12 : (inB p1 0 7 && inB p2 0 7) = true := bI_t c_12
      rw [c_4, c_12] at he; exact absurd he (by decide)

set_option maxHeartbeats 4000000 in
set_option maxRecDepth 100000 in
theorem c_X5_changes_e2 (l : Launch) (D : va_G) (cy : Nat → ClassId) (am : Nat → Nat) (mf : Nat → Int64) (mb : Nat → Int64) (mv : Nat → Nat) (th : Int32) (sv : Nat) (X : Nat → Int32) (ln : Nat) (ap : Nat) (le : Nat) (fc : Nat) (f1 : Int32) (f2 : Int32) (ha : Int64) (R : va_W) (B : Nat → Int32) (k : Nat) (i : Nat) (j : Nat) (lo : Bool) (h1 : k < 3) (h2 : i < 8) (h3 : j < 8) (hv : mv k < 4) (hc : ¬ shB1 (mf k) (mb k) (mv k) i j = lo) : GE l D (gts cy) yX5_changes cX5_changes 7 (some .int) 2 0 0 [.ref (am 0), .int (nI k), .int (nI i), .int (nI j), .int (bI lo)] (wM am cy th (cS mf mb mv) sv X ln ap le fc f1 f2 (B) ha R) (gF (some (.int 0)) (wM am cy (nI 2) (cS mf mb mv) sv X ln ap le fc f1 f2 (B) ha R)) := by
  refine g_intro (by decide +kernel) (lv := [(0, .ref (am 0)), (1, .int (nI k)), (2, .int (nI i)), (3, .int (nI j)), (4, .int (bI lo))]) rfl (Nat.le_of_ble_eq_true rfl) ?_
  intro p e s m below meth c C0 G ls hl
  have hx := C0.1
  have hb := C0.2.1
  have hown := C0.2.2.2.2.2.1
  have hts := C0.2.2.2.2.2.2.1
  refine lv_iload_n hx hb dX5_changes_0 rfl (lv_at hl 1 rfl) ?_
  refine g_callS (As := [.int (nI k)]) (rest := []) C0 G (c_X5_isCard l D cy (W1 := wM am cy th (cS mf mb mv) sv X ln ap le fc f1 f2 (B) ha R) (u := nI k) ) k_X5_isCard ml_X5_89 dX5_changes_1 rfl rfl hl.1 (Nat.le_of_ble_eq_true rfl) ⟨Nat.le_of_ble_eq_true rfl, Nat.le_of_ble_eq_true rfl⟩ ⟨Nat.le_of_ble_eq_true rfl, Nat.le_of_ble_eq_true rfl⟩ (fun r W2 H locs hp G => ?_)
  obtain ⟨rfl, hw⟩ := hp
  have G := g_wc hw G
  refine W.eq (g2 := F0 m 4 ls [.int (bI (inB (nI k) 0 2))]) rfl ?_
  refine lv_if_eq (tgt := 19) hx hb dX5_changes_4 (by decide) (fun c_4 => ?_) (fun c_4 => ?_)
  · skip
    have c_4 : (inB (nI k) 0 2) = false := bI_f c_4
    exact absurd ((inB_y (n := 2) (by omega) rfl (by decide)) : (inB (nI k) 0 2) = true) (by rw [c_4]; decide)
  · skip
    have c_4 : (inB (nI k) 0 2) = true := bI_t c_4
    refine lv_iload_n hx hb dX5_changes_7 rfl (lv_at hl 2 rfl) ?_
    refine lv_iload_n hx hb dX5_changes_8 rfl (lv_at hl 3 rfl) ?_
    refine g_callS (As := [.int (nI i), .int (nI j)]) (rest := []) C0 G (c_X5_isCell l D cy (W1 := wM am cy th (cS mf mb mv) sv X ln ap le fc f1 f2 (B) ha R) (u := nI i) (w := nI j) ) k_X5_isCell ml_X5_110 dX5_changes_9 rfl rfl hl.1 (Nat.le_of_ble_eq_true rfl) ⟨Nat.le_of_ble_eq_true rfl, Nat.le_of_ble_eq_true rfl⟩ ⟨Nat.le_of_ble_eq_true rfl, Nat.le_of_ble_eq_true rfl⟩ (fun r W2 H locs hp G => ?_)
    obtain ⟨rfl, hw⟩ := hp
    have G := g_wc hw G
    refine W.eq (g2 := F0 m 12 ls [.int (bI (inB (nI i) 0 7 && inB (nI j) 0 7))]) rfl ?_
    refine lv_if_eq (tgt := 19) hx hb dX5_changes_12 (by decide) (fun c_12 => ?_) (fun c_12 => ?_)
    · skip
      have c_12 : (inB (nI i) 0 7 && inB (nI j) 0 7) = false := bI_f c_12
      exact absurd ((by rw [inB_y (k := i) (n := 7) (hi := 7) (by omega) rfl (by decide), inB_y (k := j) (n := 7) (hi := 7) (by omega) rfl (by decide)]; rfl) : (inB (nI i) 0 7 && inB (nI j) 0 7) = true) (by rw [c_12]; decide)
    · skip
      have c_12 : (inB (nI i) 0 7 && inB (nI j) 0 7) = true := bI_t c_12
      refine lv_iconst (v := 1) hx hb dX5_changes_15 (by decide) ?_
      refine lv_goto (tgt := 20) hx hb dX5_changes_16 (by decide) ?_
      refine lv_istore (lv' := [(5, .int 1), (0, .ref (am 0)), (1, .int (nI k)), (2, .int (nI i)), (3, .int (nI j)), (4, .int (bI lo))]) hx hb dX5_changes_20 hl (by decide) rfl (fun ls hl => ?_)
      refine lv_aload_n hx hb dX5_changes_22 rfl (lv_at hl 1 rfl) ?_
      refine lv_iload hx hb dX5_changes_23 (lv_at hl 0 rfl) ?_
      refine lv_if_ne (tgt := 32) hx hb dX5_changes_25 (by decide) (fun c_25 => ?_) (fun c_25 => ?_)
      · skip
        refine lv_aload_n hx hb dX5_changes_32 rfl (lv_at hl 1 rfl) ?_
        refine lv_iload_n hx hb dX5_changes_33 rfl (lv_at hl 2 rfl) ?_
        refine lv_iload_n hx hb dX5_changes_34 rfl (lv_at hl 3 rfl) ?_
        refine lv_iload_n hx hb dX5_changes_35 rfl (lv_at hl 4 rfl) ?_
        refine g_callV (As := [.int (nI k), .int (nI i), .int (nI j)]) (rest := [.ref (am 0)]) (q0 := 0) C0 G (c_X5_isSeen l D cy (am := am) (mf := mf) (mb := mb) (mv := mv) (th := th) (sv := sv) (X := X) (ln := ln) (ap := ap) (le := le) (fc := fc) (f1 := f1) (f2 := f2) (ha := ha) (R := R) (B := B) (z := k) (row := i) (col := j) (by omega) (by omega) (by omega) hv) k_X5_isSeen ml_X5_54 rfl rfl dX5_changes_36 rfl rfl hl.1 (Nat.le_of_ble_eq_true rfl) ⟨Nat.le_of_ble_eq_true rfl, Nat.le_of_ble_eq_true rfl⟩ ⟨Nat.le_of_ble_eq_true rfl, Nat.le_of_ble_eq_true rfl⟩ (fun r W2 H locs hp G => ?_)
        obtain ⟨rfl, hw⟩ := hp
        have G := g_wc hw G
        refine W.eq (g2 := F0 m 39 ls [.int (bI (shB1 (mf k) (mb k) (mv k) i j)), .ref (am 0)]) rfl ?_
        refine lv_iload hx hb dX5_changes_39 (lv_at hl 5 rfl) ?_
        refine lv_icmp_eq (tgt := 48) hx hb dX5_changes_41 (by decide) (fun c_41 => ?_) (fun c_41 => ?_)
        · skip
          have c_41 : (shB1 (mf k) (mb k) (mv k) i j) = lo := bI_inj c_41
          exact absurd c_41 hc
        · skip
          have c_41 : ¬ (shB1 (mf k) (mb k) (mv k) i j) = lo := fun h => c_41 (congrArg bI h)
          refine lv_iconst (v := 2) hx hb dX5_changes_44 (by decide) ?_
          refine lv_goto (tgt := 49) hx hb dX5_changes_45 (by decide) ?_
          refine g_callV (As := [.int 2]) (rest := []) (q0 := 0) C0 G (c_X5_holds l D cy (am := am) (mf := mf) (mb := mb) (mv := mv) (th := th) (sv := sv) (X := X) (ln := ln) (ap := ap) (le := le) (fc := fc) (f1 := f1) (f2 := f2) (ha := ha) (R := R) (B := B) (pl := 2) (by omega)) k_X5_holds ml_X5_92 rfl rfl dX5_changes_49 rfl rfl hl.1 (Nat.le_of_ble_eq_true rfl) ⟨Nat.le_of_ble_eq_true rfl, Nat.le_of_ble_eq_true rfl⟩ ⟨Nat.le_of_ble_eq_true rfl, Nat.le_of_ble_eq_true rfl⟩ (fun r W2 H locs hp G => ?_)
          obtain ⟨rfl, hw⟩ := hp
          have G := g_wc hw G
          refine W.eq (g2 := F0 m 52 ls [.int (bI (decide (2 = 0)))]) rfl ?_
          refine lv_if_ne (tgt := 57) hx hb dX5_changes_52 (by decide) (fun c_52 => ?_) (fun c_52 => ?_)
          · skip
            have c_52 : (decide (2 = 0)) = true := bI_t c_52
            exact absurd ((by decide) : (decide (2 = 0)) = false) (by rw [c_52]; decide)
          · skip
            have c_52 : (decide (2 = 0)) = false := bI_f c_52
            refine lv_iconst (v := 0) hx hb dX5_changes_55 (by decide) ?_
            exact g_iret C0 G ⟨by first | rfl | (exfalso; omega) | (simp only [c_4, c_12, c_41, c_52, Bool.false_eq_true, ↓reduceIte, eq_self, decide_true, decide_false, not_true_eq_false, not_false_eq_true, Bool.true_and, Bool.false_and, Bool.and_true, Bool.and_false]; done) | (simp [c_4, c_12, c_41, c_52]; done) | (simp [c_4, c_12, c_41, c_52]; rfl) | (simp [c_4, c_12, c_41, c_52]; omega), by first | rfl | (exfalso; omega) | (simp only [c_4, c_12, c_41, c_52, Bool.false_eq_true, ↓reduceIte, eq_self, decide_true, decide_false, not_true_eq_false, not_false_eq_true, Bool.true_and, Bool.false_and, Bool.and_true, Bool.and_false]; done) | (simp [c_4, c_12, c_41, c_52]; done) | (simp [c_4, c_12, c_41, c_52]; rfl) | (simp [c_4, c_12, c_41, c_52]; omega)⟩ dX5_changes_56
      · exact absurd c_25 (by decide)

set_option maxHeartbeats 4000000 in
set_option maxRecDepth 100000 in
theorem c_X5_turn_ok (l : Launch) (D : va_G) (cy : Nat → ClassId) (am : Nat → Nat) (mf : Nat → Int64) (mb : Nat → Int64) (mv : Nat → Nat) (th : Int32) (sv : Nat) (X : Nat → Int32) (ln : Nat) (ap : Nat) (le : Nat) (fc : Nat) (f1 : Int32) (f2 : Int32) (ha : Int64) (R : va_W) (B : Nat → Int32) (k : Nat) (v : Nat) (h1 : k < 3) (h2 : v < 4) (hs : sv ≤ 6) : GE l D (gts cy) yX5_turn cX5_turn 4 (some .int) 2 0 0 [.ref (am 0), .int (nI k), .int (nI v)] (wM am cy th (cS mf mb mv) sv X ln ap le fc f1 f2 (B) ha R) (gF (some (.int (nI ((mSv mv sv) k)))) (wM am cy (nI 0) (cS (mSv mf sv) (mSv mb sv) (va_up (mSv mv sv) k v)) (saK sv) X ln ap le fc f1 f2 (B) ha R)) := by
  refine g_intro (by decide +kernel) (lv := [(0, .ref (am 0)), (1, .int (nI k)), (2, .int (nI v))]) rfl (Nat.le_of_ble_eq_true rfl) ?_
  intro p e s m below meth c C0 G ls hl
  have hx := C0.1
  have hb := C0.2.1
  have hown := C0.2.2.2.2.2.1
  have hts := C0.2.2.2.2.2.2.1
  refine lv_aload_n hx hb dX5_turn_0 rfl (lv_at hl 0 rfl) ?_
  refine lv_iload_n hx hb dX5_turn_1 rfl (lv_at hl 1 rfl) ?_
  refine g_callS (As := [.int (nI k)]) (rest := [.ref (am 0)]) C0 G (c_X5_isCard l D cy (W1 := wM am cy th (cS mf mb mv) sv X ln ap le fc f1 f2 (B) ha R) (u := nI k) ) k_X5_isCard ml_X5_89 dX5_turn_2 rfl rfl hl.1 (Nat.le_of_ble_eq_true rfl) ⟨Nat.le_of_ble_eq_true rfl, Nat.le_of_ble_eq_true rfl⟩ ⟨Nat.le_of_ble_eq_true rfl, Nat.le_of_ble_eq_true rfl⟩ (fun r W2 H locs hp G => ?_)
  obtain ⟨rfl, hw⟩ := hp
  have G := g_wc hw G
  refine W.eq (g2 := F0 m 5 ls [.int (bI (inB (nI k) 0 2)), .ref (am 0)]) rfl ?_
  refine lv_if_ne (tgt := 12) hx hb dX5_turn_5 (by decide) (fun c_5 => ?_) (fun c_5 => ?_)
  · skip
    have c_5 : (inB (nI k) 0 2) = true := bI_t c_5
    refine lv_iload_n hx hb dX5_turn_12 rfl (lv_at hl 2 rfl) ?_
    refine lv_iconst (v := 0) hx hb dX5_turn_13 (by decide) ?_
    refine lv_iconst (v := 3) hx hb dX5_turn_14 (by decide) ?_
    refine g_callS (As := [.int (nI v), .int 0, .int 3]) (rest := [.ref (am 0)]) C0 G (c_X5_in l D cy (W1 := wM am cy th (cS mf mb mv) sv X ln ap le fc f1 f2 (B) ha R) (u := nI v) (lo := (0 : Int32)) (hi := (3 : Int32)) ) k_X5_in ml_X5_27 dX5_turn_15 rfl rfl hl.1 (Nat.le_of_ble_eq_true rfl) ⟨Nat.le_of_ble_eq_true rfl, Nat.le_of_ble_eq_true rfl⟩ ⟨Nat.le_of_ble_eq_true rfl, Nat.le_of_ble_eq_true rfl⟩ (fun r W2 H locs hp G => ?_)
    obtain ⟨rfl, hw⟩ := hp
    have G := g_wc hw G
    refine W.eq (g2 := F0 m 18 ls [.int (bI (inB (nI v) (0 : Int32) (3 : Int32))), .ref (am 0)]) rfl ?_
    refine lv_if_ne (tgt := 25) hx hb dX5_turn_18 (by decide) (fun c_18 => ?_) (fun c_18 => ?_)
    · skip
      have c_18 : (inB (nI v) (0 : Int32) (3 : Int32)) = true := bI_t c_18
      refine lv_iconst (v := 0) hx hb dX5_turn_25 (by decide) ?_
      refine g_callV (As := [.int 0]) (rest := []) (q0 := 0) C0 G (c_X5_holds l D cy (am := am) (mf := mf) (mb := mb) (mv := mv) (th := th) (sv := sv) (X := X) (ln := ln) (ap := ap) (le := le) (fc := fc) (f1 := f1) (f2 := f2) (ha := ha) (R := R) (B := B) (pl := 0) (by omega)) k_X5_holds ml_X5_92 rfl rfl dX5_turn_26 rfl rfl hl.1 (Nat.le_of_ble_eq_true rfl) ⟨Nat.le_of_ble_eq_true rfl, Nat.le_of_ble_eq_true rfl⟩ ⟨Nat.le_of_ble_eq_true rfl, Nat.le_of_ble_eq_true rfl⟩ (fun r W2 H locs hp G => ?_)
      obtain ⟨rfl, hw⟩ := hp
      have G := g_wc hw G
      refine W.eq (g2 := F0 m 29 ls [.int (bI (decide (0 = 0)))]) rfl ?_
      refine lv_if_ne (tgt := 34) hx hb dX5_turn_29 (by decide) (fun c_29 => ?_) (fun c_29 => ?_)
      · skip
        have c_29 : (decide (0 = 0)) = true := bI_t c_29
        refine lv_aload_n hx hb dX5_turn_34 rfl (lv_at hl 0 rfl) ?_
        refine g_callV (As := []) (rest := []) (q0 := 0) C0 G (c_X5_save l D cy (am := am) (mf := mf) (mb := mb) (mv := mv) (th := nI 0) (sv := sv) (X := X) (ln := ln) (ap := ap) (le := le) (fc := fc) (f1 := f1) (f2 := f2) (ha := ha) (R := R) (B := B)  (by omega)) k_X5_save ml_X5_95 rfl rfl dX5_turn_35 rfl rfl hl.1 (Nat.le_of_ble_eq_true rfl) ⟨Nat.le_of_ble_eq_true rfl, Nat.le_of_ble_eq_true rfl⟩ ⟨Nat.le_of_ble_eq_true rfl, Nat.le_of_ble_eq_true rfl⟩ (fun r W2 H locs hp G => ?_)
        obtain ⟨rfl, hw⟩ := hp
        have G := g_wc hw G
        refine W.eq (g2 := F0 m 38 ls []) rfl ?_
        refine lv_aload_n hx hb dX5_turn_38 rfl (lv_at hl 0 rfl) ?_
        refine lv_iload_n hx hb dX5_turn_39 rfl (lv_at hl 1 rfl) ?_
        refine g_callV (As := [.int (nI k)]) (rest := []) (q0 := 0) C0 G (c_X5_viewOf l D cy (am := am) (mf := mSv mf sv) (mb := mSv mb sv) (mv := mSv mv sv) (th := nI 0) (sv := saK sv) (X := X) (ln := ln) (ap := ap) (le := le) (fc := fc) (f1 := f1) (f2 := f2) (ha := ha) (R := R) (B := B) (z := k) (by omega)) k_X5_viewOf ml_X5_39 rfl rfl dX5_turn_40 rfl rfl hl.1 (Nat.le_of_ble_eq_true rfl) ⟨Nat.le_of_ble_eq_true rfl, Nat.le_of_ble_eq_true rfl⟩ ⟨Nat.le_of_ble_eq_true rfl, Nat.le_of_ble_eq_true rfl⟩ (fun r W2 H locs hp G => ?_)
        obtain ⟨rfl, hw⟩ := hp
        have G := g_wc hw G
        refine W.eq (g2 := F0 m 43 ls [.int (nI ((mSv mv sv) k))]) rfl ?_
        refine lv_istore_n (lv' := [(3, .int (nI ((mSv mv sv) k))), (0, .ref (am 0)), (1, .int (nI k)), (2, .int (nI v))]) hx hb dX5_turn_43 rfl hl (by decide) rfl (fun ls hl => ?_)
        refine lv_aload_n hx hb dX5_turn_44 rfl (lv_at hl 1 rfl) ?_
        refine g_get (q0 := 0) (v := .ref (am 1)) C0 G in_X5 rfl rfl 1 (by decide) fl_X5_7 (fun _ h => h) rfl dX5_turn_45 ?_
        refine lv_bipush (v := 65) hx hb dX5_turn_48 (by decide) ?_
        refine lv_iload_n hx hb dX5_turn_50 rfl (lv_at hl 2 rfl) ?_
        refine lv_imul hx hb dX5_turn_51 ?_
        refine g_topi (x' := nI (65 * k)) (pk_mul 65 k) ?_
        refine lv_iload_n hx hb dX5_turn_52 rfl (lv_at hl 3 rfl) ?_
        refine g_iast (q0 := 1) (n := 1365) (W2 := wM am cy (nI 0) (upd (cS (mSv mf sv) (mSv mb sv) (mSv mv sv)) (65 * k) (nI v)) (saK sv) X ln ap le fc f1 f2 (B) ha R) C0 G rfl 1 rfl (vp_in_nI (n := 65 * k) (by omega) (by decide)) (by rw [nI_clamp (n := 65 * k) (by omega)]; rfl) dX5_turn_53 (fun H locs G => ?_)
        have G : gW D (wM am cy (nI 0) (cS (mSv mf sv) (mSv mb sv) (va_up (mSv mv sv) k v)) (saK sv) X ln ap le fc f1 f2 (B) ha R) (va_A (wM am cy th (cS mf mb mv) sv X ln ap le fc f1 f2 (B) ha R) s.heap.size) s H locs := wM_S (fun p hp => cS_put p) G
        refine lv_iload_n hx hb dX5_turn_54 rfl (lv_at hl 0 rfl) ?_
        exact g_iret C0 G ⟨by first | rfl | (exfalso; omega) | (simp only [c_5, c_18, c_29, Bool.false_eq_true, ↓reduceIte, eq_self, decide_true, decide_false, not_true_eq_false, not_false_eq_true, Bool.true_and, Bool.false_and, Bool.and_true, Bool.and_false]; done) | (simp [c_5, c_18, c_29]; done) | (simp [c_5, c_18, c_29]; rfl) | (simp [c_5, c_18, c_29]; omega), by first | rfl | (exfalso; omega) | (simp only [c_5, c_18, c_29, Bool.false_eq_true, ↓reduceIte, eq_self, decide_true, decide_false, not_true_eq_false, not_false_eq_true, Bool.true_and, Bool.false_and, Bool.and_true, Bool.and_false]; done) | (simp [c_5, c_18, c_29]; done) | (simp [c_5, c_18, c_29]; rfl) | (simp [c_5, c_18, c_29]; omega)⟩ dX5_turn_55
      · skip
        have c_29 : (decide (0 = 0)) = false := bI_f c_29
        exact absurd ((by decide) : (decide (0 = 0)) = true) (by rw [c_29]; decide)
    · skip
      have c_18 : (inB (nI v) (0 : Int32) (3 : Int32)) = false := bI_f c_18
      exact absurd ((inB_y (n := 3) (by omega) rfl (by decide)) : (inB (nI v) (0 : Int32) (3 : Int32)) = true) (by rw [c_18]; decide)
  · skip
    have c_5 : (inB (nI k) 0 2) = false := bI_f c_5
    exact absurd ((inB_y (n := 2) (by omega) rfl (by decide)) : (inB (nI k) 0 2) = true) (by rw [c_5]; decide)

set_option maxHeartbeats 4000000 in
set_option maxRecDepth 100000 in
theorem c_X5_turn_e1 (l : Launch) (D : va_G) (cy : Nat → ClassId) (am : Nat → Nat) (mf : Nat → Int64) (mb : Nat → Int64) (mv : Nat → Nat) (th : Int32) (sv : Nat) (X : Nat → Int32) (ln : Nat) (ap : Nat) (le : Nat) (fc : Nat) (f1 : Int32) (f2 : Int32) (ha : Int64) (R : va_W) (B : Nat → Int32) (p0 : Int32) (p1 : Int32) (he : inB p0 0 2 = false) : GE l D (gts cy) yX5_turn cX5_turn 4 (some .int) 2 0 0 [.ref (am 0), .int p0, .int p1] (wM am cy th (cS mf mb mv) sv X ln ap le fc f1 f2 (B) ha R) (gF (some (.int 0)) (wM am cy (nI 1) (cS mf mb mv) sv X ln ap le fc f1 f2 (B) ha R)) := by
  refine g_intro (by decide +kernel) (lv := [(0, .ref (am 0)), (1, .int p0), (2, .int p1)]) rfl (Nat.le_of_ble_eq_true rfl) ?_
  intro p e s m below meth c C0 G ls hl
  have hx := C0.1
  have hb := C0.2.1
  have hown := C0.2.2.2.2.2.1
  have hts := C0.2.2.2.2.2.2.1
  refine lv_aload_n hx hb dX5_turn_0 rfl (lv_at hl 0 rfl) ?_
  refine lv_iload_n hx hb dX5_turn_1 rfl (lv_at hl 1 rfl) ?_
  refine g_callS (As := [.int p0]) (rest := [.ref (am 0)]) C0 G (c_X5_isCard l D cy (W1 := wM am cy th (cS mf mb mv) sv X ln ap le fc f1 f2 (B) ha R) (u := p0) ) k_X5_isCard ml_X5_89 dX5_turn_2 rfl rfl hl.1 (Nat.le_of_ble_eq_true rfl) ⟨Nat.le_of_ble_eq_true rfl, Nat.le_of_ble_eq_true rfl⟩ ⟨Nat.le_of_ble_eq_true rfl, Nat.le_of_ble_eq_true rfl⟩ (fun r W2 H locs hp G => ?_)
  obtain ⟨rfl, hw⟩ := hp
  have G := g_wc hw G
  refine W.eq (g2 := F0 m 5 ls [.int (bI (inB p0 0 2)), .ref (am 0)]) rfl ?_
  refine lv_if_ne (tgt := 12) hx hb dX5_turn_5 (by decide) (fun c_5 => ?_) (fun c_5 => ?_)
  · skip
    have c_5 : (inB p0 0 2) = true := bI_t c_5
    exact absurd (he : (inB p0 0 2) = false) (by rw [c_5]; decide)
  · skip
    have c_5 : (inB p0 0 2) = false := bI_f c_5
    refine lv_iconst (v := 1) hx hb dX5_turn_8 (by decide) ?_
    refine lv_goto (tgt := 26) hx hb dX5_turn_9 (by decide) ?_
    refine g_callV (As := [.int 1]) (rest := []) (q0 := 0) C0 G (c_X5_holds l D cy (am := am) (mf := mf) (mb := mb) (mv := mv) (th := th) (sv := sv) (X := X) (ln := ln) (ap := ap) (le := le) (fc := fc) (f1 := f1) (f2 := f2) (ha := ha) (R := R) (B := B) (pl := 1) (by omega)) k_X5_holds ml_X5_92 rfl rfl dX5_turn_26 rfl rfl hl.1 (Nat.le_of_ble_eq_true rfl) ⟨Nat.le_of_ble_eq_true rfl, Nat.le_of_ble_eq_true rfl⟩ ⟨Nat.le_of_ble_eq_true rfl, Nat.le_of_ble_eq_true rfl⟩ (fun r W2 H locs hp G => ?_)
    obtain ⟨rfl, hw⟩ := hp
    have G := g_wc hw G
    refine W.eq (g2 := F0 m 29 ls [.int (bI (decide (1 = 0)))]) rfl ?_
    refine lv_if_ne (tgt := 34) hx hb dX5_turn_29 (by decide) (fun c_29 => ?_) (fun c_29 => ?_)
    · skip
      have c_29 : (decide (1 = 0)) = true := bI_t c_29
      exact absurd ((by decide) : (decide (1 = 0)) = false) (by rw [c_29]; decide)
    · skip
      have c_29 : (decide (1 = 0)) = false := bI_f c_29
      refine lv_iconst (v := 0) hx hb dX5_turn_32 (by decide) ?_
      exact g_iret C0 G ⟨by first | rfl | (exfalso; omega) | (simp only [c_5, c_29, Bool.false_eq_true, ↓reduceIte, eq_self, decide_true, decide_false, not_true_eq_false, not_false_eq_true, Bool.true_and, Bool.false_and, Bool.and_true, Bool.and_false]; done) | (simp [c_5, c_29]; done) | (simp [c_5, c_29]; rfl) | (simp [c_5, c_29]; omega), by first | rfl | (exfalso; omega) | (simp only [c_5, c_29, Bool.false_eq_true, ↓reduceIte, eq_self, decide_true, decide_false, not_true_eq_false, not_false_eq_true, Bool.true_and, Bool.false_and, Bool.and_true, Bool.and_false]; done) | (simp [c_5, c_29]; done) | (simp [c_5, c_29]; rfl) | (simp [c_5, c_29]; omega)⟩ dX5_turn_33

set_option maxHeartbeats 4000000 in
set_option maxRecDepth 100000 in
theorem c_X5_turn_e2 (l : Launch) (D : va_G) (cy : Nat → ClassId) (am : Nat → Nat) (mf : Nat → Int64) (mb : Nat → Int64) (mv : Nat → Nat) (th : Int32) (sv : Nat) (X : Nat → Int32) (ln : Nat) (ap : Nat) (le : Nat) (fc : Nat) (f1 : Int32) (f2 : Int32) (ha : Int64) (R : va_W) (B : Nat → Int32) (k : Nat) (p1 : Int32) (h1 : k < 3) (he : inB p1 (0 : Int32) (3 : Int32) = false) : GE l D (gts cy) yX5_turn cX5_turn 4 (some .int) 2 0 0 [.ref (am 0), .int (nI k), .int p1] (wM am cy th (cS mf mb mv) sv X ln ap le fc f1 f2 (B) ha R) (gF (some (.int 0)) (wM am cy (nI 2) (cS mf mb mv) sv X ln ap le fc f1 f2 (B) ha R)) := by
  refine g_intro (by decide +kernel) (lv := [(0, .ref (am 0)), (1, .int (nI k)), (2, .int p1)]) rfl (Nat.le_of_ble_eq_true rfl) ?_
  intro p e s m below meth c C0 G ls hl
  have hx := C0.1
  have hb := C0.2.1
  have hown := C0.2.2.2.2.2.1
  have hts := C0.2.2.2.2.2.2.1
  refine lv_aload_n hx hb dX5_turn_0 rfl (lv_at hl 0 rfl) ?_
  refine lv_iload_n hx hb dX5_turn_1 rfl (lv_at hl 1 rfl) ?_
  refine g_callS (As := [.int (nI k)]) (rest := [.ref (am 0)]) C0 G (c_X5_isCard l D cy (W1 := wM am cy th (cS mf mb mv) sv X ln ap le fc f1 f2 (B) ha R) (u := nI k) ) k_X5_isCard ml_X5_89 dX5_turn_2 rfl rfl hl.1 (Nat.le_of_ble_eq_true rfl) ⟨Nat.le_of_ble_eq_true rfl, Nat.le_of_ble_eq_true rfl⟩ ⟨Nat.le_of_ble_eq_true rfl, Nat.le_of_ble_eq_true rfl⟩ (fun r W2 H locs hp G => ?_)
  obtain ⟨rfl, hw⟩ := hp
  have G := g_wc hw G
  refine W.eq (g2 := F0 m 5 ls [.int (bI (inB (nI k) 0 2)), .ref (am 0)]) rfl ?_
  refine lv_if_ne (tgt := 12) hx hb dX5_turn_5 (by decide) (fun c_5 => ?_) (fun c_5 => ?_)
  · skip
    have c_5 : (inB (nI k) 0 2) = true := bI_t c_5
    refine lv_iload_n hx hb dX5_turn_12 rfl (lv_at hl 2 rfl) ?_
    refine lv_iconst (v := 0) hx hb dX5_turn_13 (by decide) ?_
    refine lv_iconst (v := 3) hx hb dX5_turn_14 (by decide) ?_
    refine g_callS (As := [.int p1, .int 0, .int 3]) (rest := [.ref (am 0)]) C0 G (c_X5_in l D cy (W1 := wM am cy th (cS mf mb mv) sv X ln ap le fc f1 f2 (B) ha R) (u := p1) (lo := (0 : Int32)) (hi := (3 : Int32)) ) k_X5_in ml_X5_27 dX5_turn_15 rfl rfl hl.1 (Nat.le_of_ble_eq_true rfl) ⟨Nat.le_of_ble_eq_true rfl, Nat.le_of_ble_eq_true rfl⟩ ⟨Nat.le_of_ble_eq_true rfl, Nat.le_of_ble_eq_true rfl⟩ (fun r W2 H locs hp G => ?_)
    obtain ⟨rfl, hw⟩ := hp
    have G := g_wc hw G
    refine W.eq (g2 := F0 m 18 ls [.int (bI (inB p1 (0 : Int32) (3 : Int32))), .ref (am 0)]) rfl ?_
    refine lv_if_ne (tgt := 25) hx hb dX5_turn_18 (by decide) (fun c_18 => ?_) (fun c_18 => ?_)
    · skip
      have c_18 : (inB p1 (0 : Int32) (3 : Int32)) = true := bI_t c_18
      exact absurd (he : (inB p1 (0 : Int32) (3 : Int32)) = false) (by rw [c_18]; decide)
    · skip
      have c_18 : (inB p1 (0 : Int32) (3 : Int32)) = false := bI_f c_18
      refine lv_iconst (v := 2) hx hb dX5_turn_21 (by decide) ?_
      refine lv_goto (tgt := 26) hx hb dX5_turn_22 (by decide) ?_
      refine g_callV (As := [.int 2]) (rest := []) (q0 := 0) C0 G (c_X5_holds l D cy (am := am) (mf := mf) (mb := mb) (mv := mv) (th := th) (sv := sv) (X := X) (ln := ln) (ap := ap) (le := le) (fc := fc) (f1 := f1) (f2 := f2) (ha := ha) (R := R) (B := B) (pl := 2) (by omega)) k_X5_holds ml_X5_92 rfl rfl dX5_turn_26 rfl rfl hl.1 (Nat.le_of_ble_eq_true rfl) ⟨Nat.le_of_ble_eq_true rfl, Nat.le_of_ble_eq_true rfl⟩ ⟨Nat.le_of_ble_eq_true rfl, Nat.le_of_ble_eq_true rfl⟩ (fun r W2 H locs hp G => ?_)
      obtain ⟨rfl, hw⟩ := hp
      have G := g_wc hw G
      refine W.eq (g2 := F0 m 29 ls [.int (bI (decide (2 = 0)))]) rfl ?_
      refine lv_if_ne (tgt := 34) hx hb dX5_turn_29 (by decide) (fun c_29 => ?_) (fun c_29 => ?_)
      · skip
        have c_29 : (decide (2 = 0)) = true := bI_t c_29
        exact absurd ((by decide) : (decide (2 = 0)) = false) (by rw [c_29]; decide)
      · skip
        have c_29 : (decide (2 = 0)) = false := bI_f c_29
        refine lv_iconst (v := 0) hx hb dX5_turn_32 (by decide) ?_
        exact g_iret C0 G ⟨by first | rfl | (exfalso; omega) | (simp only [c_5, c_18, c_29, Bool.false_eq_true, ↓reduceIte, eq_self, decide_true, decide_false, not_true_eq_false, not_false_eq_true, Bool.true_and, Bool.false_and, Bool.and_true, Bool.and_false]; done) | (simp [c_5, c_18, c_29]; done) | (simp [c_5, c_18, c_29]; rfl) | (simp [c_5, c_18, c_29]; omega), by first | rfl | (exfalso; omega) | (simp only [c_5, c_18, c_29, Bool.false_eq_true, ↓reduceIte, eq_self, decide_true, decide_false, not_true_eq_false, not_false_eq_true, Bool.true_and, Bool.false_and, Bool.and_true, Bool.and_false]; done) | (simp [c_5, c_18, c_29]; done) | (simp [c_5, c_18, c_29]; rfl) | (simp [c_5, c_18, c_29]; omega)⟩ dX5_turn_33
  · skip
    have c_5 : (inB (nI k) 0 2) = false := bI_f c_5
    exact absurd ((inB_y (n := 2) (by omega) rfl (by decide)) : (inB (nI k) 0 2) = true) (by rw [c_5]; decide)

set_option maxHeartbeats 4000000 in
set_option maxRecDepth 100000 in
theorem c_X5_view_ok (l : Launch) (D : va_G) (cy : Nat → ClassId) (am : Nat → Nat) (mf : Nat → Int64) (mb : Nat → Int64) (mv : Nat → Nat) (th : Int32) (sv : Nat) (X : Nat → Int32) (ln : Nat) (ap : Nat) (le : Nat) (fc : Nat) (f1 : Int32) (f2 : Int32) (ha : Int64) (R : va_W) (B : Nat → Int32) (k : Nat) (h1 : k < 3) : GE l D (gts cy) yX5_view cX5_view 2 (some .int) 2 0 0 [.ref (am 0), .int (nI k)] (wM am cy th (cS mf mb mv) sv X ln ap le fc f1 f2 (B) ha R) (gF (some (.int (nI (mv k)))) (wM am cy (nI 0) (cS mf mb mv) sv X ln ap le fc f1 f2 (B) ha R)) := by
  refine g_intro (by decide +kernel) (lv := [(0, .ref (am 0)), (1, .int (nI k))]) rfl (Nat.le_of_ble_eq_true rfl) ?_
  intro p e s m below meth c C0 G ls hl
  have hx := C0.1
  have hb := C0.2.1
  have hown := C0.2.2.2.2.2.1
  have hts := C0.2.2.2.2.2.2.1
  refine lv_aload_n hx hb dX5_view_0 rfl (lv_at hl 0 rfl) ?_
  refine lv_iload_n hx hb dX5_view_1 rfl (lv_at hl 1 rfl) ?_
  refine g_callS (As := [.int (nI k)]) (rest := [.ref (am 0)]) C0 G (c_X5_isCard l D cy (W1 := wM am cy th (cS mf mb mv) sv X ln ap le fc f1 f2 (B) ha R) (u := nI k) ) k_X5_isCard ml_X5_89 dX5_view_2 rfl rfl hl.1 (Nat.le_of_ble_eq_true rfl) ⟨Nat.le_of_ble_eq_true rfl, Nat.le_of_ble_eq_true rfl⟩ ⟨Nat.le_of_ble_eq_true rfl, Nat.le_of_ble_eq_true rfl⟩ (fun r W2 H locs hp G => ?_)
  obtain ⟨rfl, hw⟩ := hp
  have G := g_wc hw G
  refine W.eq (g2 := F0 m 5 ls [.int (bI (inB (nI k) 0 2)), .ref (am 0)]) rfl ?_
  refine lv_if_eq (tgt := 12) hx hb dX5_view_5 (by decide) (fun c_5 => ?_) (fun c_5 => ?_)
  · skip
    have c_5 : (inB (nI k) 0 2) = false := bI_f c_5
    exact absurd ((inB_y (n := 2) (by omega) rfl (by decide)) : (inB (nI k) 0 2) = true) (by rw [c_5]; decide)
  · skip
    have c_5 : (inB (nI k) 0 2) = true := bI_t c_5
    refine lv_iconst (v := 0) hx hb dX5_view_8 (by decide) ?_
    refine lv_goto (tgt := 13) hx hb dX5_view_9 (by decide) ?_
    refine g_callV (As := [.int 0]) (rest := []) (q0 := 0) C0 G (c_X5_holds l D cy (am := am) (mf := mf) (mb := mb) (mv := mv) (th := th) (sv := sv) (X := X) (ln := ln) (ap := ap) (le := le) (fc := fc) (f1 := f1) (f2 := f2) (ha := ha) (R := R) (B := B) (pl := 0) (by omega)) k_X5_holds ml_X5_92 rfl rfl dX5_view_13 rfl rfl hl.1 (Nat.le_of_ble_eq_true rfl) ⟨Nat.le_of_ble_eq_true rfl, Nat.le_of_ble_eq_true rfl⟩ ⟨Nat.le_of_ble_eq_true rfl, Nat.le_of_ble_eq_true rfl⟩ (fun r W2 H locs hp G => ?_)
    obtain ⟨rfl, hw⟩ := hp
    have G := g_wc hw G
    refine W.eq (g2 := F0 m 16 ls [.int (bI (decide (0 = 0)))]) rfl ?_
    refine lv_if_eq (tgt := 27) hx hb dX5_view_16 (by decide) (fun c_16 => ?_) (fun c_16 => ?_)
    · skip
      have c_16 : (decide (0 = 0)) = false := bI_f c_16
      exact absurd ((by decide) : (decide (0 = 0)) = true) (by rw [c_16]; decide)
    · skip
      have c_16 : (decide (0 = 0)) = true := bI_t c_16
      refine lv_aload_n hx hb dX5_view_19 rfl (lv_at hl 0 rfl) ?_
      refine lv_iload_n hx hb dX5_view_20 rfl (lv_at hl 1 rfl) ?_
      refine g_callV (As := [.int (nI k)]) (rest := []) (q0 := 0) C0 G (c_X5_viewOf l D cy (am := am) (mf := mf) (mb := mb) (mv := mv) (th := nI 0) (sv := sv) (X := X) (ln := ln) (ap := ap) (le := le) (fc := fc) (f1 := f1) (f2 := f2) (ha := ha) (R := R) (B := B) (z := k) (by omega)) k_X5_viewOf ml_X5_39 rfl rfl dX5_view_21 rfl rfl hl.1 (Nat.le_of_ble_eq_true rfl) ⟨Nat.le_of_ble_eq_true rfl, Nat.le_of_ble_eq_true rfl⟩ ⟨Nat.le_of_ble_eq_true rfl, Nat.le_of_ble_eq_true rfl⟩ (fun r W2 H locs hp G => ?_)
      obtain ⟨rfl, hw⟩ := hp
      have G := g_wc hw G
      refine W.eq (g2 := F0 m 24 ls [.int (nI (mv k))]) rfl ?_
      refine lv_goto (tgt := 28) hx hb dX5_view_24 (by decide) ?_
      exact g_iret C0 G ⟨by first | rfl | (exfalso; omega) | (simp only [c_5, c_16, Bool.false_eq_true, ↓reduceIte, eq_self, decide_true, decide_false, not_true_eq_false, not_false_eq_true, Bool.true_and, Bool.false_and, Bool.and_true, Bool.and_false]; done) | (simp [c_5, c_16]; done) | (simp [c_5, c_16]; rfl) | (simp [c_5, c_16]; omega), by first | rfl | (exfalso; omega) | (simp only [c_5, c_16, Bool.false_eq_true, ↓reduceIte, eq_self, decide_true, decide_false, not_true_eq_false, not_false_eq_true, Bool.true_and, Bool.false_and, Bool.and_true, Bool.and_false]; done) | (simp [c_5, c_16]; done) | (simp [c_5, c_16]; rfl) | (simp [c_5, c_16]; omega)⟩ dX5_view_28

set_option maxHeartbeats 4000000 in
set_option maxRecDepth 100000 in
theorem c_X5_view_e1 (l : Launch) (D : va_G) (cy : Nat → ClassId) (am : Nat → Nat) (mf : Nat → Int64) (mb : Nat → Int64) (mv : Nat → Nat) (th : Int32) (sv : Nat) (X : Nat → Int32) (ln : Nat) (ap : Nat) (le : Nat) (fc : Nat) (f1 : Int32) (f2 : Int32) (ha : Int64) (R : va_W) (B : Nat → Int32) (p0 : Int32) (he : inB p0 0 2 = false) : GE l D (gts cy) yX5_view cX5_view 2 (some .int) 2 0 0 [.ref (am 0), .int p0] (wM am cy th (cS mf mb mv) sv X ln ap le fc f1 f2 (B) ha R) (gF (some (.int 0)) (wM am cy (nI 1) (cS mf mb mv) sv X ln ap le fc f1 f2 (B) ha R)) := by
  refine g_intro (by decide +kernel) (lv := [(0, .ref (am 0)), (1, .int p0)]) rfl (Nat.le_of_ble_eq_true rfl) ?_
  intro p e s m below meth c C0 G ls hl
  have hx := C0.1
  have hb := C0.2.1
  have hown := C0.2.2.2.2.2.1
  have hts := C0.2.2.2.2.2.2.1
  refine lv_aload_n hx hb dX5_view_0 rfl (lv_at hl 0 rfl) ?_
  refine lv_iload_n hx hb dX5_view_1 rfl (lv_at hl 1 rfl) ?_
  refine g_callS (As := [.int p0]) (rest := [.ref (am 0)]) C0 G (c_X5_isCard l D cy (W1 := wM am cy th (cS mf mb mv) sv X ln ap le fc f1 f2 (B) ha R) (u := p0) ) k_X5_isCard ml_X5_89 dX5_view_2 rfl rfl hl.1 (Nat.le_of_ble_eq_true rfl) ⟨Nat.le_of_ble_eq_true rfl, Nat.le_of_ble_eq_true rfl⟩ ⟨Nat.le_of_ble_eq_true rfl, Nat.le_of_ble_eq_true rfl⟩ (fun r W2 H locs hp G => ?_)
  obtain ⟨rfl, hw⟩ := hp
  have G := g_wc hw G
  refine W.eq (g2 := F0 m 5 ls [.int (bI (inB p0 0 2)), .ref (am 0)]) rfl ?_
  refine lv_if_eq (tgt := 12) hx hb dX5_view_5 (by decide) (fun c_5 => ?_) (fun c_5 => ?_)
  · skip
    have c_5 : (inB p0 0 2) = false := bI_f c_5
    refine lv_iconst (v := 1) hx hb dX5_view_12 (by decide) ?_
    refine g_callV (As := [.int 1]) (rest := []) (q0 := 0) C0 G (c_X5_holds l D cy (am := am) (mf := mf) (mb := mb) (mv := mv) (th := th) (sv := sv) (X := X) (ln := ln) (ap := ap) (le := le) (fc := fc) (f1 := f1) (f2 := f2) (ha := ha) (R := R) (B := B) (pl := 1) (by omega)) k_X5_holds ml_X5_92 rfl rfl dX5_view_13 rfl rfl hl.1 (Nat.le_of_ble_eq_true rfl) ⟨Nat.le_of_ble_eq_true rfl, Nat.le_of_ble_eq_true rfl⟩ ⟨Nat.le_of_ble_eq_true rfl, Nat.le_of_ble_eq_true rfl⟩ (fun r W2 H locs hp G => ?_)
    obtain ⟨rfl, hw⟩ := hp
    have G := g_wc hw G
    refine W.eq (g2 := F0 m 16 ls [.int (bI (decide (1 = 0)))]) rfl ?_
    refine lv_if_eq (tgt := 27) hx hb dX5_view_16 (by decide) (fun c_16 => ?_) (fun c_16 => ?_)
    · skip
      have c_16 : (decide (1 = 0)) = false := bI_f c_16
      refine lv_iconst (v := 0) hx hb dX5_view_27 (by decide) ?_
      exact g_iret C0 G ⟨by first | rfl | (exfalso; omega) | (simp only [c_5, c_16, Bool.false_eq_true, ↓reduceIte, eq_self, decide_true, decide_false, not_true_eq_false, not_false_eq_true, Bool.true_and, Bool.false_and, Bool.and_true, Bool.and_false]; done) | (simp [c_5, c_16]; done) | (simp [c_5, c_16]; rfl) | (simp [c_5, c_16]; omega), by first | rfl | (exfalso; omega) | (simp only [c_5, c_16, Bool.false_eq_true, ↓reduceIte, eq_self, decide_true, decide_false, not_true_eq_false, not_false_eq_true, Bool.true_and, Bool.false_and, Bool.and_true, Bool.and_false]; done) | (simp [c_5, c_16]; done) | (simp [c_5, c_16]; rfl) | (simp [c_5, c_16]; omega)⟩ dX5_view_28
    · skip
      have c_16 : (decide (1 = 0)) = true := bI_t c_16
      exact absurd ((by decide) : (decide (1 = 0)) = false) (by rw [c_16]; decide)
  · skip
    have c_5 : (inB p0 0 2) = true := bI_t c_5
    exact absurd (he : (inB p0 0 2) = false) (by rw [c_5]; decide)

set_option maxHeartbeats 4000000 in
set_option maxRecDepth 100000 in
theorem c_X5_untold_e1 (l : Launch) (D : va_G) (cy : Nat → ClassId) (am : Nat → Nat) (mf : Nat → Int64) (mb : Nat → Int64) (mv : Nat → Nat) (th : Int32) (sv : Nat) (X : Nat → Int32) (ln : Nat) (ap : Nat) (le : Nat) (fc : Nat) (f1 : Int32) (f2 : Int32) (ha : Int64) (R : va_W) (B : Nat → Int32) (p0 : Int32) (he : inB p0 0 2 = false) : GE l D (gts cy) yX5_untold cX5_untold 2 (some .int) 4 0 0 [.ref (am 0), .int p0] (wM am cy th (cS mf mb mv) sv X ln ap le fc f1 f2 (B) ha R) (gF (some (.int 0)) (wM am cy (nI 1) (cS mf mb mv) sv X ln ap le fc f1 f2 (B) ha R)) := by
  refine g_intro (by decide +kernel) (lv := [(0, .ref (am 0)), (1, .int p0)]) rfl (Nat.le_of_ble_eq_true rfl) ?_
  intro p e s m below meth c C0 G ls hl
  have hx := C0.1
  have hb := C0.2.1
  have hown := C0.2.2.2.2.2.1
  have hts := C0.2.2.2.2.2.2.1
  refine lv_aload_n hx hb dX5_untold_0 rfl (lv_at hl 0 rfl) ?_
  refine lv_iload_n hx hb dX5_untold_1 rfl (lv_at hl 1 rfl) ?_
  refine g_callS (As := [.int p0]) (rest := [.ref (am 0)]) C0 G (c_X5_isCard l D cy (W1 := wM am cy th (cS mf mb mv) sv X ln ap le fc f1 f2 (B) ha R) (u := p0) ) k_X5_isCard ml_X5_89 dX5_untold_2 rfl rfl hl.1 (Nat.le_of_ble_eq_true rfl) ⟨Nat.le_of_ble_eq_true rfl, Nat.le_of_ble_eq_true rfl⟩ ⟨Nat.le_of_ble_eq_true rfl, Nat.le_of_ble_eq_true rfl⟩ (fun r W2 H locs hp G => ?_)
  obtain ⟨rfl, hw⟩ := hp
  have G := g_wc hw G
  refine W.eq (g2 := F0 m 5 ls [.int (bI (inB p0 0 2)), .ref (am 0)]) rfl ?_
  refine lv_if_eq (tgt := 12) hx hb dX5_untold_5 (by decide) (fun c_5 => ?_) (fun c_5 => ?_)
  · skip
    have c_5 : (inB p0 0 2) = false := bI_f c_5
    refine lv_iconst (v := 1) hx hb dX5_untold_12 (by decide) ?_
    refine g_callV (As := [.int 1]) (rest := []) (q0 := 0) C0 G (c_X5_holds l D cy (am := am) (mf := mf) (mb := mb) (mv := mv) (th := th) (sv := sv) (X := X) (ln := ln) (ap := ap) (le := le) (fc := fc) (f1 := f1) (f2 := f2) (ha := ha) (R := R) (B := B) (pl := 1) (by omega)) k_X5_holds ml_X5_92 rfl rfl dX5_untold_13 rfl rfl hl.1 (Nat.le_of_ble_eq_true rfl) ⟨Nat.le_of_ble_eq_true rfl, Nat.le_of_ble_eq_true rfl⟩ ⟨Nat.le_of_ble_eq_true rfl, Nat.le_of_ble_eq_true rfl⟩ (fun r W2 H locs hp G => ?_)
    obtain ⟨rfl, hw⟩ := hp
    have G := g_wc hw G
    refine W.eq (g2 := F0 m 16 ls [.int (bI (decide (1 = 0)))]) rfl ?_
    refine lv_if_eq (tgt := 28) hx hb dX5_untold_16 (by decide) (fun c_16 => ?_) (fun c_16 => ?_)
    · skip
      have c_16 : (decide (1 = 0)) = false := bI_f c_16
      refine lv_iconst (v := 0) hx hb dX5_untold_28 (by decide) ?_
      exact g_iret C0 G ⟨by first | rfl | (exfalso; omega) | (simp only [c_5, c_16, Bool.false_eq_true, ↓reduceIte, eq_self, decide_true, decide_false, not_true_eq_false, not_false_eq_true, Bool.true_and, Bool.false_and, Bool.and_true, Bool.and_false]; done) | (simp [c_5, c_16]; done) | (simp [c_5, c_16]; rfl) | (simp [c_5, c_16]; omega), by first | rfl | (exfalso; omega) | (simp only [c_5, c_16, Bool.false_eq_true, ↓reduceIte, eq_self, decide_true, decide_false, not_true_eq_false, not_false_eq_true, Bool.true_and, Bool.false_and, Bool.and_true, Bool.and_false]; done) | (simp [c_5, c_16]; done) | (simp [c_5, c_16]; rfl) | (simp [c_5, c_16]; omega)⟩ dX5_untold_29
    · skip
      have c_16 : (decide (1 = 0)) = true := bI_t c_16
      exact absurd ((by decide) : (decide (1 = 0)) = false) (by rw [c_16]; decide)
  · skip
    have c_5 : (inB p0 0 2) = true := bI_t c_5
    exact absurd (he : (inB p0 0 2) = false) (by rw [c_5]; decide)

set_option maxHeartbeats 4000000 in
set_option maxRecDepth 100000 in
theorem c_X5_disagreements_e1 (l : Launch) (D : va_G) (cy : Nat → ClassId) (am : Nat → Nat) (mf : Nat → Int64) (mb : Nat → Int64) (mv : Nat → Nat) (th : Int32) (sv : Nat) (X : Nat → Int32) (ln : Nat) (ap : Nat) (le : Nat) (fc : Nat) (f1 : Int32) (f2 : Int32) (ha : Int64) (R : va_W) (B : Nat → Int32) (p0 : Int32) (he : inB p0 0 2 = false) : GE l D (gts cy) yX5_disagreements cX5_disagreements 2 (some .int) 5 0 0 [.ref (am 0), .int p0] (wM am cy th (cS mf mb mv) sv X ln ap le fc f1 f2 (B) ha R) (gF (some (.int 0)) (wM am cy (nI 1) (cS mf mb mv) sv X ln ap le fc f1 f2 (B) ha R)) := by
  refine g_intro (by decide +kernel) (lv := [(0, .ref (am 0)), (1, .int p0)]) rfl (Nat.le_of_ble_eq_true rfl) ?_
  intro p e s m below meth c C0 G ls hl
  have hx := C0.1
  have hb := C0.2.1
  have hown := C0.2.2.2.2.2.1
  have hts := C0.2.2.2.2.2.2.1
  refine lv_aload_n hx hb dX5_disagreements_0 rfl (lv_at hl 0 rfl) ?_
  refine lv_iload_n hx hb dX5_disagreements_1 rfl (lv_at hl 1 rfl) ?_
  refine g_callS (As := [.int p0]) (rest := [.ref (am 0)]) C0 G (c_X5_isCard l D cy (W1 := wM am cy th (cS mf mb mv) sv X ln ap le fc f1 f2 (B) ha R) (u := p0) ) k_X5_isCard ml_X5_89 dX5_disagreements_2 rfl rfl hl.1 (Nat.le_of_ble_eq_true rfl) ⟨Nat.le_of_ble_eq_true rfl, Nat.le_of_ble_eq_true rfl⟩ ⟨Nat.le_of_ble_eq_true rfl, Nat.le_of_ble_eq_true rfl⟩ (fun r W2 H locs hp G => ?_)
  obtain ⟨rfl, hw⟩ := hp
  have G := g_wc hw G
  refine W.eq (g2 := F0 m 5 ls [.int (bI (inB p0 0 2)), .ref (am 0)]) rfl ?_
  refine lv_if_eq (tgt := 12) hx hb dX5_disagreements_5 (by decide) (fun c_5 => ?_) (fun c_5 => ?_)
  · skip
    have c_5 : (inB p0 0 2) = false := bI_f c_5
    refine lv_iconst (v := 1) hx hb dX5_disagreements_12 (by decide) ?_
    refine g_callV (As := [.int 1]) (rest := []) (q0 := 0) C0 G (c_X5_holds l D cy (am := am) (mf := mf) (mb := mb) (mv := mv) (th := th) (sv := sv) (X := X) (ln := ln) (ap := ap) (le := le) (fc := fc) (f1 := f1) (f2 := f2) (ha := ha) (R := R) (B := B) (pl := 1) (by omega)) k_X5_holds ml_X5_92 rfl rfl dX5_disagreements_13 rfl rfl hl.1 (Nat.le_of_ble_eq_true rfl) ⟨Nat.le_of_ble_eq_true rfl, Nat.le_of_ble_eq_true rfl⟩ ⟨Nat.le_of_ble_eq_true rfl, Nat.le_of_ble_eq_true rfl⟩ (fun r W2 H locs hp G => ?_)
    obtain ⟨rfl, hw⟩ := hp
    have G := g_wc hw G
    refine W.eq (g2 := F0 m 16 ls [.int (bI (decide (1 = 0)))]) rfl ?_
    refine lv_if_eq (tgt := 27) hx hb dX5_disagreements_16 (by decide) (fun c_16 => ?_) (fun c_16 => ?_)
    · skip
      have c_16 : (decide (1 = 0)) = false := bI_f c_16
      refine lv_iconst (v := 0) hx hb dX5_disagreements_27 (by decide) ?_
      exact g_iret C0 G ⟨by first | rfl | (exfalso; omega) | (simp only [c_5, c_16, Bool.false_eq_true, ↓reduceIte, eq_self, decide_true, decide_false, not_true_eq_false, not_false_eq_true, Bool.true_and, Bool.false_and, Bool.and_true, Bool.and_false]; done) | (simp [c_5, c_16]; done) | (simp [c_5, c_16]; rfl) | (simp [c_5, c_16]; omega), by first | rfl | (exfalso; omega) | (simp only [c_5, c_16, Bool.false_eq_true, ↓reduceIte, eq_self, decide_true, decide_false, not_true_eq_false, not_false_eq_true, Bool.true_and, Bool.false_and, Bool.and_true, Bool.and_false]; done) | (simp [c_5, c_16]; done) | (simp [c_5, c_16]; rfl) | (simp [c_5, c_16]; omega)⟩ dX5_disagreements_28
    · skip
      have c_16 : (decide (1 = 0)) = true := bI_t c_16
      exact absurd ((by decide) : (decide (1 = 0)) = false) (by rw [c_16]; decide)
  · skip
    have c_5 : (inB p0 0 2) = true := bI_t c_5
    exact absurd (he : (inB p0 0 2) = false) (by rw [c_5]; decide)

set_option maxHeartbeats 4000000 in
set_option maxRecDepth 100000 in
theorem c_X5_worst_e1 (l : Launch) (D : va_G) (cy : Nat → ClassId) (am : Nat → Nat) (mf : Nat → Int64) (mb : Nat → Int64) (mv : Nat → Nat) (th : Int32) (sv : Nat) (X : Nat → Int32) (ln : Nat) (ap : Nat) (le : Nat) (fc : Nat) (f1 : Int32) (f2 : Int32) (ha : Int64) (R : va_W) (B : Nat → Int32) (p0 : Int32) (he : inB p0 0 2 = false) : GE l D (gts cy) yX5_worst cX5_worst 2 (some .int) 6 0 0 [.ref (am 0), .int p0] (wM am cy th (cS mf mb mv) sv X ln ap le fc f1 f2 (B) ha R) (gF (some (.int 0)) (wM am cy (nI 1) (cS mf mb mv) sv X ln ap le fc f1 f2 (B) ha R)) := by
  refine g_intro (by decide +kernel) (lv := [(0, .ref (am 0)), (1, .int p0)]) rfl (Nat.le_of_ble_eq_true rfl) ?_
  intro p e s m below meth c C0 G ls hl
  have hx := C0.1
  have hb := C0.2.1
  have hown := C0.2.2.2.2.2.1
  have hts := C0.2.2.2.2.2.2.1
  refine lv_aload_n hx hb dX5_worst_0 rfl (lv_at hl 0 rfl) ?_
  refine lv_iload_n hx hb dX5_worst_1 rfl (lv_at hl 1 rfl) ?_
  refine g_callS (As := [.int p0]) (rest := [.ref (am 0)]) C0 G (c_X5_isCard l D cy (W1 := wM am cy th (cS mf mb mv) sv X ln ap le fc f1 f2 (B) ha R) (u := p0) ) k_X5_isCard ml_X5_89 dX5_worst_2 rfl rfl hl.1 (Nat.le_of_ble_eq_true rfl) ⟨Nat.le_of_ble_eq_true rfl, Nat.le_of_ble_eq_true rfl⟩ ⟨Nat.le_of_ble_eq_true rfl, Nat.le_of_ble_eq_true rfl⟩ (fun r W2 H locs hp G => ?_)
  obtain ⟨rfl, hw⟩ := hp
  have G := g_wc hw G
  refine W.eq (g2 := F0 m 5 ls [.int (bI (inB p0 0 2)), .ref (am 0)]) rfl ?_
  refine lv_if_eq (tgt := 12) hx hb dX5_worst_5 (by decide) (fun c_5 => ?_) (fun c_5 => ?_)
  · skip
    have c_5 : (inB p0 0 2) = false := bI_f c_5
    refine lv_iconst (v := 1) hx hb dX5_worst_12 (by decide) ?_
    refine g_callV (As := [.int 1]) (rest := []) (q0 := 0) C0 G (c_X5_holds l D cy (am := am) (mf := mf) (mb := mb) (mv := mv) (th := th) (sv := sv) (X := X) (ln := ln) (ap := ap) (le := le) (fc := fc) (f1 := f1) (f2 := f2) (ha := ha) (R := R) (B := B) (pl := 1) (by omega)) k_X5_holds ml_X5_92 rfl rfl dX5_worst_13 rfl rfl hl.1 (Nat.le_of_ble_eq_true rfl) ⟨Nat.le_of_ble_eq_true rfl, Nat.le_of_ble_eq_true rfl⟩ ⟨Nat.le_of_ble_eq_true rfl, Nat.le_of_ble_eq_true rfl⟩ (fun r W2 H locs hp G => ?_)
    obtain ⟨rfl, hw⟩ := hp
    have G := g_wc hw G
    refine W.eq (g2 := F0 m 16 ls [.int (bI (decide (1 = 0)))]) rfl ?_
    refine lv_if_eq (tgt := 27) hx hb dX5_worst_16 (by decide) (fun c_16 => ?_) (fun c_16 => ?_)
    · skip
      have c_16 : (decide (1 = 0)) = false := bI_f c_16
      refine lv_iconst (v := 0) hx hb dX5_worst_27 (by decide) ?_
      exact g_iret C0 G ⟨by first | rfl | (exfalso; omega) | (simp only [c_5, c_16, Bool.false_eq_true, ↓reduceIte, eq_self, decide_true, decide_false, not_true_eq_false, not_false_eq_true, Bool.true_and, Bool.false_and, Bool.and_true, Bool.and_false]; done) | (simp [c_5, c_16]; done) | (simp [c_5, c_16]; rfl) | (simp [c_5, c_16]; omega), by first | rfl | (exfalso; omega) | (simp only [c_5, c_16, Bool.false_eq_true, ↓reduceIte, eq_self, decide_true, decide_false, not_true_eq_false, not_false_eq_true, Bool.true_and, Bool.false_and, Bool.and_true, Bool.and_false]; done) | (simp [c_5, c_16]; done) | (simp [c_5, c_16]; rfl) | (simp [c_5, c_16]; omega)⟩ dX5_worst_28
    · skip
      have c_16 : (decide (1 = 0)) = true := bI_t c_16
      exact absurd ((by decide) : (decide (1 = 0)) = false) (by rw [c_16]; decide)
  · skip
    have c_5 : (inB p0 0 2) = true := bI_t c_5
    exact absurd (he : (inB p0 0 2) = false) (by rw [c_5]; decide)

set_option maxHeartbeats 4000000 in
set_option maxRecDepth 100000 in
theorem c_X5_sees_ok (l : Launch) (D : va_G) (cy : Nat → ClassId) (am : Nat → Nat) (mf : Nat → Int64) (mb : Nat → Int64) (mv : Nat → Nat) (th : Int32) (sv : Nat) (X : Nat → Int32) (ln : Nat) (ap : Nat) (le : Nat) (fc : Nat) (f1 : Int32) (f2 : Int32) (ha : Int64) (R : va_W) (B : Nat → Int32) (k : Nat) (i : Nat) (j : Nat) (h1 : k < 3) (h2 : i < 8) (h3 : j < 8) (hv : mv k < 4) : GE l D (gts cy) yX5_sees cX5_sees 4 (some .boolean) 2 0 0 [.ref (am 0), .int (nI k), .int (nI i), .int (nI j)] (wM am cy th (cS mf mb mv) sv X ln ap le fc f1 f2 (B) ha R) (gF (some (.int (bI (shB1 (mf k) (mb k) (mv k) i j)))) (wM am cy (nI 0) (cS mf mb mv) sv X ln ap le fc f1 f2 (B) ha R)) := by
  refine g_intro (by decide +kernel) (lv := [(0, .ref (am 0)), (1, .int (nI k)), (2, .int (nI i)), (3, .int (nI j))]) rfl (Nat.le_of_ble_eq_true rfl) ?_
  intro p e s m below meth c C0 G ls hl
  have hx := C0.1
  have hb := C0.2.1
  have hown := C0.2.2.2.2.2.1
  have hts := C0.2.2.2.2.2.2.1
  refine lv_aload_n hx hb dX5_sees_0 rfl (lv_at hl 0 rfl) ?_
  refine lv_iload_n hx hb dX5_sees_1 rfl (lv_at hl 1 rfl) ?_
  refine g_callS (As := [.int (nI k)]) (rest := [.ref (am 0)]) C0 G (c_X5_isCard l D cy (W1 := wM am cy th (cS mf mb mv) sv X ln ap le fc f1 f2 (B) ha R) (u := nI k) ) k_X5_isCard ml_X5_89 dX5_sees_2 rfl rfl hl.1 (Nat.le_of_ble_eq_true rfl) ⟨Nat.le_of_ble_eq_true rfl, Nat.le_of_ble_eq_true rfl⟩ ⟨Nat.le_of_ble_eq_true rfl, Nat.le_of_ble_eq_true rfl⟩ (fun r W2 H locs hp G => ?_)
  obtain ⟨rfl, hw⟩ := hp
  have G := g_wc hw G
  refine W.eq (g2 := F0 m 5 ls [.int (bI (inB (nI k) 0 2)), .ref (am 0)]) rfl ?_
  refine lv_if_eq (tgt := 20) hx hb dX5_sees_5 (by decide) (fun c_5 => ?_) (fun c_5 => ?_)
  · skip
    have c_5 : (inB (nI k) 0 2) = false := bI_f c_5
    exact absurd ((inB_y (n := 2) (by omega) rfl (by decide)) : (inB (nI k) 0 2) = true) (by rw [c_5]; decide)
  · skip
    have c_5 : (inB (nI k) 0 2) = true := bI_t c_5
    refine lv_iload_n hx hb dX5_sees_8 rfl (lv_at hl 2 rfl) ?_
    refine lv_iload_n hx hb dX5_sees_9 rfl (lv_at hl 3 rfl) ?_
    refine g_callS (As := [.int (nI i), .int (nI j)]) (rest := [.ref (am 0)]) C0 G (c_X5_isCell l D cy (W1 := wM am cy th (cS mf mb mv) sv X ln ap le fc f1 f2 (B) ha R) (u := nI i) (w := nI j) ) k_X5_isCell ml_X5_110 dX5_sees_10 rfl rfl hl.1 (Nat.le_of_ble_eq_true rfl) ⟨Nat.le_of_ble_eq_true rfl, Nat.le_of_ble_eq_true rfl⟩ ⟨Nat.le_of_ble_eq_true rfl, Nat.le_of_ble_eq_true rfl⟩ (fun r W2 H locs hp G => ?_)
    obtain ⟨rfl, hw⟩ := hp
    have G := g_wc hw G
    refine W.eq (g2 := F0 m 13 ls [.int (bI (inB (nI i) 0 7 && inB (nI j) 0 7)), .ref (am 0)]) rfl ?_
    refine lv_if_eq (tgt := 20) hx hb dX5_sees_13 (by decide) (fun c_13 => ?_) (fun c_13 => ?_)
    · skip
      have c_13 : (inB (nI i) 0 7 && inB (nI j) 0 7) = false := bI_f c_13
      exact absurd ((by rw [inB_y (k := i) (n := 7) (hi := 7) (by omega) rfl (by decide), inB_y (k := j) (n := 7) (hi := 7) (by omega) rfl (by decide)]; rfl) : (inB (nI i) 0 7 && inB (nI j) 0 7) = true) (by rw [c_13]; decide)
    · skip
      have c_13 : (inB (nI i) 0 7 && inB (nI j) 0 7) = true := bI_t c_13
      refine lv_iconst (v := 0) hx hb dX5_sees_16 (by decide) ?_
      refine lv_goto (tgt := 21) hx hb dX5_sees_17 (by decide) ?_
      refine g_callV (As := [.int 0]) (rest := []) (q0 := 0) C0 G (c_X5_holds l D cy (am := am) (mf := mf) (mb := mb) (mv := mv) (th := th) (sv := sv) (X := X) (ln := ln) (ap := ap) (le := le) (fc := fc) (f1 := f1) (f2 := f2) (ha := ha) (R := R) (B := B) (pl := 0) (by omega)) k_X5_holds ml_X5_92 rfl rfl dX5_sees_21 rfl rfl hl.1 (Nat.le_of_ble_eq_true rfl) ⟨Nat.le_of_ble_eq_true rfl, Nat.le_of_ble_eq_true rfl⟩ ⟨Nat.le_of_ble_eq_true rfl, Nat.le_of_ble_eq_true rfl⟩ (fun r W2 H locs hp G => ?_)
      obtain ⟨rfl, hw⟩ := hp
      have G := g_wc hw G
      refine W.eq (g2 := F0 m 24 ls [.int (bI (decide (0 = 0)))]) rfl ?_
      refine lv_if_eq (tgt := 41) hx hb dX5_sees_24 (by decide) (fun c_24 => ?_) (fun c_24 => ?_)
      · skip
        have c_24 : (decide (0 = 0)) = false := bI_f c_24
        exact absurd ((by decide) : (decide (0 = 0)) = true) (by rw [c_24]; decide)
      · skip
        have c_24 : (decide (0 = 0)) = true := bI_t c_24
        refine lv_aload_n hx hb dX5_sees_27 rfl (lv_at hl 0 rfl) ?_
        refine lv_iload_n hx hb dX5_sees_28 rfl (lv_at hl 1 rfl) ?_
        refine lv_iload_n hx hb dX5_sees_29 rfl (lv_at hl 2 rfl) ?_
        refine lv_iload_n hx hb dX5_sees_30 rfl (lv_at hl 3 rfl) ?_
        refine g_callV (As := [.int (nI k), .int (nI i), .int (nI j)]) (rest := []) (q0 := 0) C0 G (c_X5_isSeen l D cy (am := am) (mf := mf) (mb := mb) (mv := mv) (th := nI 0) (sv := sv) (X := X) (ln := ln) (ap := ap) (le := le) (fc := fc) (f1 := f1) (f2 := f2) (ha := ha) (R := R) (B := B) (z := k) (row := i) (col := j) (by omega) (by omega) (by omega) hv) k_X5_isSeen ml_X5_54 rfl rfl dX5_sees_31 rfl rfl hl.1 (Nat.le_of_ble_eq_true rfl) ⟨Nat.le_of_ble_eq_true rfl, Nat.le_of_ble_eq_true rfl⟩ ⟨Nat.le_of_ble_eq_true rfl, Nat.le_of_ble_eq_true rfl⟩ (fun r W2 H locs hp G => ?_)
        obtain ⟨rfl, hw⟩ := hp
        have G := g_wc hw G
        refine W.eq (g2 := F0 m 34 ls [.int (bI (shB1 (mf k) (mb k) (mv k) i j))]) rfl ?_
        refine lv_if_eq (tgt := 41) hx hb dX5_sees_34 (by decide) (fun c_34 => ?_) (fun c_34 => ?_)
        · skip
          have c_34 : (shB1 (mf k) (mb k) (mv k) i j) = false := bI_f c_34
          refine lv_iconst (v := 0) hx hb dX5_sees_41 (by decide) ?_
          exact g_zret C0 G rfl ⟨by first | rfl | (exfalso; omega) | (simp only [bI, c_5, c_13, c_24, c_34, Bool.false_eq_true, ↓reduceIte, eq_self, decide_true, decide_false, not_true_eq_false, not_false_eq_true, Bool.true_and, Bool.false_and, Bool.and_true, Bool.and_false]; done) | (simp [bI, c_5, c_13, c_24, c_34]; done) | (simp [bI, c_5, c_13, c_24, c_34]; rfl) | (simp [bI, c_5, c_13, c_24, c_34]; omega), by first | rfl | (exfalso; omega) | (simp only [bI, c_5, c_13, c_24, c_34, Bool.false_eq_true, ↓reduceIte, eq_self, decide_true, decide_false, not_true_eq_false, not_false_eq_true, Bool.true_and, Bool.false_and, Bool.and_true, Bool.and_false]; done) | (simp [bI, c_5, c_13, c_24, c_34]; done) | (simp [bI, c_5, c_13, c_24, c_34]; rfl) | (simp [bI, c_5, c_13, c_24, c_34]; omega)⟩ dX5_sees_42
        · skip
          have c_34 : (shB1 (mf k) (mb k) (mv k) i j) = true := bI_t c_34
          refine lv_iconst (v := 1) hx hb dX5_sees_37 (by decide) ?_
          refine lv_goto (tgt := 42) hx hb dX5_sees_38 (by decide) ?_
          exact g_zret C0 G rfl ⟨by first | rfl | (exfalso; omega) | (simp only [bI, c_5, c_13, c_24, c_34, Bool.false_eq_true, ↓reduceIte, eq_self, decide_true, decide_false, not_true_eq_false, not_false_eq_true, Bool.true_and, Bool.false_and, Bool.and_true, Bool.and_false]; done) | (simp [bI, c_5, c_13, c_24, c_34]; done) | (simp [bI, c_5, c_13, c_24, c_34]; rfl) | (simp [bI, c_5, c_13, c_24, c_34]; omega), by first | rfl | (exfalso; omega) | (simp only [bI, c_5, c_13, c_24, c_34, Bool.false_eq_true, ↓reduceIte, eq_self, decide_true, decide_false, not_true_eq_false, not_false_eq_true, Bool.true_and, Bool.false_and, Bool.and_true, Bool.and_false]; done) | (simp [bI, c_5, c_13, c_24, c_34]; done) | (simp [bI, c_5, c_13, c_24, c_34]; rfl) | (simp [bI, c_5, c_13, c_24, c_34]; omega)⟩ dX5_sees_42

set_option maxHeartbeats 4000000 in
set_option maxRecDepth 100000 in
theorem c_X5_sees_e1 (l : Launch) (D : va_G) (cy : Nat → ClassId) (am : Nat → Nat) (mf : Nat → Int64) (mb : Nat → Int64) (mv : Nat → Nat) (th : Int32) (sv : Nat) (X : Nat → Int32) (ln : Nat) (ap : Nat) (le : Nat) (fc : Nat) (f1 : Int32) (f2 : Int32) (ha : Int64) (R : va_W) (B : Nat → Int32) (p0 : Int32) (p1 : Int32) (p2 : Int32) (he : (inB p0 0 2 && (inB p1 0 7 && inB p2 0 7)) = false) : GE l D (gts cy) yX5_sees cX5_sees 4 (some .boolean) 2 0 0 [.ref (am 0), .int p0, .int p1, .int p2] (wM am cy th (cS mf mb mv) sv X ln ap le fc f1 f2 (B) ha R) (gF (some (.int 0)) (wM am cy (nI 1) (cS mf mb mv) sv X ln ap le fc f1 f2 (B) ha R)) := by
  refine g_intro (by decide +kernel) (lv := [(0, .ref (am 0)), (1, .int p0), (2, .int p1), (3, .int p2)]) rfl (Nat.le_of_ble_eq_true rfl) ?_
  intro p e s m below meth c C0 G ls hl
  have hx := C0.1
  have hb := C0.2.1
  have hown := C0.2.2.2.2.2.1
  have hts := C0.2.2.2.2.2.2.1
  refine lv_aload_n hx hb dX5_sees_0 rfl (lv_at hl 0 rfl) ?_
  refine lv_iload_n hx hb dX5_sees_1 rfl (lv_at hl 1 rfl) ?_
  refine g_callS (As := [.int p0]) (rest := [.ref (am 0)]) C0 G (c_X5_isCard l D cy (W1 := wM am cy th (cS mf mb mv) sv X ln ap le fc f1 f2 (B) ha R) (u := p0) ) k_X5_isCard ml_X5_89 dX5_sees_2 rfl rfl hl.1 (Nat.le_of_ble_eq_true rfl) ⟨Nat.le_of_ble_eq_true rfl, Nat.le_of_ble_eq_true rfl⟩ ⟨Nat.le_of_ble_eq_true rfl, Nat.le_of_ble_eq_true rfl⟩ (fun r W2 H locs hp G => ?_)
  obtain ⟨rfl, hw⟩ := hp
  have G := g_wc hw G
  refine W.eq (g2 := F0 m 5 ls [.int (bI (inB p0 0 2)), .ref (am 0)]) rfl ?_
  refine lv_if_eq (tgt := 20) hx hb dX5_sees_5 (by decide) (fun c_5 => ?_) (fun c_5 => ?_)
  · skip
    have c_5 : (inB p0 0 2) = false := bI_f c_5
    refine lv_iconst (v := 1) hx hb dX5_sees_20 (by decide) ?_
    refine g_callV (As := [.int 1]) (rest := []) (q0 := 0) C0 G (c_X5_holds l D cy (am := am) (mf := mf) (mb := mb) (mv := mv) (th := th) (sv := sv) (X := X) (ln := ln) (ap := ap) (le := le) (fc := fc) (f1 := f1) (f2 := f2) (ha := ha) (R := R) (B := B) (pl := 1) (by omega)) k_X5_holds ml_X5_92 rfl rfl dX5_sees_21 rfl rfl hl.1 (Nat.le_of_ble_eq_true rfl) ⟨Nat.le_of_ble_eq_true rfl, Nat.le_of_ble_eq_true rfl⟩ ⟨Nat.le_of_ble_eq_true rfl, Nat.le_of_ble_eq_true rfl⟩ (fun r W2 H locs hp G => ?_)
    obtain ⟨rfl, hw⟩ := hp
    have G := g_wc hw G
    refine W.eq (g2 := F0 m 24 ls [.int (bI (decide (1 = 0)))]) rfl ?_
    refine lv_if_eq (tgt := 41) hx hb dX5_sees_24 (by decide) (fun c_24 => ?_) (fun c_24 => ?_)
    · skip
      have c_24 : (decide (1 = 0)) = false := bI_f c_24
      refine lv_iconst (v := 0) hx hb dX5_sees_41 (by decide) ?_
      exact g_zret C0 G rfl ⟨by first | rfl | (exfalso; omega) | (simp only [c_5, c_24, Bool.false_eq_true, ↓reduceIte, eq_self, decide_true, decide_false, not_true_eq_false, not_false_eq_true, Bool.true_and, Bool.false_and, Bool.and_true, Bool.and_false]; done) | (simp [c_5, c_24]; done) | (simp [c_5, c_24]; rfl) | (simp [c_5, c_24]; omega), by first | rfl | (exfalso; omega) | (simp only [c_5, c_24, Bool.false_eq_true, ↓reduceIte, eq_self, decide_true, decide_false, not_true_eq_false, not_false_eq_true, Bool.true_and, Bool.false_and, Bool.and_true, Bool.and_false]; done) | (simp [c_5, c_24]; done) | (simp [c_5, c_24]; rfl) | (simp [c_5, c_24]; omega)⟩ dX5_sees_42
    · skip
      have c_24 : (decide (1 = 0)) = true := bI_t c_24
      exact absurd ((by decide) : (decide (1 = 0)) = false) (by rw [c_24]; decide)
  · skip
    have c_5 : (inB p0 0 2) = true := bI_t c_5
    refine lv_iload_n hx hb dX5_sees_8 rfl (lv_at hl 2 rfl) ?_
    refine lv_iload_n hx hb dX5_sees_9 rfl (lv_at hl 3 rfl) ?_
    refine g_callS (As := [.int p1, .int p2]) (rest := [.ref (am 0)]) C0 G (c_X5_isCell l D cy (W1 := wM am cy th (cS mf mb mv) sv X ln ap le fc f1 f2 (B) ha R) (u := p1) (w := p2) ) k_X5_isCell ml_X5_110 dX5_sees_10 rfl rfl hl.1 (Nat.le_of_ble_eq_true rfl) ⟨Nat.le_of_ble_eq_true rfl, Nat.le_of_ble_eq_true rfl⟩ ⟨Nat.le_of_ble_eq_true rfl, Nat.le_of_ble_eq_true rfl⟩ (fun r W2 H locs hp G => ?_)
    obtain ⟨rfl, hw⟩ := hp
    have G := g_wc hw G
    refine W.eq (g2 := F0 m 13 ls [.int (bI (inB p1 0 7 && inB p2 0 7)), .ref (am 0)]) rfl ?_
    refine lv_if_eq (tgt := 20) hx hb dX5_sees_13 (by decide) (fun c_13 => ?_) (fun c_13 => ?_)
    · skip
      have c_13 : (inB p1 0 7 && inB p2 0 7) = false := bI_f c_13
      refine lv_iconst (v := 1) hx hb dX5_sees_20 (by decide) ?_
      refine g_callV (As := [.int 1]) (rest := []) (q0 := 0) C0 G (c_X5_holds l D cy (am := am) (mf := mf) (mb := mb) (mv := mv) (th := th) (sv := sv) (X := X) (ln := ln) (ap := ap) (le := le) (fc := fc) (f1 := f1) (f2 := f2) (ha := ha) (R := R) (B := B) (pl := 1) (by omega)) k_X5_holds ml_X5_92 rfl rfl dX5_sees_21 rfl rfl hl.1 (Nat.le_of_ble_eq_true rfl) ⟨Nat.le_of_ble_eq_true rfl, Nat.le_of_ble_eq_true rfl⟩ ⟨Nat.le_of_ble_eq_true rfl, Nat.le_of_ble_eq_true rfl⟩ (fun r W2 H locs hp G => ?_)
      obtain ⟨rfl, hw⟩ := hp
      have G := g_wc hw G
      refine W.eq (g2 := F0 m 24 ls [.int (bI (decide (1 = 0)))]) rfl ?_
      refine lv_if_eq (tgt := 41) hx hb dX5_sees_24 (by decide) (fun c_24 => ?_) (fun c_24 => ?_)
      · skip
        have c_24 : (decide (1 = 0)) = false := bI_f c_24
        refine lv_iconst (v := 0) hx hb dX5_sees_41 (by decide) ?_
        exact g_zret C0 G rfl ⟨by first | rfl | (exfalso; omega) | (simp only [c_5, c_13, c_24, Bool.false_eq_true, ↓reduceIte, eq_self, decide_true, decide_false, not_true_eq_false, not_false_eq_true, Bool.true_and, Bool.false_and, Bool.and_true, Bool.and_false]; done) | (simp [c_5, c_13, c_24]; done) | (simp [c_5, c_13, c_24]; rfl) | (simp [c_5, c_13, c_24]; omega), by first | rfl | (exfalso; omega) | (simp only [c_5, c_13, c_24, Bool.false_eq_true, ↓reduceIte, eq_self, decide_true, decide_false, not_true_eq_false, not_false_eq_true, Bool.true_and, Bool.false_and, Bool.and_true, Bool.and_false]; done) | (simp [c_5, c_13, c_24]; done) | (simp [c_5, c_13, c_24]; rfl) | (simp [c_5, c_13, c_24]; omega)⟩ dX5_sees_42
      · skip
        have c_24 : (decide (1 = 0)) = true := bI_t c_24
        exact absurd ((by decide) : (decide (1 = 0)) = false) (by rw [c_24]; decide)
    · skip
      have c_13 : (inB p1 0 7 && inB p2 0 7) = true := bI_t c_13
      rw [c_5, c_13] at he; exact absurd he (by decide)

set_option maxHeartbeats 4000000 in
set_option maxRecDepth 100000 in
theorem c_X5_kind_e1 (l : Launch) (D : va_G) (cy : Nat → ClassId) (am : Nat → Nat) (mf : Nat → Int64) (mb : Nat → Int64) (mv : Nat → Nat) (th : Int32) (sv : Nat) (X : Nat → Int32) (ln : Nat) (ap : Nat) (le : Nat) (fc : Nat) (f1 : Int32) (f2 : Int32) (ha : Int64) (R : va_W) (B : Nat → Int32) (p0 : Int32) (p1 : Int32) (p2 : Int32) (he : (inB p0 0 2 && (inB p1 0 7 && inB p2 0 7)) = false) : GE l D (gts cy) yX5_kind cX5_kind 4 (some .int) 2 0 0 [.ref (am 0), .int p0, .int p1, .int p2] (wM am cy th (cS mf mb mv) sv X ln ap le fc f1 f2 (B) ha R) (gF (some (.int 0)) (wM am cy (nI 1) (cS mf mb mv) sv X ln ap le fc f1 f2 (B) ha R)) := by
  refine g_intro (by decide +kernel) (lv := [(0, .ref (am 0)), (1, .int p0), (2, .int p1), (3, .int p2)]) rfl (Nat.le_of_ble_eq_true rfl) ?_
  intro p e s m below meth c C0 G ls hl
  have hx := C0.1
  have hb := C0.2.1
  have hown := C0.2.2.2.2.2.1
  have hts := C0.2.2.2.2.2.2.1
  refine lv_aload_n hx hb dX5_kind_0 rfl (lv_at hl 0 rfl) ?_
  refine lv_iload_n hx hb dX5_kind_1 rfl (lv_at hl 1 rfl) ?_
  refine g_callS (As := [.int p0]) (rest := [.ref (am 0)]) C0 G (c_X5_isCard l D cy (W1 := wM am cy th (cS mf mb mv) sv X ln ap le fc f1 f2 (B) ha R) (u := p0) ) k_X5_isCard ml_X5_89 dX5_kind_2 rfl rfl hl.1 (Nat.le_of_ble_eq_true rfl) ⟨Nat.le_of_ble_eq_true rfl, Nat.le_of_ble_eq_true rfl⟩ ⟨Nat.le_of_ble_eq_true rfl, Nat.le_of_ble_eq_true rfl⟩ (fun r W2 H locs hp G => ?_)
  obtain ⟨rfl, hw⟩ := hp
  have G := g_wc hw G
  refine W.eq (g2 := F0 m 5 ls [.int (bI (inB p0 0 2)), .ref (am 0)]) rfl ?_
  refine lv_if_eq (tgt := 20) hx hb dX5_kind_5 (by decide) (fun c_5 => ?_) (fun c_5 => ?_)
  · skip
    have c_5 : (inB p0 0 2) = false := bI_f c_5
    refine lv_iconst (v := 1) hx hb dX5_kind_20 (by decide) ?_
    refine g_callV (As := [.int 1]) (rest := []) (q0 := 0) C0 G (c_X5_holds l D cy (am := am) (mf := mf) (mb := mb) (mv := mv) (th := th) (sv := sv) (X := X) (ln := ln) (ap := ap) (le := le) (fc := fc) (f1 := f1) (f2 := f2) (ha := ha) (R := R) (B := B) (pl := 1) (by omega)) k_X5_holds ml_X5_92 rfl rfl dX5_kind_21 rfl rfl hl.1 (Nat.le_of_ble_eq_true rfl) ⟨Nat.le_of_ble_eq_true rfl, Nat.le_of_ble_eq_true rfl⟩ ⟨Nat.le_of_ble_eq_true rfl, Nat.le_of_ble_eq_true rfl⟩ (fun r W2 H locs hp G => ?_)
    obtain ⟨rfl, hw⟩ := hp
    have G := g_wc hw G
    refine W.eq (g2 := F0 m 24 ls [.int (bI (decide (1 = 0)))]) rfl ?_
    refine lv_if_eq (tgt := 41) hx hb dX5_kind_24 (by decide) (fun c_24 => ?_) (fun c_24 => ?_)
    · skip
      have c_24 : (decide (1 = 0)) = false := bI_f c_24
      refine lv_iconst (v := 0) hx hb dX5_kind_41 (by decide) ?_
      exact g_iret C0 G ⟨by first | rfl | (exfalso; omega) | (simp only [c_5, c_24, Bool.false_eq_true, ↓reduceIte, eq_self, decide_true, decide_false, not_true_eq_false, not_false_eq_true, Bool.true_and, Bool.false_and, Bool.and_true, Bool.and_false]; done) | (simp [c_5, c_24]; done) | (simp [c_5, c_24]; rfl) | (simp [c_5, c_24]; omega), by first | rfl | (exfalso; omega) | (simp only [c_5, c_24, Bool.false_eq_true, ↓reduceIte, eq_self, decide_true, decide_false, not_true_eq_false, not_false_eq_true, Bool.true_and, Bool.false_and, Bool.and_true, Bool.and_false]; done) | (simp [c_5, c_24]; done) | (simp [c_5, c_24]; rfl) | (simp [c_5, c_24]; omega)⟩ dX5_kind_42
    · skip
      have c_24 : (decide (1 = 0)) = true := bI_t c_24
      exact absurd ((by decide) : (decide (1 = 0)) = false) (by rw [c_24]; decide)
  · skip
    have c_5 : (inB p0 0 2) = true := bI_t c_5
    refine lv_iload_n hx hb dX5_kind_8 rfl (lv_at hl 2 rfl) ?_
    refine lv_iload_n hx hb dX5_kind_9 rfl (lv_at hl 3 rfl) ?_
    refine g_callS (As := [.int p1, .int p2]) (rest := [.ref (am 0)]) C0 G (c_X5_isCell l D cy (W1 := wM am cy th (cS mf mb mv) sv X ln ap le fc f1 f2 (B) ha R) (u := p1) (w := p2) ) k_X5_isCell ml_X5_110 dX5_kind_10 rfl rfl hl.1 (Nat.le_of_ble_eq_true rfl) ⟨Nat.le_of_ble_eq_true rfl, Nat.le_of_ble_eq_true rfl⟩ ⟨Nat.le_of_ble_eq_true rfl, Nat.le_of_ble_eq_true rfl⟩ (fun r W2 H locs hp G => ?_)
    obtain ⟨rfl, hw⟩ := hp
    have G := g_wc hw G
    refine W.eq (g2 := F0 m 13 ls [.int (bI (inB p1 0 7 && inB p2 0 7)), .ref (am 0)]) rfl ?_
    refine lv_if_eq (tgt := 20) hx hb dX5_kind_13 (by decide) (fun c_13 => ?_) (fun c_13 => ?_)
    · skip
      have c_13 : (inB p1 0 7 && inB p2 0 7) = false := bI_f c_13
      refine lv_iconst (v := 1) hx hb dX5_kind_20 (by decide) ?_
      refine g_callV (As := [.int 1]) (rest := []) (q0 := 0) C0 G (c_X5_holds l D cy (am := am) (mf := mf) (mb := mb) (mv := mv) (th := th) (sv := sv) (X := X) (ln := ln) (ap := ap) (le := le) (fc := fc) (f1 := f1) (f2 := f2) (ha := ha) (R := R) (B := B) (pl := 1) (by omega)) k_X5_holds ml_X5_92 rfl rfl dX5_kind_21 rfl rfl hl.1 (Nat.le_of_ble_eq_true rfl) ⟨Nat.le_of_ble_eq_true rfl, Nat.le_of_ble_eq_true rfl⟩ ⟨Nat.le_of_ble_eq_true rfl, Nat.le_of_ble_eq_true rfl⟩ (fun r W2 H locs hp G => ?_)
      obtain ⟨rfl, hw⟩ := hp
      have G := g_wc hw G
      refine W.eq (g2 := F0 m 24 ls [.int (bI (decide (1 = 0)))]) rfl ?_
      refine lv_if_eq (tgt := 41) hx hb dX5_kind_24 (by decide) (fun c_24 => ?_) (fun c_24 => ?_)
      · skip
        have c_24 : (decide (1 = 0)) = false := bI_f c_24
        refine lv_iconst (v := 0) hx hb dX5_kind_41 (by decide) ?_
        exact g_iret C0 G ⟨by first | rfl | (exfalso; omega) | (simp only [c_5, c_13, c_24, Bool.false_eq_true, ↓reduceIte, eq_self, decide_true, decide_false, not_true_eq_false, not_false_eq_true, Bool.true_and, Bool.false_and, Bool.and_true, Bool.and_false]; done) | (simp [c_5, c_13, c_24]; done) | (simp [c_5, c_13, c_24]; rfl) | (simp [c_5, c_13, c_24]; omega), by first | rfl | (exfalso; omega) | (simp only [c_5, c_13, c_24, Bool.false_eq_true, ↓reduceIte, eq_self, decide_true, decide_false, not_true_eq_false, not_false_eq_true, Bool.true_and, Bool.false_and, Bool.and_true, Bool.and_false]; done) | (simp [c_5, c_13, c_24]; done) | (simp [c_5, c_13, c_24]; rfl) | (simp [c_5, c_13, c_24]; omega)⟩ dX5_kind_42
      · skip
        have c_24 : (decide (1 = 0)) = true := bI_t c_24
        exact absurd ((by decide) : (decide (1 = 0)) = false) (by rw [c_24]; decide)
    · skip
      have c_13 : (inB p1 0 7 && inB p2 0 7) = true := bI_t c_13
      rw [c_5, c_13] at he; exact absurd he (by decide)

set_option maxHeartbeats 4000000 in
set_option maxRecDepth 100000 in
theorem c_X5_told_e1 (l : Launch) (D : va_G) (cy : Nat → ClassId) (am : Nat → Nat) (mf : Nat → Int64) (mb : Nat → Int64) (mv : Nat → Nat) (th : Int32) (sv : Nat) (X : Nat → Int32) (ln : Nat) (ap : Nat) (le : Nat) (fc : Nat) (f1 : Int32) (f2 : Int32) (ha : Int64) (R : va_W) (B : Nat → Int32) (p0 : Int32) (p1 : Int32) (p2 : Int32) (he : (inB p0 0 2 && (inB p1 0 7 && inB p2 0 7)) = false) : GE l D (gts cy) yX5_told cX5_told 4 (some .int) 4 0 0 [.ref (am 0), .int p0, .int p1, .int p2] (wM am cy th (cS mf mb mv) sv X ln ap le fc f1 f2 (B) ha R) (gF (some (.int 0)) (wM am cy (nI 1) (cS mf mb mv) sv X ln ap le fc f1 f2 (B) ha R)) := by
  refine g_intro (by decide +kernel) (lv := [(0, .ref (am 0)), (1, .int p0), (2, .int p1), (3, .int p2)]) rfl (Nat.le_of_ble_eq_true rfl) ?_
  intro p e s m below meth c C0 G ls hl
  have hx := C0.1
  have hb := C0.2.1
  have hown := C0.2.2.2.2.2.1
  have hts := C0.2.2.2.2.2.2.1
  refine lv_aload_n hx hb dX5_told_0 rfl (lv_at hl 0 rfl) ?_
  refine lv_iload_n hx hb dX5_told_1 rfl (lv_at hl 1 rfl) ?_
  refine g_callS (As := [.int p0]) (rest := [.ref (am 0)]) C0 G (c_X5_isCard l D cy (W1 := wM am cy th (cS mf mb mv) sv X ln ap le fc f1 f2 (B) ha R) (u := p0) ) k_X5_isCard ml_X5_89 dX5_told_2 rfl rfl hl.1 (Nat.le_of_ble_eq_true rfl) ⟨Nat.le_of_ble_eq_true rfl, Nat.le_of_ble_eq_true rfl⟩ ⟨Nat.le_of_ble_eq_true rfl, Nat.le_of_ble_eq_true rfl⟩ (fun r W2 H locs hp G => ?_)
  obtain ⟨rfl, hw⟩ := hp
  have G := g_wc hw G
  refine W.eq (g2 := F0 m 5 ls [.int (bI (inB p0 0 2)), .ref (am 0)]) rfl ?_
  refine lv_if_eq (tgt := 20) hx hb dX5_told_5 (by decide) (fun c_5 => ?_) (fun c_5 => ?_)
  · skip
    have c_5 : (inB p0 0 2) = false := bI_f c_5
    refine lv_iconst (v := 1) hx hb dX5_told_20 (by decide) ?_
    refine g_callV (As := [.int 1]) (rest := []) (q0 := 0) C0 G (c_X5_holds l D cy (am := am) (mf := mf) (mb := mb) (mv := mv) (th := th) (sv := sv) (X := X) (ln := ln) (ap := ap) (le := le) (fc := fc) (f1 := f1) (f2 := f2) (ha := ha) (R := R) (B := B) (pl := 1) (by omega)) k_X5_holds ml_X5_92 rfl rfl dX5_told_21 rfl rfl hl.1 (Nat.le_of_ble_eq_true rfl) ⟨Nat.le_of_ble_eq_true rfl, Nat.le_of_ble_eq_true rfl⟩ ⟨Nat.le_of_ble_eq_true rfl, Nat.le_of_ble_eq_true rfl⟩ (fun r W2 H locs hp G => ?_)
    obtain ⟨rfl, hw⟩ := hp
    have G := g_wc hw G
    refine W.eq (g2 := F0 m 24 ls [.int (bI (decide (1 = 0)))]) rfl ?_
    refine lv_if_ne (tgt := 29) hx hb dX5_told_24 (by decide) (fun c_24 => ?_) (fun c_24 => ?_)
    · skip
      have c_24 : (decide (1 = 0)) = true := bI_t c_24
      exact absurd ((by decide) : (decide (1 = 0)) = false) (by rw [c_24]; decide)
    · skip
      have c_24 : (decide (1 = 0)) = false := bI_f c_24
      refine lv_iconst (v := 0) hx hb dX5_told_27 (by decide) ?_
      exact g_iret C0 G ⟨by first | rfl | (exfalso; omega) | (simp only [c_5, c_24, Bool.false_eq_true, ↓reduceIte, eq_self, decide_true, decide_false, not_true_eq_false, not_false_eq_true, Bool.true_and, Bool.false_and, Bool.and_true, Bool.and_false]; done) | (simp [c_5, c_24]; done) | (simp [c_5, c_24]; rfl) | (simp [c_5, c_24]; omega), by first | rfl | (exfalso; omega) | (simp only [c_5, c_24, Bool.false_eq_true, ↓reduceIte, eq_self, decide_true, decide_false, not_true_eq_false, not_false_eq_true, Bool.true_and, Bool.false_and, Bool.and_true, Bool.and_false]; done) | (simp [c_5, c_24]; done) | (simp [c_5, c_24]; rfl) | (simp [c_5, c_24]; omega)⟩ dX5_told_28
  · skip
    have c_5 : (inB p0 0 2) = true := bI_t c_5
    refine lv_iload_n hx hb dX5_told_8 rfl (lv_at hl 2 rfl) ?_
    refine lv_iload_n hx hb dX5_told_9 rfl (lv_at hl 3 rfl) ?_
    refine g_callS (As := [.int p1, .int p2]) (rest := [.ref (am 0)]) C0 G (c_X5_isCell l D cy (W1 := wM am cy th (cS mf mb mv) sv X ln ap le fc f1 f2 (B) ha R) (u := p1) (w := p2) ) k_X5_isCell ml_X5_110 dX5_told_10 rfl rfl hl.1 (Nat.le_of_ble_eq_true rfl) ⟨Nat.le_of_ble_eq_true rfl, Nat.le_of_ble_eq_true rfl⟩ ⟨Nat.le_of_ble_eq_true rfl, Nat.le_of_ble_eq_true rfl⟩ (fun r W2 H locs hp G => ?_)
    obtain ⟨rfl, hw⟩ := hp
    have G := g_wc hw G
    refine W.eq (g2 := F0 m 13 ls [.int (bI (inB p1 0 7 && inB p2 0 7)), .ref (am 0)]) rfl ?_
    refine lv_if_eq (tgt := 20) hx hb dX5_told_13 (by decide) (fun c_13 => ?_) (fun c_13 => ?_)
    · skip
      have c_13 : (inB p1 0 7 && inB p2 0 7) = false := bI_f c_13
      refine lv_iconst (v := 1) hx hb dX5_told_20 (by decide) ?_
      refine g_callV (As := [.int 1]) (rest := []) (q0 := 0) C0 G (c_X5_holds l D cy (am := am) (mf := mf) (mb := mb) (mv := mv) (th := th) (sv := sv) (X := X) (ln := ln) (ap := ap) (le := le) (fc := fc) (f1 := f1) (f2 := f2) (ha := ha) (R := R) (B := B) (pl := 1) (by omega)) k_X5_holds ml_X5_92 rfl rfl dX5_told_21 rfl rfl hl.1 (Nat.le_of_ble_eq_true rfl) ⟨Nat.le_of_ble_eq_true rfl, Nat.le_of_ble_eq_true rfl⟩ ⟨Nat.le_of_ble_eq_true rfl, Nat.le_of_ble_eq_true rfl⟩ (fun r W2 H locs hp G => ?_)
      obtain ⟨rfl, hw⟩ := hp
      have G := g_wc hw G
      refine W.eq (g2 := F0 m 24 ls [.int (bI (decide (1 = 0)))]) rfl ?_
      refine lv_if_ne (tgt := 29) hx hb dX5_told_24 (by decide) (fun c_24 => ?_) (fun c_24 => ?_)
      · skip
        have c_24 : (decide (1 = 0)) = true := bI_t c_24
        exact absurd ((by decide) : (decide (1 = 0)) = false) (by rw [c_24]; decide)
      · skip
        have c_24 : (decide (1 = 0)) = false := bI_f c_24
        refine lv_iconst (v := 0) hx hb dX5_told_27 (by decide) ?_
        exact g_iret C0 G ⟨by first | rfl | (exfalso; omega) | (simp only [c_5, c_13, c_24, Bool.false_eq_true, ↓reduceIte, eq_self, decide_true, decide_false, not_true_eq_false, not_false_eq_true, Bool.true_and, Bool.false_and, Bool.and_true, Bool.and_false]; done) | (simp [c_5, c_13, c_24]; done) | (simp [c_5, c_13, c_24]; rfl) | (simp [c_5, c_13, c_24]; omega), by first | rfl | (exfalso; omega) | (simp only [c_5, c_13, c_24, Bool.false_eq_true, ↓reduceIte, eq_self, decide_true, decide_false, not_true_eq_false, not_false_eq_true, Bool.true_and, Bool.false_and, Bool.and_true, Bool.and_false]; done) | (simp [c_5, c_13, c_24]; done) | (simp [c_5, c_13, c_24]; rfl) | (simp [c_5, c_13, c_24]; omega)⟩ dX5_told_28
    · skip
      have c_13 : (inB p1 0 7 && inB p2 0 7) = true := bI_t c_13
      rw [c_5, c_13] at he; exact absurd he (by decide)

set_option maxHeartbeats 4000000 in
set_option maxRecDepth 100000 in
theorem c_X5_untoldIf_e1 (l : Launch) (D : va_G) (cy : Nat → ClassId) (am : Nat → Nat) (mf : Nat → Int64) (mb : Nat → Int64) (mv : Nat → Nat) (th : Int32) (sv : Nat) (X : Nat → Int32) (ln : Nat) (ap : Nat) (le : Nat) (fc : Nat) (f1 : Int32) (f2 : Int32) (ha : Int64) (R : va_W) (B : Nat → Int32) (p0 : Int32) (p1 : Int32) (p2 : Int32) (he : (inB p0 0 2 && (inB p1 0 7 && inB p2 0 7)) = false) : GE l D (gts cy) yX5_untoldIf cX5_untoldIf 4 (some .int) 5 0 0 [.ref (am 0), .int p0, .int p1, .int p2] (wM am cy th (cS mf mb mv) sv X ln ap le fc f1 f2 (B) ha R) (gF (some (.int 0)) (wM am cy (nI 1) (cS mf mb mv) sv X ln ap le fc f1 f2 (B) ha R)) := by
  refine g_intro (by decide +kernel) (lv := [(0, .ref (am 0)), (1, .int p0), (2, .int p1), (3, .int p2)]) rfl (Nat.le_of_ble_eq_true rfl) ?_
  intro p e s m below meth c C0 G ls hl
  have hx := C0.1
  have hb := C0.2.1
  have hown := C0.2.2.2.2.2.1
  have hts := C0.2.2.2.2.2.2.1
  refine lv_aload_n hx hb dX5_untoldIf_0 rfl (lv_at hl 0 rfl) ?_
  refine lv_iload_n hx hb dX5_untoldIf_1 rfl (lv_at hl 1 rfl) ?_
  refine g_callS (As := [.int p0]) (rest := [.ref (am 0)]) C0 G (c_X5_isCard l D cy (W1 := wM am cy th (cS mf mb mv) sv X ln ap le fc f1 f2 (B) ha R) (u := p0) ) k_X5_isCard ml_X5_89 dX5_untoldIf_2 rfl rfl hl.1 (Nat.le_of_ble_eq_true rfl) ⟨Nat.le_of_ble_eq_true rfl, Nat.le_of_ble_eq_true rfl⟩ ⟨Nat.le_of_ble_eq_true rfl, Nat.le_of_ble_eq_true rfl⟩ (fun r W2 H locs hp G => ?_)
  obtain ⟨rfl, hw⟩ := hp
  have G := g_wc hw G
  refine W.eq (g2 := F0 m 5 ls [.int (bI (inB p0 0 2)), .ref (am 0)]) rfl ?_
  refine lv_if_eq (tgt := 20) hx hb dX5_untoldIf_5 (by decide) (fun c_5 => ?_) (fun c_5 => ?_)
  · skip
    have c_5 : (inB p0 0 2) = false := bI_f c_5
    refine lv_iconst (v := 1) hx hb dX5_untoldIf_20 (by decide) ?_
    refine g_callV (As := [.int 1]) (rest := []) (q0 := 0) C0 G (c_X5_holds l D cy (am := am) (mf := mf) (mb := mb) (mv := mv) (th := th) (sv := sv) (X := X) (ln := ln) (ap := ap) (le := le) (fc := fc) (f1 := f1) (f2 := f2) (ha := ha) (R := R) (B := B) (pl := 1) (by omega)) k_X5_holds ml_X5_92 rfl rfl dX5_untoldIf_21 rfl rfl hl.1 (Nat.le_of_ble_eq_true rfl) ⟨Nat.le_of_ble_eq_true rfl, Nat.le_of_ble_eq_true rfl⟩ ⟨Nat.le_of_ble_eq_true rfl, Nat.le_of_ble_eq_true rfl⟩ (fun r W2 H locs hp G => ?_)
    obtain ⟨rfl, hw⟩ := hp
    have G := g_wc hw G
    refine W.eq (g2 := F0 m 24 ls [.int (bI (decide (1 = 0)))]) rfl ?_
    refine lv_if_eq (tgt := 41) hx hb dX5_untoldIf_24 (by decide) (fun c_24 => ?_) (fun c_24 => ?_)
    · skip
      have c_24 : (decide (1 = 0)) = false := bI_f c_24
      refine lv_iconst (v := 0) hx hb dX5_untoldIf_41 (by decide) ?_
      exact g_iret C0 G ⟨by first | rfl | (exfalso; omega) | (simp only [c_5, c_24, Bool.false_eq_true, ↓reduceIte, eq_self, decide_true, decide_false, not_true_eq_false, not_false_eq_true, Bool.true_and, Bool.false_and, Bool.and_true, Bool.and_false]; done) | (simp [c_5, c_24]; done) | (simp [c_5, c_24]; rfl) | (simp [c_5, c_24]; omega), by first | rfl | (exfalso; omega) | (simp only [c_5, c_24, Bool.false_eq_true, ↓reduceIte, eq_self, decide_true, decide_false, not_true_eq_false, not_false_eq_true, Bool.true_and, Bool.false_and, Bool.and_true, Bool.and_false]; done) | (simp [c_5, c_24]; done) | (simp [c_5, c_24]; rfl) | (simp [c_5, c_24]; omega)⟩ dX5_untoldIf_42
    · skip
      have c_24 : (decide (1 = 0)) = true := bI_t c_24
      exact absurd ((by decide) : (decide (1 = 0)) = false) (by rw [c_24]; decide)
  · skip
    have c_5 : (inB p0 0 2) = true := bI_t c_5
    refine lv_iload_n hx hb dX5_untoldIf_8 rfl (lv_at hl 2 rfl) ?_
    refine lv_iload_n hx hb dX5_untoldIf_9 rfl (lv_at hl 3 rfl) ?_
    refine g_callS (As := [.int p1, .int p2]) (rest := [.ref (am 0)]) C0 G (c_X5_isCell l D cy (W1 := wM am cy th (cS mf mb mv) sv X ln ap le fc f1 f2 (B) ha R) (u := p1) (w := p2) ) k_X5_isCell ml_X5_110 dX5_untoldIf_10 rfl rfl hl.1 (Nat.le_of_ble_eq_true rfl) ⟨Nat.le_of_ble_eq_true rfl, Nat.le_of_ble_eq_true rfl⟩ ⟨Nat.le_of_ble_eq_true rfl, Nat.le_of_ble_eq_true rfl⟩ (fun r W2 H locs hp G => ?_)
    obtain ⟨rfl, hw⟩ := hp
    have G := g_wc hw G
    refine W.eq (g2 := F0 m 13 ls [.int (bI (inB p1 0 7 && inB p2 0 7)), .ref (am 0)]) rfl ?_
    refine lv_if_eq (tgt := 20) hx hb dX5_untoldIf_13 (by decide) (fun c_13 => ?_) (fun c_13 => ?_)
    · skip
      have c_13 : (inB p1 0 7 && inB p2 0 7) = false := bI_f c_13
      refine lv_iconst (v := 1) hx hb dX5_untoldIf_20 (by decide) ?_
      refine g_callV (As := [.int 1]) (rest := []) (q0 := 0) C0 G (c_X5_holds l D cy (am := am) (mf := mf) (mb := mb) (mv := mv) (th := th) (sv := sv) (X := X) (ln := ln) (ap := ap) (le := le) (fc := fc) (f1 := f1) (f2 := f2) (ha := ha) (R := R) (B := B) (pl := 1) (by omega)) k_X5_holds ml_X5_92 rfl rfl dX5_untoldIf_21 rfl rfl hl.1 (Nat.le_of_ble_eq_true rfl) ⟨Nat.le_of_ble_eq_true rfl, Nat.le_of_ble_eq_true rfl⟩ ⟨Nat.le_of_ble_eq_true rfl, Nat.le_of_ble_eq_true rfl⟩ (fun r W2 H locs hp G => ?_)
      obtain ⟨rfl, hw⟩ := hp
      have G := g_wc hw G
      refine W.eq (g2 := F0 m 24 ls [.int (bI (decide (1 = 0)))]) rfl ?_
      refine lv_if_eq (tgt := 41) hx hb dX5_untoldIf_24 (by decide) (fun c_24 => ?_) (fun c_24 => ?_)
      · skip
        have c_24 : (decide (1 = 0)) = false := bI_f c_24
        refine lv_iconst (v := 0) hx hb dX5_untoldIf_41 (by decide) ?_
        exact g_iret C0 G ⟨by first | rfl | (exfalso; omega) | (simp only [c_5, c_13, c_24, Bool.false_eq_true, ↓reduceIte, eq_self, decide_true, decide_false, not_true_eq_false, not_false_eq_true, Bool.true_and, Bool.false_and, Bool.and_true, Bool.and_false]; done) | (simp [c_5, c_13, c_24]; done) | (simp [c_5, c_13, c_24]; rfl) | (simp [c_5, c_13, c_24]; omega), by first | rfl | (exfalso; omega) | (simp only [c_5, c_13, c_24, Bool.false_eq_true, ↓reduceIte, eq_self, decide_true, decide_false, not_true_eq_false, not_false_eq_true, Bool.true_and, Bool.false_and, Bool.and_true, Bool.and_false]; done) | (simp [c_5, c_13, c_24]; done) | (simp [c_5, c_13, c_24]; rfl) | (simp [c_5, c_13, c_24]; omega)⟩ dX5_untoldIf_42
      · skip
        have c_24 : (decide (1 = 0)) = true := bI_t c_24
        exact absurd ((by decide) : (decide (1 = 0)) = false) (by rw [c_24]; decide)
    · skip
      have c_13 : (inB p1 0 7 && inB p2 0 7) = true := bI_t c_13
      rw [c_5, c_13] at he; exact absurd he (by decide)

set_option maxHeartbeats 4000000 in
set_option maxRecDepth 100000 in
theorem c_X5_raw_e1 (l : Launch) (D : va_G) (cy : Nat → ClassId) (am : Nat → Nat) (mf : Nat → Int64) (mb : Nat → Int64) (mv : Nat → Nat) (th : Int32) (sv : Nat) (X : Nat → Int32) (ln : Nat) (ap : Nat) (le : Nat) (fc : Nat) (f1 : Int32) (f2 : Int32) (ha : Int64) (R : va_W) (B : Nat → Int32) (p0 : Int32) (p1 : Int32) (he : (inB p0 0 2 && inB p1 (0 : Int32) (7 : Int32)) = false) : GE l D (gts cy) yX5_raw cX5_raw 3 (some .int) 3 0 0 [.ref (am 0), .int p0, .int p1] (wM am cy th (cS mf mb mv) sv X ln ap le fc f1 f2 (B) ha R) (gF (some (.int 0)) (wM am cy (nI 1) (cS mf mb mv) sv X ln ap le fc f1 f2 (B) ha R)) := by
  refine g_intro (by decide +kernel) (lv := [(0, .ref (am 0)), (1, .int p0), (2, .int p1)]) rfl (Nat.le_of_ble_eq_true rfl) ?_
  intro p e s m below meth c C0 G ls hl
  have hx := C0.1
  have hb := C0.2.1
  have hown := C0.2.2.2.2.2.1
  have hts := C0.2.2.2.2.2.2.1
  refine lv_aload_n hx hb dX5_raw_0 rfl (lv_at hl 0 rfl) ?_
  refine lv_iload_n hx hb dX5_raw_1 rfl (lv_at hl 1 rfl) ?_
  refine g_callS (As := [.int p0]) (rest := [.ref (am 0)]) C0 G (c_X5_isCard l D cy (W1 := wM am cy th (cS mf mb mv) sv X ln ap le fc f1 f2 (B) ha R) (u := p0) ) k_X5_isCard ml_X5_89 dX5_raw_2 rfl rfl hl.1 (Nat.le_of_ble_eq_true rfl) ⟨Nat.le_of_ble_eq_true rfl, Nat.le_of_ble_eq_true rfl⟩ ⟨Nat.le_of_ble_eq_true rfl, Nat.le_of_ble_eq_true rfl⟩ (fun r W2 H locs hp G => ?_)
  obtain ⟨rfl, hw⟩ := hp
  have G := g_wc hw G
  refine W.eq (g2 := F0 m 5 ls [.int (bI (inB p0 0 2)), .ref (am 0)]) rfl ?_
  refine lv_if_eq (tgt := 22) hx hb dX5_raw_5 (by decide) (fun c_5 => ?_) (fun c_5 => ?_)
  · skip
    have c_5 : (inB p0 0 2) = false := bI_f c_5
    refine lv_iconst (v := 1) hx hb dX5_raw_22 (by decide) ?_
    refine g_callV (As := [.int 1]) (rest := []) (q0 := 0) C0 G (c_X5_holds l D cy (am := am) (mf := mf) (mb := mb) (mv := mv) (th := th) (sv := sv) (X := X) (ln := ln) (ap := ap) (le := le) (fc := fc) (f1 := f1) (f2 := f2) (ha := ha) (R := R) (B := B) (pl := 1) (by omega)) k_X5_holds ml_X5_92 rfl rfl dX5_raw_23 rfl rfl hl.1 (Nat.le_of_ble_eq_true rfl) ⟨Nat.le_of_ble_eq_true rfl, Nat.le_of_ble_eq_true rfl⟩ ⟨Nat.le_of_ble_eq_true rfl, Nat.le_of_ble_eq_true rfl⟩ (fun r W2 H locs hp G => ?_)
    obtain ⟨rfl, hw⟩ := hp
    have G := g_wc hw G
    refine W.eq (g2 := F0 m 26 ls [.int (bI (decide (1 = 0)))]) rfl ?_
    refine lv_if_eq (tgt := 38) hx hb dX5_raw_26 (by decide) (fun c_26 => ?_) (fun c_26 => ?_)
    · skip
      have c_26 : (decide (1 = 0)) = false := bI_f c_26
      refine lv_iconst (v := 0) hx hb dX5_raw_38 (by decide) ?_
      exact g_iret C0 G ⟨by first | rfl | (exfalso; omega) | (simp only [c_5, c_26, Bool.false_eq_true, ↓reduceIte, eq_self, decide_true, decide_false, not_true_eq_false, not_false_eq_true, Bool.true_and, Bool.false_and, Bool.and_true, Bool.and_false]; done) | (simp [c_5, c_26]; done) | (simp [c_5, c_26]; rfl) | (simp [c_5, c_26]; omega), by first | rfl | (exfalso; omega) | (simp only [c_5, c_26, Bool.false_eq_true, ↓reduceIte, eq_self, decide_true, decide_false, not_true_eq_false, not_false_eq_true, Bool.true_and, Bool.false_and, Bool.and_true, Bool.and_false]; done) | (simp [c_5, c_26]; done) | (simp [c_5, c_26]; rfl) | (simp [c_5, c_26]; omega)⟩ dX5_raw_39
    · skip
      have c_26 : (decide (1 = 0)) = true := bI_t c_26
      exact absurd ((by decide) : (decide (1 = 0)) = false) (by rw [c_26]; decide)
  · skip
    have c_5 : (inB p0 0 2) = true := bI_t c_5
    refine lv_iload_n hx hb dX5_raw_8 rfl (lv_at hl 2 rfl) ?_
    refine lv_iconst (v := 0) hx hb dX5_raw_9 (by decide) ?_
    refine lv_bipush (v := 7) hx hb dX5_raw_10 (by decide) ?_
    refine g_callS (As := [.int p1, .int 0, .int 7]) (rest := [.ref (am 0)]) C0 G (c_X5_in l D cy (W1 := wM am cy th (cS mf mb mv) sv X ln ap le fc f1 f2 (B) ha R) (u := p1) (lo := (0 : Int32)) (hi := (7 : Int32)) ) k_X5_in ml_X5_27 dX5_raw_12 rfl rfl hl.1 (Nat.le_of_ble_eq_true rfl) ⟨Nat.le_of_ble_eq_true rfl, Nat.le_of_ble_eq_true rfl⟩ ⟨Nat.le_of_ble_eq_true rfl, Nat.le_of_ble_eq_true rfl⟩ (fun r W2 H locs hp G => ?_)
    obtain ⟨rfl, hw⟩ := hp
    have G := g_wc hw G
    refine W.eq (g2 := F0 m 15 ls [.int (bI (inB p1 (0 : Int32) (7 : Int32))), .ref (am 0)]) rfl ?_
    refine lv_if_eq (tgt := 22) hx hb dX5_raw_15 (by decide) (fun c_15 => ?_) (fun c_15 => ?_)
    · skip
      have c_15 : (inB p1 (0 : Int32) (7 : Int32)) = false := bI_f c_15
      refine lv_iconst (v := 1) hx hb dX5_raw_22 (by decide) ?_
      refine g_callV (As := [.int 1]) (rest := []) (q0 := 0) C0 G (c_X5_holds l D cy (am := am) (mf := mf) (mb := mb) (mv := mv) (th := th) (sv := sv) (X := X) (ln := ln) (ap := ap) (le := le) (fc := fc) (f1 := f1) (f2 := f2) (ha := ha) (R := R) (B := B) (pl := 1) (by omega)) k_X5_holds ml_X5_92 rfl rfl dX5_raw_23 rfl rfl hl.1 (Nat.le_of_ble_eq_true rfl) ⟨Nat.le_of_ble_eq_true rfl, Nat.le_of_ble_eq_true rfl⟩ ⟨Nat.le_of_ble_eq_true rfl, Nat.le_of_ble_eq_true rfl⟩ (fun r W2 H locs hp G => ?_)
      obtain ⟨rfl, hw⟩ := hp
      have G := g_wc hw G
      refine W.eq (g2 := F0 m 26 ls [.int (bI (decide (1 = 0)))]) rfl ?_
      refine lv_if_eq (tgt := 38) hx hb dX5_raw_26 (by decide) (fun c_26 => ?_) (fun c_26 => ?_)
      · skip
        have c_26 : (decide (1 = 0)) = false := bI_f c_26
        refine lv_iconst (v := 0) hx hb dX5_raw_38 (by decide) ?_
        exact g_iret C0 G ⟨by first | rfl | (exfalso; omega) | (simp only [c_5, c_15, c_26, Bool.false_eq_true, ↓reduceIte, eq_self, decide_true, decide_false, not_true_eq_false, not_false_eq_true, Bool.true_and, Bool.false_and, Bool.and_true, Bool.and_false]; done) | (simp [c_5, c_15, c_26]; done) | (simp [c_5, c_15, c_26]; rfl) | (simp [c_5, c_15, c_26]; omega), by first | rfl | (exfalso; omega) | (simp only [c_5, c_15, c_26, Bool.false_eq_true, ↓reduceIte, eq_self, decide_true, decide_false, not_true_eq_false, not_false_eq_true, Bool.true_and, Bool.false_and, Bool.and_true, Bool.and_false]; done) | (simp [c_5, c_15, c_26]; done) | (simp [c_5, c_15, c_26]; rfl) | (simp [c_5, c_15, c_26]; omega)⟩ dX5_raw_39
      · skip
        have c_26 : (decide (1 = 0)) = true := bI_t c_26
        exact absurd ((by decide) : (decide (1 = 0)) = false) (by rw [c_26]; decide)
    · skip
      have c_15 : (inB p1 (0 : Int32) (7 : Int32)) = true := bI_t c_15
      rw [c_5, c_15] at he; exact absurd he (by decide)

set_option maxHeartbeats 4000000 in
set_option maxRecDepth 100000 in
theorem c_X5_read_e1 (l : Launch) (D : va_G) (cy : Nat → ClassId) (am : Nat → Nat) (mf : Nat → Int64) (mb : Nat → Int64) (mv : Nat → Nat) (th : Int32) (sv : Nat) (X : Nat → Int32) (ln : Nat) (ap : Nat) (le : Nat) (fc : Nat) (f1 : Int32) (f2 : Int32) (ha : Int64) (R : va_W) (B : Nat → Int32) (p0 : Int32) (p1 : Int32) (he : (inB p0 0 2 && inB p1 (0 : Int32) (6 : Int32)) = false) : GE l D (gts cy) yX5_read cX5_read 3 (some .int) 2 0 0 [.ref (am 0), .int p0, .int p1] (wM am cy th (cS mf mb mv) sv X ln ap le fc f1 f2 (B) ha R) (gF (some (.int 0)) (wM am cy (nI 1) (cS mf mb mv) sv X ln ap le fc f1 f2 (B) ha R)) := by
  refine g_intro (by decide +kernel) (lv := [(0, .ref (am 0)), (1, .int p0), (2, .int p1)]) rfl (Nat.le_of_ble_eq_true rfl) ?_
  intro p e s m below meth c C0 G ls hl
  have hx := C0.1
  have hb := C0.2.1
  have hown := C0.2.2.2.2.2.1
  have hts := C0.2.2.2.2.2.2.1
  refine lv_aload_n hx hb dX5_read_0 rfl (lv_at hl 0 rfl) ?_
  refine lv_iload_n hx hb dX5_read_1 rfl (lv_at hl 1 rfl) ?_
  refine g_callS (As := [.int p0]) (rest := [.ref (am 0)]) C0 G (c_X5_isCard l D cy (W1 := wM am cy th (cS mf mb mv) sv X ln ap le fc f1 f2 (B) ha R) (u := p0) ) k_X5_isCard ml_X5_89 dX5_read_2 rfl rfl hl.1 (Nat.le_of_ble_eq_true rfl) ⟨Nat.le_of_ble_eq_true rfl, Nat.le_of_ble_eq_true rfl⟩ ⟨Nat.le_of_ble_eq_true rfl, Nat.le_of_ble_eq_true rfl⟩ (fun r W2 H locs hp G => ?_)
  obtain ⟨rfl, hw⟩ := hp
  have G := g_wc hw G
  refine W.eq (g2 := F0 m 5 ls [.int (bI (inB p0 0 2)), .ref (am 0)]) rfl ?_
  refine lv_if_eq (tgt := 22) hx hb dX5_read_5 (by decide) (fun c_5 => ?_) (fun c_5 => ?_)
  · skip
    have c_5 : (inB p0 0 2) = false := bI_f c_5
    refine lv_iconst (v := 1) hx hb dX5_read_22 (by decide) ?_
    refine g_callV (As := [.int 1]) (rest := []) (q0 := 0) C0 G (c_X5_holds l D cy (am := am) (mf := mf) (mb := mb) (mv := mv) (th := th) (sv := sv) (X := X) (ln := ln) (ap := ap) (le := le) (fc := fc) (f1 := f1) (f2 := f2) (ha := ha) (R := R) (B := B) (pl := 1) (by omega)) k_X5_holds ml_X5_92 rfl rfl dX5_read_23 rfl rfl hl.1 (Nat.le_of_ble_eq_true rfl) ⟨Nat.le_of_ble_eq_true rfl, Nat.le_of_ble_eq_true rfl⟩ ⟨Nat.le_of_ble_eq_true rfl, Nat.le_of_ble_eq_true rfl⟩ (fun r W2 H locs hp G => ?_)
    obtain ⟨rfl, hw⟩ := hp
    have G := g_wc hw G
    refine W.eq (g2 := F0 m 26 ls [.int (bI (decide (1 = 0)))]) rfl ?_
    refine lv_if_eq (tgt := 38) hx hb dX5_read_26 (by decide) (fun c_26 => ?_) (fun c_26 => ?_)
    · skip
      have c_26 : (decide (1 = 0)) = false := bI_f c_26
      refine lv_iconst (v := 0) hx hb dX5_read_38 (by decide) ?_
      exact g_iret C0 G ⟨by first | rfl | (exfalso; omega) | (simp only [c_5, c_26, Bool.false_eq_true, ↓reduceIte, eq_self, decide_true, decide_false, not_true_eq_false, not_false_eq_true, Bool.true_and, Bool.false_and, Bool.and_true, Bool.and_false]; done) | (simp [c_5, c_26]; done) | (simp [c_5, c_26]; rfl) | (simp [c_5, c_26]; omega), by first | rfl | (exfalso; omega) | (simp only [c_5, c_26, Bool.false_eq_true, ↓reduceIte, eq_self, decide_true, decide_false, not_true_eq_false, not_false_eq_true, Bool.true_and, Bool.false_and, Bool.and_true, Bool.and_false]; done) | (simp [c_5, c_26]; done) | (simp [c_5, c_26]; rfl) | (simp [c_5, c_26]; omega)⟩ dX5_read_39
    · skip
      have c_26 : (decide (1 = 0)) = true := bI_t c_26
      exact absurd ((by decide) : (decide (1 = 0)) = false) (by rw [c_26]; decide)
  · skip
    have c_5 : (inB p0 0 2) = true := bI_t c_5
    refine lv_iload_n hx hb dX5_read_8 rfl (lv_at hl 2 rfl) ?_
    refine lv_iconst (v := 0) hx hb dX5_read_9 (by decide) ?_
    refine lv_bipush (v := 6) hx hb dX5_read_10 (by decide) ?_
    refine g_callS (As := [.int p1, .int 0, .int 6]) (rest := [.ref (am 0)]) C0 G (c_X5_in l D cy (W1 := wM am cy th (cS mf mb mv) sv X ln ap le fc f1 f2 (B) ha R) (u := p1) (lo := (0 : Int32)) (hi := (6 : Int32)) ) k_X5_in ml_X5_27 dX5_read_12 rfl rfl hl.1 (Nat.le_of_ble_eq_true rfl) ⟨Nat.le_of_ble_eq_true rfl, Nat.le_of_ble_eq_true rfl⟩ ⟨Nat.le_of_ble_eq_true rfl, Nat.le_of_ble_eq_true rfl⟩ (fun r W2 H locs hp G => ?_)
    obtain ⟨rfl, hw⟩ := hp
    have G := g_wc hw G
    refine W.eq (g2 := F0 m 15 ls [.int (bI (inB p1 (0 : Int32) (6 : Int32))), .ref (am 0)]) rfl ?_
    refine lv_if_eq (tgt := 22) hx hb dX5_read_15 (by decide) (fun c_15 => ?_) (fun c_15 => ?_)
    · skip
      have c_15 : (inB p1 (0 : Int32) (6 : Int32)) = false := bI_f c_15
      refine lv_iconst (v := 1) hx hb dX5_read_22 (by decide) ?_
      refine g_callV (As := [.int 1]) (rest := []) (q0 := 0) C0 G (c_X5_holds l D cy (am := am) (mf := mf) (mb := mb) (mv := mv) (th := th) (sv := sv) (X := X) (ln := ln) (ap := ap) (le := le) (fc := fc) (f1 := f1) (f2 := f2) (ha := ha) (R := R) (B := B) (pl := 1) (by omega)) k_X5_holds ml_X5_92 rfl rfl dX5_read_23 rfl rfl hl.1 (Nat.le_of_ble_eq_true rfl) ⟨Nat.le_of_ble_eq_true rfl, Nat.le_of_ble_eq_true rfl⟩ ⟨Nat.le_of_ble_eq_true rfl, Nat.le_of_ble_eq_true rfl⟩ (fun r W2 H locs hp G => ?_)
      obtain ⟨rfl, hw⟩ := hp
      have G := g_wc hw G
      refine W.eq (g2 := F0 m 26 ls [.int (bI (decide (1 = 0)))]) rfl ?_
      refine lv_if_eq (tgt := 38) hx hb dX5_read_26 (by decide) (fun c_26 => ?_) (fun c_26 => ?_)
      · skip
        have c_26 : (decide (1 = 0)) = false := bI_f c_26
        refine lv_iconst (v := 0) hx hb dX5_read_38 (by decide) ?_
        exact g_iret C0 G ⟨by first | rfl | (exfalso; omega) | (simp only [c_5, c_15, c_26, Bool.false_eq_true, ↓reduceIte, eq_self, decide_true, decide_false, not_true_eq_false, not_false_eq_true, Bool.true_and, Bool.false_and, Bool.and_true, Bool.and_false]; done) | (simp [c_5, c_15, c_26]; done) | (simp [c_5, c_15, c_26]; rfl) | (simp [c_5, c_15, c_26]; omega), by first | rfl | (exfalso; omega) | (simp only [c_5, c_15, c_26, Bool.false_eq_true, ↓reduceIte, eq_self, decide_true, decide_false, not_true_eq_false, not_false_eq_true, Bool.true_and, Bool.false_and, Bool.and_true, Bool.and_false]; done) | (simp [c_5, c_15, c_26]; done) | (simp [c_5, c_15, c_26]; rfl) | (simp [c_5, c_15, c_26]; omega)⟩ dX5_read_39
      · skip
        have c_26 : (decide (1 = 0)) = true := bI_t c_26
        exact absurd ((by decide) : (decide (1 = 0)) = false) (by rw [c_26]; decide)
    · skip
      have c_15 : (inB p1 (0 : Int32) (6 : Int32)) = true := bI_t c_15
      rw [c_5, c_15] at he; exact absurd he (by decide)

set_option maxHeartbeats 4000000 in
set_option maxRecDepth 100000 in
theorem c_X5_value_e1 (l : Launch) (D : va_G) (cy : Nat → ClassId) (am : Nat → Nat) (mf : Nat → Int64) (mb : Nat → Int64) (mv : Nat → Nat) (th : Int32) (sv : Nat) (X : Nat → Int32) (ln : Nat) (ap : Nat) (le : Nat) (fc : Nat) (f1 : Int32) (f2 : Int32) (ha : Int64) (R : va_W) (B : Nat → Int32) (p0 : Int32) (p1 : Int32) (he : (inB p0 0 2 && inB p1 (0 : Int32) (6 : Int32)) = false) : GE l D (gts cy) yX5_value cX5_value 3 (some .int) 4 0 0 [.ref (am 0), .int p0, .int p1] (wM am cy th (cS mf mb mv) sv X ln ap le fc f1 f2 (B) ha R) (gF (some (.int 0)) (wM am cy (nI 1) (cS mf mb mv) sv X ln ap le fc f1 f2 (B) ha R)) := by
  refine g_intro (by decide +kernel) (lv := [(0, .ref (am 0)), (1, .int p0), (2, .int p1)]) rfl (Nat.le_of_ble_eq_true rfl) ?_
  intro p e s m below meth c C0 G ls hl
  have hx := C0.1
  have hb := C0.2.1
  have hown := C0.2.2.2.2.2.1
  have hts := C0.2.2.2.2.2.2.1
  refine lv_aload_n hx hb dX5_value_0 rfl (lv_at hl 0 rfl) ?_
  refine lv_iload_n hx hb dX5_value_1 rfl (lv_at hl 1 rfl) ?_
  refine g_callS (As := [.int p0]) (rest := [.ref (am 0)]) C0 G (c_X5_isCard l D cy (W1 := wM am cy th (cS mf mb mv) sv X ln ap le fc f1 f2 (B) ha R) (u := p0) ) k_X5_isCard ml_X5_89 dX5_value_2 rfl rfl hl.1 (Nat.le_of_ble_eq_true rfl) ⟨Nat.le_of_ble_eq_true rfl, Nat.le_of_ble_eq_true rfl⟩ ⟨Nat.le_of_ble_eq_true rfl, Nat.le_of_ble_eq_true rfl⟩ (fun r W2 H locs hp G => ?_)
  obtain ⟨rfl, hw⟩ := hp
  have G := g_wc hw G
  refine W.eq (g2 := F0 m 5 ls [.int (bI (inB p0 0 2)), .ref (am 0)]) rfl ?_
  refine lv_if_eq (tgt := 22) hx hb dX5_value_5 (by decide) (fun c_5 => ?_) (fun c_5 => ?_)
  · skip
    have c_5 : (inB p0 0 2) = false := bI_f c_5
    refine lv_iconst (v := 1) hx hb dX5_value_22 (by decide) ?_
    refine g_callV (As := [.int 1]) (rest := []) (q0 := 0) C0 G (c_X5_holds l D cy (am := am) (mf := mf) (mb := mb) (mv := mv) (th := th) (sv := sv) (X := X) (ln := ln) (ap := ap) (le := le) (fc := fc) (f1 := f1) (f2 := f2) (ha := ha) (R := R) (B := B) (pl := 1) (by omega)) k_X5_holds ml_X5_92 rfl rfl dX5_value_23 rfl rfl hl.1 (Nat.le_of_ble_eq_true rfl) ⟨Nat.le_of_ble_eq_true rfl, Nat.le_of_ble_eq_true rfl⟩ ⟨Nat.le_of_ble_eq_true rfl, Nat.le_of_ble_eq_true rfl⟩ (fun r W2 H locs hp G => ?_)
    obtain ⟨rfl, hw⟩ := hp
    have G := g_wc hw G
    refine W.eq (g2 := F0 m 26 ls [.int (bI (decide (1 = 0)))]) rfl ?_
    refine lv_if_ne (tgt := 31) hx hb dX5_value_26 (by decide) (fun c_26 => ?_) (fun c_26 => ?_)
    · skip
      have c_26 : (decide (1 = 0)) = true := bI_t c_26
      exact absurd ((by decide) : (decide (1 = 0)) = false) (by rw [c_26]; decide)
    · skip
      have c_26 : (decide (1 = 0)) = false := bI_f c_26
      refine lv_iconst (v := 0) hx hb dX5_value_29 (by decide) ?_
      exact g_iret C0 G ⟨by first | rfl | (exfalso; omega) | (simp only [c_5, c_26, Bool.false_eq_true, ↓reduceIte, eq_self, decide_true, decide_false, not_true_eq_false, not_false_eq_true, Bool.true_and, Bool.false_and, Bool.and_true, Bool.and_false]; done) | (simp [c_5, c_26]; done) | (simp [c_5, c_26]; rfl) | (simp [c_5, c_26]; omega), by first | rfl | (exfalso; omega) | (simp only [c_5, c_26, Bool.false_eq_true, ↓reduceIte, eq_self, decide_true, decide_false, not_true_eq_false, not_false_eq_true, Bool.true_and, Bool.false_and, Bool.and_true, Bool.and_false]; done) | (simp [c_5, c_26]; done) | (simp [c_5, c_26]; rfl) | (simp [c_5, c_26]; omega)⟩ dX5_value_30
  · skip
    have c_5 : (inB p0 0 2) = true := bI_t c_5
    refine lv_iload_n hx hb dX5_value_8 rfl (lv_at hl 2 rfl) ?_
    refine lv_iconst (v := 0) hx hb dX5_value_9 (by decide) ?_
    refine lv_bipush (v := 6) hx hb dX5_value_10 (by decide) ?_
    refine g_callS (As := [.int p1, .int 0, .int 6]) (rest := [.ref (am 0)]) C0 G (c_X5_in l D cy (W1 := wM am cy th (cS mf mb mv) sv X ln ap le fc f1 f2 (B) ha R) (u := p1) (lo := (0 : Int32)) (hi := (6 : Int32)) ) k_X5_in ml_X5_27 dX5_value_12 rfl rfl hl.1 (Nat.le_of_ble_eq_true rfl) ⟨Nat.le_of_ble_eq_true rfl, Nat.le_of_ble_eq_true rfl⟩ ⟨Nat.le_of_ble_eq_true rfl, Nat.le_of_ble_eq_true rfl⟩ (fun r W2 H locs hp G => ?_)
    obtain ⟨rfl, hw⟩ := hp
    have G := g_wc hw G
    refine W.eq (g2 := F0 m 15 ls [.int (bI (inB p1 (0 : Int32) (6 : Int32))), .ref (am 0)]) rfl ?_
    refine lv_if_eq (tgt := 22) hx hb dX5_value_15 (by decide) (fun c_15 => ?_) (fun c_15 => ?_)
    · skip
      have c_15 : (inB p1 (0 : Int32) (6 : Int32)) = false := bI_f c_15
      refine lv_iconst (v := 1) hx hb dX5_value_22 (by decide) ?_
      refine g_callV (As := [.int 1]) (rest := []) (q0 := 0) C0 G (c_X5_holds l D cy (am := am) (mf := mf) (mb := mb) (mv := mv) (th := th) (sv := sv) (X := X) (ln := ln) (ap := ap) (le := le) (fc := fc) (f1 := f1) (f2 := f2) (ha := ha) (R := R) (B := B) (pl := 1) (by omega)) k_X5_holds ml_X5_92 rfl rfl dX5_value_23 rfl rfl hl.1 (Nat.le_of_ble_eq_true rfl) ⟨Nat.le_of_ble_eq_true rfl, Nat.le_of_ble_eq_true rfl⟩ ⟨Nat.le_of_ble_eq_true rfl, Nat.le_of_ble_eq_true rfl⟩ (fun r W2 H locs hp G => ?_)
      obtain ⟨rfl, hw⟩ := hp
      have G := g_wc hw G
      refine W.eq (g2 := F0 m 26 ls [.int (bI (decide (1 = 0)))]) rfl ?_
      refine lv_if_ne (tgt := 31) hx hb dX5_value_26 (by decide) (fun c_26 => ?_) (fun c_26 => ?_)
      · skip
        have c_26 : (decide (1 = 0)) = true := bI_t c_26
        exact absurd ((by decide) : (decide (1 = 0)) = false) (by rw [c_26]; decide)
      · skip
        have c_26 : (decide (1 = 0)) = false := bI_f c_26
        refine lv_iconst (v := 0) hx hb dX5_value_29 (by decide) ?_
        exact g_iret C0 G ⟨by first | rfl | (exfalso; omega) | (simp only [c_5, c_15, c_26, Bool.false_eq_true, ↓reduceIte, eq_self, decide_true, decide_false, not_true_eq_false, not_false_eq_true, Bool.true_and, Bool.false_and, Bool.and_true, Bool.and_false]; done) | (simp [c_5, c_15, c_26]; done) | (simp [c_5, c_15, c_26]; rfl) | (simp [c_5, c_15, c_26]; omega), by first | rfl | (exfalso; omega) | (simp only [c_5, c_15, c_26, Bool.false_eq_true, ↓reduceIte, eq_self, decide_true, decide_false, not_true_eq_false, not_false_eq_true, Bool.true_and, Bool.false_and, Bool.and_true, Bool.and_false]; done) | (simp [c_5, c_15, c_26]; done) | (simp [c_5, c_15, c_26]; rfl) | (simp [c_5, c_15, c_26]; omega)⟩ dX5_value_30
    · skip
      have c_15 : (inB p1 (0 : Int32) (6 : Int32)) = true := bI_t c_15
      rw [c_5, c_15] at he; exact absurd he (by decide)

set_option maxHeartbeats 4000000 in
set_option maxRecDepth 100000 in
theorem c_X5_count_e1 (l : Launch) (D : va_G) (cy : Nat → ClassId) (am : Nat → Nat) (mf : Nat → Int64) (mb : Nat → Int64) (mv : Nat → Nat) (th : Int32) (sv : Nat) (X : Nat → Int32) (ln : Nat) (ap : Nat) (le : Nat) (fc : Nat) (f1 : Int32) (f2 : Int32) (ha : Int64) (R : va_W) (B : Nat → Int32) (p0 : Int32) (p1 : Int32) (he : (inB p0 0 2 && inB p1 (0 : Int32) (3 : Int32)) = false) : GE l D (gts cy) yX5_count cX5_count 3 (some .int) 2 0 0 [.ref (am 0), .int p0, .int p1] (wM am cy th (cS mf mb mv) sv X ln ap le fc f1 f2 (B) ha R) (gF (some (.int 0)) (wM am cy (nI 1) (cS mf mb mv) sv X ln ap le fc f1 f2 (B) ha R)) := by
  refine g_intro (by decide +kernel) (lv := [(0, .ref (am 0)), (1, .int p0), (2, .int p1)]) rfl (Nat.le_of_ble_eq_true rfl) ?_
  intro p e s m below meth c C0 G ls hl
  have hx := C0.1
  have hb := C0.2.1
  have hown := C0.2.2.2.2.2.1
  have hts := C0.2.2.2.2.2.2.1
  refine lv_aload_n hx hb dX5_count_0 rfl (lv_at hl 0 rfl) ?_
  refine lv_iload_n hx hb dX5_count_1 rfl (lv_at hl 1 rfl) ?_
  refine g_callS (As := [.int p0]) (rest := [.ref (am 0)]) C0 G (c_X5_isCard l D cy (W1 := wM am cy th (cS mf mb mv) sv X ln ap le fc f1 f2 (B) ha R) (u := p0) ) k_X5_isCard ml_X5_89 dX5_count_2 rfl rfl hl.1 (Nat.le_of_ble_eq_true rfl) ⟨Nat.le_of_ble_eq_true rfl, Nat.le_of_ble_eq_true rfl⟩ ⟨Nat.le_of_ble_eq_true rfl, Nat.le_of_ble_eq_true rfl⟩ (fun r W2 H locs hp G => ?_)
  obtain ⟨rfl, hw⟩ := hp
  have G := g_wc hw G
  refine W.eq (g2 := F0 m 5 ls [.int (bI (inB p0 0 2)), .ref (am 0)]) rfl ?_
  refine lv_if_eq (tgt := 21) hx hb dX5_count_5 (by decide) (fun c_5 => ?_) (fun c_5 => ?_)
  · skip
    have c_5 : (inB p0 0 2) = false := bI_f c_5
    refine lv_iconst (v := 1) hx hb dX5_count_21 (by decide) ?_
    refine g_callV (As := [.int 1]) (rest := []) (q0 := 0) C0 G (c_X5_holds l D cy (am := am) (mf := mf) (mb := mb) (mv := mv) (th := th) (sv := sv) (X := X) (ln := ln) (ap := ap) (le := le) (fc := fc) (f1 := f1) (f2 := f2) (ha := ha) (R := R) (B := B) (pl := 1) (by omega)) k_X5_holds ml_X5_92 rfl rfl dX5_count_22 rfl rfl hl.1 (Nat.le_of_ble_eq_true rfl) ⟨Nat.le_of_ble_eq_true rfl, Nat.le_of_ble_eq_true rfl⟩ ⟨Nat.le_of_ble_eq_true rfl, Nat.le_of_ble_eq_true rfl⟩ (fun r W2 H locs hp G => ?_)
    obtain ⟨rfl, hw⟩ := hp
    have G := g_wc hw G
    refine W.eq (g2 := F0 m 25 ls [.int (bI (decide (1 = 0)))]) rfl ?_
    refine lv_if_eq (tgt := 37) hx hb dX5_count_25 (by decide) (fun c_25 => ?_) (fun c_25 => ?_)
    · skip
      have c_25 : (decide (1 = 0)) = false := bI_f c_25
      refine lv_iconst (v := 0) hx hb dX5_count_37 (by decide) ?_
      exact g_iret C0 G ⟨by first | rfl | (exfalso; omega) | (simp only [c_5, c_25, Bool.false_eq_true, ↓reduceIte, eq_self, decide_true, decide_false, not_true_eq_false, not_false_eq_true, Bool.true_and, Bool.false_and, Bool.and_true, Bool.and_false]; done) | (simp [c_5, c_25]; done) | (simp [c_5, c_25]; rfl) | (simp [c_5, c_25]; omega), by first | rfl | (exfalso; omega) | (simp only [c_5, c_25, Bool.false_eq_true, ↓reduceIte, eq_self, decide_true, decide_false, not_true_eq_false, not_false_eq_true, Bool.true_and, Bool.false_and, Bool.and_true, Bool.and_false]; done) | (simp [c_5, c_25]; done) | (simp [c_5, c_25]; rfl) | (simp [c_5, c_25]; omega)⟩ dX5_count_38
    · skip
      have c_25 : (decide (1 = 0)) = true := bI_t c_25
      exact absurd ((by decide) : (decide (1 = 0)) = false) (by rw [c_25]; decide)
  · skip
    have c_5 : (inB p0 0 2) = true := bI_t c_5
    refine lv_iload_n hx hb dX5_count_8 rfl (lv_at hl 2 rfl) ?_
    refine lv_iconst (v := 0) hx hb dX5_count_9 (by decide) ?_
    refine lv_iconst (v := 3) hx hb dX5_count_10 (by decide) ?_
    refine g_callS (As := [.int p1, .int 0, .int 3]) (rest := [.ref (am 0)]) C0 G (c_X5_in l D cy (W1 := wM am cy th (cS mf mb mv) sv X ln ap le fc f1 f2 (B) ha R) (u := p1) (lo := (0 : Int32)) (hi := (3 : Int32)) ) k_X5_in ml_X5_27 dX5_count_11 rfl rfl hl.1 (Nat.le_of_ble_eq_true rfl) ⟨Nat.le_of_ble_eq_true rfl, Nat.le_of_ble_eq_true rfl⟩ ⟨Nat.le_of_ble_eq_true rfl, Nat.le_of_ble_eq_true rfl⟩ (fun r W2 H locs hp G => ?_)
    obtain ⟨rfl, hw⟩ := hp
    have G := g_wc hw G
    refine W.eq (g2 := F0 m 14 ls [.int (bI (inB p1 (0 : Int32) (3 : Int32))), .ref (am 0)]) rfl ?_
    refine lv_if_eq (tgt := 21) hx hb dX5_count_14 (by decide) (fun c_14 => ?_) (fun c_14 => ?_)
    · skip
      have c_14 : (inB p1 (0 : Int32) (3 : Int32)) = false := bI_f c_14
      refine lv_iconst (v := 1) hx hb dX5_count_21 (by decide) ?_
      refine g_callV (As := [.int 1]) (rest := []) (q0 := 0) C0 G (c_X5_holds l D cy (am := am) (mf := mf) (mb := mb) (mv := mv) (th := th) (sv := sv) (X := X) (ln := ln) (ap := ap) (le := le) (fc := fc) (f1 := f1) (f2 := f2) (ha := ha) (R := R) (B := B) (pl := 1) (by omega)) k_X5_holds ml_X5_92 rfl rfl dX5_count_22 rfl rfl hl.1 (Nat.le_of_ble_eq_true rfl) ⟨Nat.le_of_ble_eq_true rfl, Nat.le_of_ble_eq_true rfl⟩ ⟨Nat.le_of_ble_eq_true rfl, Nat.le_of_ble_eq_true rfl⟩ (fun r W2 H locs hp G => ?_)
      obtain ⟨rfl, hw⟩ := hp
      have G := g_wc hw G
      refine W.eq (g2 := F0 m 25 ls [.int (bI (decide (1 = 0)))]) rfl ?_
      refine lv_if_eq (tgt := 37) hx hb dX5_count_25 (by decide) (fun c_25 => ?_) (fun c_25 => ?_)
      · skip
        have c_25 : (decide (1 = 0)) = false := bI_f c_25
        refine lv_iconst (v := 0) hx hb dX5_count_37 (by decide) ?_
        exact g_iret C0 G ⟨by first | rfl | (exfalso; omega) | (simp only [c_5, c_14, c_25, Bool.false_eq_true, ↓reduceIte, eq_self, decide_true, decide_false, not_true_eq_false, not_false_eq_true, Bool.true_and, Bool.false_and, Bool.and_true, Bool.and_false]; done) | (simp [c_5, c_14, c_25]; done) | (simp [c_5, c_14, c_25]; rfl) | (simp [c_5, c_14, c_25]; omega), by first | rfl | (exfalso; omega) | (simp only [c_5, c_14, c_25, Bool.false_eq_true, ↓reduceIte, eq_self, decide_true, decide_false, not_true_eq_false, not_false_eq_true, Bool.true_and, Bool.false_and, Bool.and_true, Bool.and_false]; done) | (simp [c_5, c_14, c_25]; done) | (simp [c_5, c_14, c_25]; rfl) | (simp [c_5, c_14, c_25]; omega)⟩ dX5_count_38
      · skip
        have c_25 : (decide (1 = 0)) = true := bI_t c_25
        exact absurd ((by decide) : (decide (1 = 0)) = false) (by rw [c_25]; decide)
    · skip
      have c_14 : (inB p1 (0 : Int32) (3 : Int32)) = true := bI_t c_14
      rw [c_5, c_14] at he; exact absurd he (by decide)

set_option maxHeartbeats 4000000 in
set_option maxRecDepth 100000 in
theorem c_X5_raw_ok (l : Launch) (D : va_G) (cy : Nat → ClassId) (am : Nat → Nat) (mf : Nat → Int64) (mb : Nat → Int64) (mv : Nat → Nat) (th : Int32) (sv : Nat) (X : Nat → Int32) (ln : Nat) (ap : Nat) (le : Nat) (fc : Nat) (f1 : Int32) (f2 : Int32) (ha : Int64) (R : va_W) (B : Nat → Int32) (k : Nat) (i : Nat) (h1 : k < 3) (h2 : i < 8) (hv : mv k < 4) : GE l D (gts cy) yX5_raw cX5_raw 3 (some .int) 3 0 0 [.ref (am 0), .int (nI k), .int (nI i)] (wM am cy th (cS mf mb mv) sv X ln ap le fc f1 f2 (B) ha R) (gF (some (.int (nI (rwN (mf k) (mb k) (mv k) i 8)))) (wM am cy (nI 0) (cS mf mb mv) sv X ln ap le fc f1 f2 (B) ha R)) := by
  refine g_intro (by decide +kernel) (lv := [(0, .ref (am 0)), (1, .int (nI k)), (2, .int (nI i))]) rfl (Nat.le_of_ble_eq_true rfl) ?_
  intro p e s m below meth c C0 G ls hl
  have hx := C0.1
  have hb := C0.2.1
  have hown := C0.2.2.2.2.2.1
  have hts := C0.2.2.2.2.2.2.1
  refine lv_aload_n hx hb dX5_raw_0 rfl (lv_at hl 0 rfl) ?_
  refine lv_iload_n hx hb dX5_raw_1 rfl (lv_at hl 1 rfl) ?_
  refine g_callS (As := [.int (nI k)]) (rest := [.ref (am 0)]) C0 G (c_X5_isCard l D cy (W1 := wM am cy th (cS mf mb mv) sv X ln ap le fc f1 f2 (B) ha R) (u := nI k) ) k_X5_isCard ml_X5_89 dX5_raw_2 rfl rfl hl.1 (Nat.le_of_ble_eq_true rfl) ⟨Nat.le_of_ble_eq_true rfl, Nat.le_of_ble_eq_true rfl⟩ ⟨Nat.le_of_ble_eq_true rfl, Nat.le_of_ble_eq_true rfl⟩ (fun r W2 H locs hp G => ?_)
  obtain ⟨rfl, hw⟩ := hp
  have G := g_wc hw G
  refine W.eq (g2 := F0 m 5 ls [.int (bI (inB (nI k) 0 2)), .ref (am 0)]) rfl ?_
  refine lv_if_eq (tgt := 22) hx hb dX5_raw_5 (by decide) (fun c_5 => ?_) (fun c_5 => ?_)
  · skip
    have c_5 : (inB (nI k) 0 2) = false := bI_f c_5
    exact absurd ((inB_y (n := 2) (by omega) rfl (by decide)) : (inB (nI k) 0 2) = true) (by rw [c_5]; decide)
  · skip
    have c_5 : (inB (nI k) 0 2) = true := bI_t c_5
    refine lv_iload_n hx hb dX5_raw_8 rfl (lv_at hl 2 rfl) ?_
    refine lv_iconst (v := 0) hx hb dX5_raw_9 (by decide) ?_
    refine lv_bipush (v := 7) hx hb dX5_raw_10 (by decide) ?_
    refine g_callS (As := [.int (nI i), .int 0, .int 7]) (rest := [.ref (am 0)]) C0 G (c_X5_in l D cy (W1 := wM am cy th (cS mf mb mv) sv X ln ap le fc f1 f2 (B) ha R) (u := nI i) (lo := (0 : Int32)) (hi := (7 : Int32)) ) k_X5_in ml_X5_27 dX5_raw_12 rfl rfl hl.1 (Nat.le_of_ble_eq_true rfl) ⟨Nat.le_of_ble_eq_true rfl, Nat.le_of_ble_eq_true rfl⟩ ⟨Nat.le_of_ble_eq_true rfl, Nat.le_of_ble_eq_true rfl⟩ (fun r W2 H locs hp G => ?_)
    obtain ⟨rfl, hw⟩ := hp
    have G := g_wc hw G
    refine W.eq (g2 := F0 m 15 ls [.int (bI (inB (nI i) (0 : Int32) (7 : Int32))), .ref (am 0)]) rfl ?_
    refine lv_if_eq (tgt := 22) hx hb dX5_raw_15 (by decide) (fun c_15 => ?_) (fun c_15 => ?_)
    · skip
      have c_15 : (inB (nI i) (0 : Int32) (7 : Int32)) = false := bI_f c_15
      exact absurd ((inB_y (n := 7) (by omega) rfl (by decide)) : (inB (nI i) (0 : Int32) (7 : Int32)) = true) (by rw [c_15]; decide)
    · skip
      have c_15 : (inB (nI i) (0 : Int32) (7 : Int32)) = true := bI_t c_15
      refine lv_iconst (v := 0) hx hb dX5_raw_18 (by decide) ?_
      refine lv_goto (tgt := 23) hx hb dX5_raw_19 (by decide) ?_
      refine g_callV (As := [.int 0]) (rest := []) (q0 := 0) C0 G (c_X5_holds l D cy (am := am) (mf := mf) (mb := mb) (mv := mv) (th := th) (sv := sv) (X := X) (ln := ln) (ap := ap) (le := le) (fc := fc) (f1 := f1) (f2 := f2) (ha := ha) (R := R) (B := B) (pl := 0) (by omega)) k_X5_holds ml_X5_92 rfl rfl dX5_raw_23 rfl rfl hl.1 (Nat.le_of_ble_eq_true rfl) ⟨Nat.le_of_ble_eq_true rfl, Nat.le_of_ble_eq_true rfl⟩ ⟨Nat.le_of_ble_eq_true rfl, Nat.le_of_ble_eq_true rfl⟩ (fun r W2 H locs hp G => ?_)
      obtain ⟨rfl, hw⟩ := hp
      have G := g_wc hw G
      refine W.eq (g2 := F0 m 26 ls [.int (bI (decide (0 = 0)))]) rfl ?_
      refine lv_if_eq (tgt := 38) hx hb dX5_raw_26 (by decide) (fun c_26 => ?_) (fun c_26 => ?_)
      · skip
        have c_26 : (decide (0 = 0)) = false := bI_f c_26
        exact absurd ((by decide) : (decide (0 = 0)) = true) (by rw [c_26]; decide)
      · skip
        have c_26 : (decide (0 = 0)) = true := bI_t c_26
        refine lv_aload_n hx hb dX5_raw_29 rfl (lv_at hl 0 rfl) ?_
        refine lv_iload_n hx hb dX5_raw_30 rfl (lv_at hl 1 rfl) ?_
        refine lv_iload_n hx hb dX5_raw_31 rfl (lv_at hl 2 rfl) ?_
        refine g_callV (As := [.int (nI k), .int (nI i)]) (rest := []) (q0 := 0) C0 G (c_X5_rawOf l D cy (am := am) (mf := mf) (mb := mb) (mv := mv) (th := nI 0) (sv := sv) (X := X) (ln := ln) (ap := ap) (le := le) (fc := fc) (f1 := f1) (f2 := f2) (ha := ha) (R := R) (B := B) (z := k) (row := i) (by omega) (by omega) hv) k_X5_rawOf ml_X5_120 rfl rfl dX5_raw_32 rfl rfl hl.1 (Nat.le_of_ble_eq_true rfl) ⟨Nat.le_of_ble_eq_true rfl, Nat.le_of_ble_eq_true rfl⟩ ⟨Nat.le_of_ble_eq_true rfl, Nat.le_of_ble_eq_true rfl⟩ (fun r W2 H locs hp G => ?_)
        obtain ⟨rfl, hw⟩ := hp
        have G := g_wc hw G
        refine W.eq (g2 := F0 m 35 ls [.int (nI (rwN (mf k) (mb k) (mv k) i 8))]) rfl ?_
        refine lv_goto (tgt := 39) hx hb dX5_raw_35 (by decide) ?_
        exact g_iret C0 G ⟨by first | rfl | (exfalso; omega) | (simp only [c_5, c_15, c_26, Bool.false_eq_true, ↓reduceIte, eq_self, decide_true, decide_false, not_true_eq_false, not_false_eq_true, Bool.true_and, Bool.false_and, Bool.and_true, Bool.and_false]; done) | (simp [c_5, c_15, c_26]; done) | (simp [c_5, c_15, c_26]; rfl) | (simp [c_5, c_15, c_26]; omega), by first | rfl | (exfalso; omega) | (simp only [c_5, c_15, c_26, Bool.false_eq_true, ↓reduceIte, eq_self, decide_true, decide_false, not_true_eq_false, not_false_eq_true, Bool.true_and, Bool.false_and, Bool.and_true, Bool.and_false]; done) | (simp [c_5, c_15, c_26]; done) | (simp [c_5, c_15, c_26]; rfl) | (simp [c_5, c_15, c_26]; omega)⟩ dX5_raw_39

set_option maxHeartbeats 4000000 in
set_option maxRecDepth 100000 in
theorem c_X5_kind_ok (l : Launch) (D : va_G) (cy : Nat → ClassId) (am : Nat → Nat) (mf : Nat → Int64) (mb : Nat → Int64) (mv : Nat → Nat) (th : Int32) (sv : Nat) (X : Nat → Int32) (ln : Nat) (ap : Nat) (le : Nat) (fc : Nat) (f1 : Int32) (f2 : Int32) (ha : Int64) (R : va_W) (B : Nat → Int32) (k : Nat) (i : Nat) (j : Nat) (h1 : k < 3) (h2 : i < 8) (h3 : j < 8) : GE l D (gts cy) yX5_kind cX5_kind 4 (some .int) 2 0 0 [.ref (am 0), .int (nI k), .int (nI i), .int (nI j)] (wM am cy th (cS mf mb mv) sv X ln ap le fc f1 f2 (B) ha R) (gF (some (.int (kdI (mf k) (mb k) ((8 * i) + j)))) (wM am cy (nI 0) (cS mf mb mv) sv X ln ap le fc f1 f2 (B) ha R)) := by
  refine g_intro (by decide +kernel) (lv := [(0, .ref (am 0)), (1, .int (nI k)), (2, .int (nI i)), (3, .int (nI j))]) rfl (Nat.le_of_ble_eq_true rfl) ?_
  intro p e s m below meth c C0 G ls hl
  have hx := C0.1
  have hb := C0.2.1
  have hown := C0.2.2.2.2.2.1
  have hts := C0.2.2.2.2.2.2.1
  refine lv_aload_n hx hb dX5_kind_0 rfl (lv_at hl 0 rfl) ?_
  refine lv_iload_n hx hb dX5_kind_1 rfl (lv_at hl 1 rfl) ?_
  refine g_callS (As := [.int (nI k)]) (rest := [.ref (am 0)]) C0 G (c_X5_isCard l D cy (W1 := wM am cy th (cS mf mb mv) sv X ln ap le fc f1 f2 (B) ha R) (u := nI k) ) k_X5_isCard ml_X5_89 dX5_kind_2 rfl rfl hl.1 (Nat.le_of_ble_eq_true rfl) ⟨Nat.le_of_ble_eq_true rfl, Nat.le_of_ble_eq_true rfl⟩ ⟨Nat.le_of_ble_eq_true rfl, Nat.le_of_ble_eq_true rfl⟩ (fun r W2 H locs hp G => ?_)
  obtain ⟨rfl, hw⟩ := hp
  have G := g_wc hw G
  refine W.eq (g2 := F0 m 5 ls [.int (bI (inB (nI k) 0 2)), .ref (am 0)]) rfl ?_
  refine lv_if_eq (tgt := 20) hx hb dX5_kind_5 (by decide) (fun c_5 => ?_) (fun c_5 => ?_)
  · skip
    have c_5 : (inB (nI k) 0 2) = false := bI_f c_5
    exact absurd ((inB_y (n := 2) (by omega) rfl (by decide)) : (inB (nI k) 0 2) = true) (by rw [c_5]; decide)
  · skip
    have c_5 : (inB (nI k) 0 2) = true := bI_t c_5
    refine lv_iload_n hx hb dX5_kind_8 rfl (lv_at hl 2 rfl) ?_
    refine lv_iload_n hx hb dX5_kind_9 rfl (lv_at hl 3 rfl) ?_
    refine g_callS (As := [.int (nI i), .int (nI j)]) (rest := [.ref (am 0)]) C0 G (c_X5_isCell l D cy (W1 := wM am cy th (cS mf mb mv) sv X ln ap le fc f1 f2 (B) ha R) (u := nI i) (w := nI j) ) k_X5_isCell ml_X5_110 dX5_kind_10 rfl rfl hl.1 (Nat.le_of_ble_eq_true rfl) ⟨Nat.le_of_ble_eq_true rfl, Nat.le_of_ble_eq_true rfl⟩ ⟨Nat.le_of_ble_eq_true rfl, Nat.le_of_ble_eq_true rfl⟩ (fun r W2 H locs hp G => ?_)
    obtain ⟨rfl, hw⟩ := hp
    have G := g_wc hw G
    refine W.eq (g2 := F0 m 13 ls [.int (bI (inB (nI i) 0 7 && inB (nI j) 0 7)), .ref (am 0)]) rfl ?_
    refine lv_if_eq (tgt := 20) hx hb dX5_kind_13 (by decide) (fun c_13 => ?_) (fun c_13 => ?_)
    · skip
      have c_13 : (inB (nI i) 0 7 && inB (nI j) 0 7) = false := bI_f c_13
      exact absurd ((by rw [inB_y (k := i) (n := 7) (hi := 7) (by omega) rfl (by decide), inB_y (k := j) (n := 7) (hi := 7) (by omega) rfl (by decide)]; rfl) : (inB (nI i) 0 7 && inB (nI j) 0 7) = true) (by rw [c_13]; decide)
    · skip
      have c_13 : (inB (nI i) 0 7 && inB (nI j) 0 7) = true := bI_t c_13
      refine lv_iconst (v := 0) hx hb dX5_kind_16 (by decide) ?_
      refine lv_goto (tgt := 21) hx hb dX5_kind_17 (by decide) ?_
      refine g_callV (As := [.int 0]) (rest := []) (q0 := 0) C0 G (c_X5_holds l D cy (am := am) (mf := mf) (mb := mb) (mv := mv) (th := th) (sv := sv) (X := X) (ln := ln) (ap := ap) (le := le) (fc := fc) (f1 := f1) (f2 := f2) (ha := ha) (R := R) (B := B) (pl := 0) (by omega)) k_X5_holds ml_X5_92 rfl rfl dX5_kind_21 rfl rfl hl.1 (Nat.le_of_ble_eq_true rfl) ⟨Nat.le_of_ble_eq_true rfl, Nat.le_of_ble_eq_true rfl⟩ ⟨Nat.le_of_ble_eq_true rfl, Nat.le_of_ble_eq_true rfl⟩ (fun r W2 H locs hp G => ?_)
      obtain ⟨rfl, hw⟩ := hp
      have G := g_wc hw G
      refine W.eq (g2 := F0 m 24 ls [.int (bI (decide (0 = 0)))]) rfl ?_
      refine lv_if_eq (tgt := 41) hx hb dX5_kind_24 (by decide) (fun c_24 => ?_) (fun c_24 => ?_)
      · skip
        have c_24 : (decide (0 = 0)) = false := bI_f c_24
        exact absurd ((by decide) : (decide (0 = 0)) = true) (by rw [c_24]; decide)
      · skip
        have c_24 : (decide (0 = 0)) = true := bI_t c_24
        refine lv_aload_n hx hb dX5_kind_27 rfl (lv_at hl 0 rfl) ?_
        refine lv_iload_n hx hb dX5_kind_28 rfl (lv_at hl 1 rfl) ?_
        refine lv_bipush (v := 8) hx hb dX5_kind_29 (by decide) ?_
        refine lv_iload_n hx hb dX5_kind_31 rfl (lv_at hl 2 rfl) ?_
        refine lv_imul hx hb dX5_kind_32 ?_
        refine g_topi (x' := nI (8 * i)) (pk_mul 8 i) ?_
        refine lv_iload_n hx hb dX5_kind_33 rfl (lv_at hl 3 rfl) ?_
        refine lv_iadd hx hb dX5_kind_34 ?_
        refine g_topi (x' := nI ((8 * i) + j)) (nI_add (8 * i) j) ?_
        refine g_callV (As := [.int (nI k), .int (nI ((8 * i) + j))]) (rest := []) (q0 := 0) C0 G (c_X5_of l D cy (am := am) (mf := mf) (mb := mb) (mv := mv) (th := nI 0) (sv := sv) (X := X) (ln := ln) (ap := ap) (le := le) (fc := fc) (f1 := f1) (f2 := f2) (ha := ha) (R := R) (B := B) (z := k) (k := (8 * i) + j) (by omega) (by omega)) k_X5_of ml_X5_35 rfl rfl dX5_kind_35 rfl rfl hl.1 (Nat.le_of_ble_eq_true rfl) ⟨Nat.le_of_ble_eq_true rfl, Nat.le_of_ble_eq_true rfl⟩ ⟨Nat.le_of_ble_eq_true rfl, Nat.le_of_ble_eq_true rfl⟩ (fun r W2 H locs hp G => ?_)
        obtain ⟨rfl, hw⟩ := hp
        have G := g_wc hw G
        refine W.eq (g2 := F0 m 38 ls [.int (kdI (mf k) (mb k) ((8 * i) + j))]) rfl ?_
        refine lv_goto (tgt := 42) hx hb dX5_kind_38 (by decide) ?_
        exact g_iret C0 G ⟨by first | rfl | (exfalso; omega) | (simp only [c_5, c_13, c_24, Bool.false_eq_true, ↓reduceIte, eq_self, decide_true, decide_false, not_true_eq_false, not_false_eq_true, Bool.true_and, Bool.false_and, Bool.and_true, Bool.and_false]; done) | (simp [c_5, c_13, c_24]; done) | (simp [c_5, c_13, c_24]; rfl) | (simp [c_5, c_13, c_24]; omega), by first | rfl | (exfalso; omega) | (simp only [c_5, c_13, c_24, Bool.false_eq_true, ↓reduceIte, eq_self, decide_true, decide_false, not_true_eq_false, not_false_eq_true, Bool.true_and, Bool.false_and, Bool.and_true, Bool.and_false]; done) | (simp [c_5, c_13, c_24]; done) | (simp [c_5, c_13, c_24]; rfl) | (simp [c_5, c_13, c_24]; omega)⟩ dX5_kind_42

set_option maxHeartbeats 4000000 in
set_option maxRecDepth 100000 in
theorem c_X5_count_ok (l : Launch) (D : va_G) (cy : Nat → ClassId) (am : Nat → Nat) (mf : Nat → Int64) (mb : Nat → Int64) (mv : Nat → Nat) (th : Int32) (sv : Nat) (X : Nat → Int32) (ln : Nat) (ap : Nat) (le : Nat) (fc : Nat) (f1 : Int32) (f2 : Int32) (ha : Int64) (R : va_W) (B : Nat → Int32) (k : Nat) (u : Nat) (h1 : k < 3) (h2 : u < 4) : GE l D (gts cy) yX5_count cX5_count 3 (some .int) 2 0 0 [.ref (am 0), .int (nI k), .int (nI u)] (wM am cy th (cS mf mb mv) sv X ln ap le fc f1 f2 (B) ha R) (gF (some (.int (nI (cuN (mf k) (mb k) (nI u))))) (wM am cy (nI 0) (cS mf mb mv) sv X ln ap le fc f1 f2 (B) ha R)) := by
  refine g_intro (by decide +kernel) (lv := [(0, .ref (am 0)), (1, .int (nI k)), (2, .int (nI u))]) rfl (Nat.le_of_ble_eq_true rfl) ?_
  intro p e s m below meth c C0 G ls hl
  have hx := C0.1
  have hb := C0.2.1
  have hown := C0.2.2.2.2.2.1
  have hts := C0.2.2.2.2.2.2.1
  refine lv_aload_n hx hb dX5_count_0 rfl (lv_at hl 0 rfl) ?_
  refine lv_iload_n hx hb dX5_count_1 rfl (lv_at hl 1 rfl) ?_
  refine g_callS (As := [.int (nI k)]) (rest := [.ref (am 0)]) C0 G (c_X5_isCard l D cy (W1 := wM am cy th (cS mf mb mv) sv X ln ap le fc f1 f2 (B) ha R) (u := nI k) ) k_X5_isCard ml_X5_89 dX5_count_2 rfl rfl hl.1 (Nat.le_of_ble_eq_true rfl) ⟨Nat.le_of_ble_eq_true rfl, Nat.le_of_ble_eq_true rfl⟩ ⟨Nat.le_of_ble_eq_true rfl, Nat.le_of_ble_eq_true rfl⟩ (fun r W2 H locs hp G => ?_)
  obtain ⟨rfl, hw⟩ := hp
  have G := g_wc hw G
  refine W.eq (g2 := F0 m 5 ls [.int (bI (inB (nI k) 0 2)), .ref (am 0)]) rfl ?_
  refine lv_if_eq (tgt := 21) hx hb dX5_count_5 (by decide) (fun c_5 => ?_) (fun c_5 => ?_)
  · skip
    have c_5 : (inB (nI k) 0 2) = false := bI_f c_5
    exact absurd ((inB_y (n := 2) (by omega) rfl (by decide)) : (inB (nI k) 0 2) = true) (by rw [c_5]; decide)
  · skip
    have c_5 : (inB (nI k) 0 2) = true := bI_t c_5
    refine lv_iload_n hx hb dX5_count_8 rfl (lv_at hl 2 rfl) ?_
    refine lv_iconst (v := 0) hx hb dX5_count_9 (by decide) ?_
    refine lv_iconst (v := 3) hx hb dX5_count_10 (by decide) ?_
    refine g_callS (As := [.int (nI u), .int 0, .int 3]) (rest := [.ref (am 0)]) C0 G (c_X5_in l D cy (W1 := wM am cy th (cS mf mb mv) sv X ln ap le fc f1 f2 (B) ha R) (u := nI u) (lo := (0 : Int32)) (hi := (3 : Int32)) ) k_X5_in ml_X5_27 dX5_count_11 rfl rfl hl.1 (Nat.le_of_ble_eq_true rfl) ⟨Nat.le_of_ble_eq_true rfl, Nat.le_of_ble_eq_true rfl⟩ ⟨Nat.le_of_ble_eq_true rfl, Nat.le_of_ble_eq_true rfl⟩ (fun r W2 H locs hp G => ?_)
    obtain ⟨rfl, hw⟩ := hp
    have G := g_wc hw G
    refine W.eq (g2 := F0 m 14 ls [.int (bI (inB (nI u) (0 : Int32) (3 : Int32))), .ref (am 0)]) rfl ?_
    refine lv_if_eq (tgt := 21) hx hb dX5_count_14 (by decide) (fun c_14 => ?_) (fun c_14 => ?_)
    · skip
      have c_14 : (inB (nI u) (0 : Int32) (3 : Int32)) = false := bI_f c_14
      exact absurd ((inB_y (n := 3) (by omega) rfl (by decide)) : (inB (nI u) (0 : Int32) (3 : Int32)) = true) (by rw [c_14]; decide)
    · skip
      have c_14 : (inB (nI u) (0 : Int32) (3 : Int32)) = true := bI_t c_14
      refine lv_iconst (v := 0) hx hb dX5_count_17 (by decide) ?_
      refine lv_goto (tgt := 22) hx hb dX5_count_18 (by decide) ?_
      refine g_callV (As := [.int 0]) (rest := []) (q0 := 0) C0 G (c_X5_holds l D cy (am := am) (mf := mf) (mb := mb) (mv := mv) (th := th) (sv := sv) (X := X) (ln := ln) (ap := ap) (le := le) (fc := fc) (f1 := f1) (f2 := f2) (ha := ha) (R := R) (B := B) (pl := 0) (by omega)) k_X5_holds ml_X5_92 rfl rfl dX5_count_22 rfl rfl hl.1 (Nat.le_of_ble_eq_true rfl) ⟨Nat.le_of_ble_eq_true rfl, Nat.le_of_ble_eq_true rfl⟩ ⟨Nat.le_of_ble_eq_true rfl, Nat.le_of_ble_eq_true rfl⟩ (fun r W2 H locs hp G => ?_)
      obtain ⟨rfl, hw⟩ := hp
      have G := g_wc hw G
      refine W.eq (g2 := F0 m 25 ls [.int (bI (decide (0 = 0)))]) rfl ?_
      refine lv_if_eq (tgt := 37) hx hb dX5_count_25 (by decide) (fun c_25 => ?_) (fun c_25 => ?_)
      · skip
        have c_25 : (decide (0 = 0)) = false := bI_f c_25
        exact absurd ((by decide) : (decide (0 = 0)) = true) (by rw [c_25]; decide)
      · skip
        have c_25 : (decide (0 = 0)) = true := bI_t c_25
        refine lv_aload_n hx hb dX5_count_28 rfl (lv_at hl 0 rfl) ?_
        refine lv_iload_n hx hb dX5_count_29 rfl (lv_at hl 1 rfl) ?_
        refine lv_iload_n hx hb dX5_count_30 rfl (lv_at hl 2 rfl) ?_
        refine g_callV (As := [.int (nI k), .int (nI u)]) (rest := []) (q0 := 0) C0 G (c_X5_counted l D cy (am := am) (mf := mf) (mb := mb) (mv := mv) (th := nI 0) (sv := sv) (X := X) (ln := ln) (ap := ap) (le := le) (fc := fc) (f1 := f1) (f2 := f2) (ha := ha) (R := R) (B := B) (z := k) (q := nI u) (by omega)) k_X5_counted ml_X5_107 rfl rfl dX5_count_31 rfl rfl hl.1 (Nat.le_of_ble_eq_true rfl) ⟨Nat.le_of_ble_eq_true rfl, Nat.le_of_ble_eq_true rfl⟩ ⟨Nat.le_of_ble_eq_true rfl, Nat.le_of_ble_eq_true rfl⟩ (fun r W2 H locs hp G => ?_)
        obtain ⟨rfl, hw⟩ := hp
        have G := g_wc hw G
        refine W.eq (g2 := F0 m 34 ls [.int (nI (cuN (mf k) (mb k) (nI u)))]) rfl ?_
        refine lv_goto (tgt := 38) hx hb dX5_count_34 (by decide) ?_
        exact g_iret C0 G ⟨by first | rfl | (exfalso; omega) | (simp only [c_5, c_14, c_25, Bool.false_eq_true, ↓reduceIte, eq_self, decide_true, decide_false, not_true_eq_false, not_false_eq_true, Bool.true_and, Bool.false_and, Bool.and_true, Bool.and_false]; done) | (simp [c_5, c_14, c_25]; done) | (simp [c_5, c_14, c_25]; rfl) | (simp [c_5, c_14, c_25]; omega), by first | rfl | (exfalso; omega) | (simp only [c_5, c_14, c_25, Bool.false_eq_true, ↓reduceIte, eq_self, decide_true, decide_false, not_true_eq_false, not_false_eq_true, Bool.true_and, Bool.false_and, Bool.and_true, Bool.and_false]; done) | (simp [c_5, c_14, c_25]; done) | (simp [c_5, c_14, c_25]; rfl) | (simp [c_5, c_14, c_25]; omega)⟩ dX5_count_38

set_option maxHeartbeats 4000000 in
set_option maxRecDepth 100000 in
theorem c_X5_read_ok (l : Launch) (D : va_G) (cy : Nat → ClassId) (am : Nat → Nat) (mf : Nat → Int64) (mb : Nat → Int64) (mv : Nat → Nat) (th : Int32) (sv : Nat) (X : Nat → Int32) (ln : Nat) (ap : Nat) (le : Nat) (fc : Nat) (f1 : Int32) (f2 : Int32) (ha : Int64) (R : va_W) (B : Nat → Int32) (k : Nat) (i : Nat) (h1 : k < 3) (h2 : i < 7) : GE l D (gts cy) yX5_read cX5_read 3 (some .int) 2 0 0 [.ref (am 0), .int (nI k), .int (nI i)] (wM am cy th (cS mf mb mv) sv X ln ap le fc f1 f2 (B) ha R) (gF (some (.int (rvI (sdW (mf k) (mb k)) (onW (mf k) (mb k)) i))) (wM am cy (nI 0) (cS mf mb mv) sv X ln ap le fc f1 f2 (B) ha R)) := by
  refine g_intro (by decide +kernel) (lv := [(0, .ref (am 0)), (1, .int (nI k)), (2, .int (nI i))]) rfl (Nat.le_of_ble_eq_true rfl) ?_
  intro p e s m below meth c C0 G ls hl
  have hx := C0.1
  have hb := C0.2.1
  have hown := C0.2.2.2.2.2.1
  have hts := C0.2.2.2.2.2.2.1
  refine lv_aload_n hx hb dX5_read_0 rfl (lv_at hl 0 rfl) ?_
  refine lv_iload_n hx hb dX5_read_1 rfl (lv_at hl 1 rfl) ?_
  refine g_callS (As := [.int (nI k)]) (rest := [.ref (am 0)]) C0 G (c_X5_isCard l D cy (W1 := wM am cy th (cS mf mb mv) sv X ln ap le fc f1 f2 (B) ha R) (u := nI k) ) k_X5_isCard ml_X5_89 dX5_read_2 rfl rfl hl.1 (Nat.le_of_ble_eq_true rfl) ⟨Nat.le_of_ble_eq_true rfl, Nat.le_of_ble_eq_true rfl⟩ ⟨Nat.le_of_ble_eq_true rfl, Nat.le_of_ble_eq_true rfl⟩ (fun r W2 H locs hp G => ?_)
  obtain ⟨rfl, hw⟩ := hp
  have G := g_wc hw G
  refine W.eq (g2 := F0 m 5 ls [.int (bI (inB (nI k) 0 2)), .ref (am 0)]) rfl ?_
  refine lv_if_eq (tgt := 22) hx hb dX5_read_5 (by decide) (fun c_5 => ?_) (fun c_5 => ?_)
  · skip
    have c_5 : (inB (nI k) 0 2) = false := bI_f c_5
    exact absurd ((inB_y (n := 2) (by omega) rfl (by decide)) : (inB (nI k) 0 2) = true) (by rw [c_5]; decide)
  · skip
    have c_5 : (inB (nI k) 0 2) = true := bI_t c_5
    refine lv_iload_n hx hb dX5_read_8 rfl (lv_at hl 2 rfl) ?_
    refine lv_iconst (v := 0) hx hb dX5_read_9 (by decide) ?_
    refine lv_bipush (v := 6) hx hb dX5_read_10 (by decide) ?_
    refine g_callS (As := [.int (nI i), .int 0, .int 6]) (rest := [.ref (am 0)]) C0 G (c_X5_in l D cy (W1 := wM am cy th (cS mf mb mv) sv X ln ap le fc f1 f2 (B) ha R) (u := nI i) (lo := (0 : Int32)) (hi := (6 : Int32)) ) k_X5_in ml_X5_27 dX5_read_12 rfl rfl hl.1 (Nat.le_of_ble_eq_true rfl) ⟨Nat.le_of_ble_eq_true rfl, Nat.le_of_ble_eq_true rfl⟩ ⟨Nat.le_of_ble_eq_true rfl, Nat.le_of_ble_eq_true rfl⟩ (fun r W2 H locs hp G => ?_)
    obtain ⟨rfl, hw⟩ := hp
    have G := g_wc hw G
    refine W.eq (g2 := F0 m 15 ls [.int (bI (inB (nI i) (0 : Int32) (6 : Int32))), .ref (am 0)]) rfl ?_
    refine lv_if_eq (tgt := 22) hx hb dX5_read_15 (by decide) (fun c_15 => ?_) (fun c_15 => ?_)
    · skip
      have c_15 : (inB (nI i) (0 : Int32) (6 : Int32)) = false := bI_f c_15
      exact absurd ((inB_y (n := 6) (by omega) rfl (by decide)) : (inB (nI i) (0 : Int32) (6 : Int32)) = true) (by rw [c_15]; decide)
    · skip
      have c_15 : (inB (nI i) (0 : Int32) (6 : Int32)) = true := bI_t c_15
      refine lv_iconst (v := 0) hx hb dX5_read_18 (by decide) ?_
      refine lv_goto (tgt := 23) hx hb dX5_read_19 (by decide) ?_
      refine g_callV (As := [.int 0]) (rest := []) (q0 := 0) C0 G (c_X5_holds l D cy (am := am) (mf := mf) (mb := mb) (mv := mv) (th := th) (sv := sv) (X := X) (ln := ln) (ap := ap) (le := le) (fc := fc) (f1 := f1) (f2 := f2) (ha := ha) (R := R) (B := B) (pl := 0) (by omega)) k_X5_holds ml_X5_92 rfl rfl dX5_read_23 rfl rfl hl.1 (Nat.le_of_ble_eq_true rfl) ⟨Nat.le_of_ble_eq_true rfl, Nat.le_of_ble_eq_true rfl⟩ ⟨Nat.le_of_ble_eq_true rfl, Nat.le_of_ble_eq_true rfl⟩ (fun r W2 H locs hp G => ?_)
      obtain ⟨rfl, hw⟩ := hp
      have G := g_wc hw G
      refine W.eq (g2 := F0 m 26 ls [.int (bI (decide (0 = 0)))]) rfl ?_
      refine lv_if_eq (tgt := 38) hx hb dX5_read_26 (by decide) (fun c_26 => ?_) (fun c_26 => ?_)
      · skip
        have c_26 : (decide (0 = 0)) = false := bI_f c_26
        exact absurd ((by decide) : (decide (0 = 0)) = true) (by rw [c_26]; decide)
      · skip
        have c_26 : (decide (0 = 0)) = true := bI_t c_26
        refine lv_aload_n hx hb dX5_read_29 rfl (lv_at hl 0 rfl) ?_
        refine lv_iload_n hx hb dX5_read_30 rfl (lv_at hl 1 rfl) ?_
        refine lv_iload_n hx hb dX5_read_31 rfl (lv_at hl 2 rfl) ?_
        refine g_callV (As := [.int (nI k), .int (nI i)]) (rest := []) (q0 := 0) C0 G (c_X5_readOf l D cy (am := am) (mf := mf) (mb := mb) (mv := mv) (th := nI 0) (sv := sv) (X := X) (ln := ln) (ap := ap) (le := le) (fc := fc) (f1 := f1) (f2 := f2) (ha := ha) (R := R) (B := B) (z := k) (row := i) (by omega) (by omega)) k_X5_readOf ml_X5_123 rfl rfl dX5_read_32 rfl rfl hl.1 (Nat.le_of_ble_eq_true rfl) ⟨Nat.le_of_ble_eq_true rfl, Nat.le_of_ble_eq_true rfl⟩ ⟨Nat.le_of_ble_eq_true rfl, Nat.le_of_ble_eq_true rfl⟩ (fun r W2 H locs hp G => ?_)
        obtain ⟨rfl, hw⟩ := hp
        have G := g_wc hw G
        refine W.eq (g2 := F0 m 35 ls [.int (rvI (sdW (mf k) (mb k)) (onW (mf k) (mb k)) i)]) rfl ?_
        refine lv_goto (tgt := 39) hx hb dX5_read_35 (by decide) ?_
        exact g_iret C0 G ⟨by first | rfl | (exfalso; omega) | (simp only [c_5, c_15, c_26, Bool.false_eq_true, ↓reduceIte, eq_self, decide_true, decide_false, not_true_eq_false, not_false_eq_true, Bool.true_and, Bool.false_and, Bool.and_true, Bool.and_false]; done) | (simp [c_5, c_15, c_26]; done) | (simp [c_5, c_15, c_26]; rfl) | (simp [c_5, c_15, c_26]; omega), by first | rfl | (exfalso; omega) | (simp only [c_5, c_15, c_26, Bool.false_eq_true, ↓reduceIte, eq_self, decide_true, decide_false, not_true_eq_false, not_false_eq_true, Bool.true_and, Bool.false_and, Bool.and_true, Bool.and_false]; done) | (simp [c_5, c_15, c_26]; done) | (simp [c_5, c_15, c_26]; rfl) | (simp [c_5, c_15, c_26]; omega)⟩ dX5_read_39

set_option maxHeartbeats 4000000 in
set_option maxRecDepth 100000 in
theorem c_X5_told_ok (l : Launch) (D : va_G) (cy : Nat → ClassId) (am : Nat → Nat) (mf : Nat → Int64) (mb : Nat → Int64) (mv : Nat → Nat) (kn : Int64) (on : Int64) (th : Int32) (sv : Nat) (X : Nat → Int32) (ln : Nat) (ap : Nat) (le : Nat) (fc : Nat) (f1 : Int32) (f2 : Int32) (ha : Int64) (R : va_W) (k : Nat) (i : Nat) (j : Nat) (h1 : k < 3) (h2 : i < 8) (h3 : j < 8) : GE l D (gts cy) yX5_told cX5_told 4 (some .int) 4 0 0 [.ref (am 0), .int (nI k), .int (nI i), .int (nI j)] (wM am cy th (cS mf mb mv) sv X ln ap le fc f1 f2 (biF kn on) ha R) (gF (some (.int (biF ((fa (sdW (mf k) (mb k)) (onW (mf k) (mb k))).1) ((fa (sdW (mf k) (mb k)) (onW (mf k) (mb k))).2) ((8 * i) + j)))) (wM am cy (nI 0) (cS mf mb mv) sv X ln ap le fc f1 f2 (biF ((fa (sdW (mf k) (mb k)) (onW (mf k) (mb k))).1) ((fa (sdW (mf k) (mb k)) (onW (mf k) (mb k))).2)) ha R)) := by
  refine g_intro (by decide +kernel) (lv := [(0, .ref (am 0)), (1, .int (nI k)), (2, .int (nI i)), (3, .int (nI j))]) rfl (Nat.le_of_ble_eq_true rfl) ?_
  intro p e s m below meth c C0 G ls hl
  have hx := C0.1
  have hb := C0.2.1
  have hown := C0.2.2.2.2.2.1
  have hts := C0.2.2.2.2.2.2.1
  refine lv_aload_n hx hb dX5_told_0 rfl (lv_at hl 0 rfl) ?_
  refine lv_iload_n hx hb dX5_told_1 rfl (lv_at hl 1 rfl) ?_
  refine g_callS (As := [.int (nI k)]) (rest := [.ref (am 0)]) C0 G (c_X5_isCard l D cy (W1 := wM am cy th (cS mf mb mv) sv X ln ap le fc f1 f2 (biF kn on) ha R) (u := nI k) ) k_X5_isCard ml_X5_89 dX5_told_2 rfl rfl hl.1 (Nat.le_of_ble_eq_true rfl) ⟨Nat.le_of_ble_eq_true rfl, Nat.le_of_ble_eq_true rfl⟩ ⟨Nat.le_of_ble_eq_true rfl, Nat.le_of_ble_eq_true rfl⟩ (fun r W2 H locs hp G => ?_)
  obtain ⟨rfl, hw⟩ := hp
  have G := g_wc hw G
  refine W.eq (g2 := F0 m 5 ls [.int (bI (inB (nI k) 0 2)), .ref (am 0)]) rfl ?_
  refine lv_if_eq (tgt := 20) hx hb dX5_told_5 (by decide) (fun c_5 => ?_) (fun c_5 => ?_)
  · skip
    have c_5 : (inB (nI k) 0 2) = false := bI_f c_5
    exact absurd ((inB_y (n := 2) (by omega) rfl (by decide)) : (inB (nI k) 0 2) = true) (by rw [c_5]; decide)
  · skip
    have c_5 : (inB (nI k) 0 2) = true := bI_t c_5
    refine lv_iload_n hx hb dX5_told_8 rfl (lv_at hl 2 rfl) ?_
    refine lv_iload_n hx hb dX5_told_9 rfl (lv_at hl 3 rfl) ?_
    refine g_callS (As := [.int (nI i), .int (nI j)]) (rest := [.ref (am 0)]) C0 G (c_X5_isCell l D cy (W1 := wM am cy th (cS mf mb mv) sv X ln ap le fc f1 f2 (biF kn on) ha R) (u := nI i) (w := nI j) ) k_X5_isCell ml_X5_110 dX5_told_10 rfl rfl hl.1 (Nat.le_of_ble_eq_true rfl) ⟨Nat.le_of_ble_eq_true rfl, Nat.le_of_ble_eq_true rfl⟩ ⟨Nat.le_of_ble_eq_true rfl, Nat.le_of_ble_eq_true rfl⟩ (fun r W2 H locs hp G => ?_)
    obtain ⟨rfl, hw⟩ := hp
    have G := g_wc hw G
    refine W.eq (g2 := F0 m 13 ls [.int (bI (inB (nI i) 0 7 && inB (nI j) 0 7)), .ref (am 0)]) rfl ?_
    refine lv_if_eq (tgt := 20) hx hb dX5_told_13 (by decide) (fun c_13 => ?_) (fun c_13 => ?_)
    · skip
      have c_13 : (inB (nI i) 0 7 && inB (nI j) 0 7) = false := bI_f c_13
      exact absurd ((by rw [inB_y (k := i) (n := 7) (hi := 7) (by omega) rfl (by decide), inB_y (k := j) (n := 7) (hi := 7) (by omega) rfl (by decide)]; rfl) : (inB (nI i) 0 7 && inB (nI j) 0 7) = true) (by rw [c_13]; decide)
    · skip
      have c_13 : (inB (nI i) 0 7 && inB (nI j) 0 7) = true := bI_t c_13
      refine lv_iconst (v := 0) hx hb dX5_told_16 (by decide) ?_
      refine lv_goto (tgt := 21) hx hb dX5_told_17 (by decide) ?_
      refine g_callV (As := [.int 0]) (rest := []) (q0 := 0) C0 G (c_X5_holds l D cy (am := am) (mf := mf) (mb := mb) (mv := mv) (th := th) (sv := sv) (X := X) (ln := ln) (ap := ap) (le := le) (fc := fc) (f1 := f1) (f2 := f2) (ha := ha) (R := R) (B := biF kn on) (pl := 0) (by omega)) k_X5_holds ml_X5_92 rfl rfl dX5_told_21 rfl rfl hl.1 (Nat.le_of_ble_eq_true rfl) ⟨Nat.le_of_ble_eq_true rfl, Nat.le_of_ble_eq_true rfl⟩ ⟨Nat.le_of_ble_eq_true rfl, Nat.le_of_ble_eq_true rfl⟩ (fun r W2 H locs hp G => ?_)
      obtain ⟨rfl, hw⟩ := hp
      have G := g_wc hw G
      refine W.eq (g2 := F0 m 24 ls [.int (bI (decide (0 = 0)))]) rfl ?_
      refine lv_if_ne (tgt := 29) hx hb dX5_told_24 (by decide) (fun c_24 => ?_) (fun c_24 => ?_)
      · skip
        have c_24 : (decide (0 = 0)) = true := bI_t c_24
        refine lv_aload_n hx hb dX5_told_29 rfl (lv_at hl 0 rfl) ?_
        refine lv_iload_n hx hb dX5_told_30 rfl (lv_at hl 1 rfl) ?_
        refine lv_iconst (v := (-1)) hx hb dX5_told_31 (by decide) ?_
        refine g_callV (As := [.int (nI k), .int (-1)]) (rest := []) (q0 := 0) C0 G (c_X5_tells l D cy (am := am) (mf := mf) (mb := mb) (mv := mv) (kn := kn) (on := on) (th := nI 0) (sv := sv) (X := X) (ln := ln) (ap := ap) (le := le) (fc := fc) (f1 := f1) (f2 := f2) (ha := ha) (R := R) (z := k) (but := (-1 : Int32)) (sd := sdW (mf k) (mb k)) (so := onW (mf k) (mb k)) (by omega) ti_none (ok_sd _ _)) k_X5_tells ml_X5_73 rfl rfl dX5_told_32 rfl rfl hl.1 (Nat.le_of_ble_eq_true rfl) ⟨Nat.le_of_ble_eq_true rfl, Nat.le_of_ble_eq_true rfl⟩ ⟨Nat.le_of_ble_eq_true rfl, Nat.le_of_ble_eq_true rfl⟩ (fun r W2 H locs hp G => ?_)
        obtain ⟨rfl, hw⟩ := hp
        have G := g_wc hw G
        refine W.eq (g2 := F0 m 35 ls [.int (nI (pc ((fa (sdW (mf k) (mb k)) (onW (mf k) (mb k))).1 ^^^ (-1))))]) rfl ?_
        refine lv_pop hx hb dX5_told_35 rfl ?_
        refine lv_aload_n hx hb dX5_told_36 rfl (lv_at hl 0 rfl) ?_
        refine g_get (q0 := 0) (v := .ref (am 3)) C0 G in_X5 rfl rfl 10 (by decide) fl_X5_16 (fun _ h => h) rfl dX5_told_37 ?_
        refine lv_bipush (v := 8) hx hb dX5_told_40 (by decide) ?_
        refine lv_iload_n hx hb dX5_told_42 rfl (lv_at hl 2 rfl) ?_
        refine lv_imul hx hb dX5_told_43 ?_
        refine g_topi (x' := nI (8 * i)) (pk_mul 8 i) ?_
        refine lv_iload_n hx hb dX5_told_44 rfl (lv_at hl 3 rfl) ?_
        refine lv_iadd hx hb dX5_told_45 ?_
        refine g_topi (x' := nI ((8 * i) + j)) (nI_add (8 * i) j) ?_
        refine g_iald (q0 := 3) (n := 64) C0 G rfl 1 rfl (vp_in_nI (n := (8 * i) + j) (by omega) (by decide)) dX5_told_46 ?_
        refine g_topi (x' := biF ((fa (sdW (mf k) (mb k)) (onW (mf k) (mb k))).1) ((fa (sdW (mf k) (mb k)) (onW (mf k) (mb k))).2) ((8 * i) + j)) (congrArg (biF ((fa (sdW (mf k) (mb k)) (onW (mf k) (mb k))).1) ((fa (sdW (mf k) (mb k)) (onW (mf k) (mb k))).2)) (nI_clamp (n := (8 * i) + j) (by omega))) ?_
        exact g_iret C0 G ⟨by first | rfl | (exfalso; omega) | (simp only [c_5, c_13, c_24, Bool.false_eq_true, ↓reduceIte, eq_self, decide_true, decide_false, not_true_eq_false, not_false_eq_true, Bool.true_and, Bool.false_and, Bool.and_true, Bool.and_false]; done) | (simp [c_5, c_13, c_24]; done) | (simp [c_5, c_13, c_24]; rfl) | (simp [c_5, c_13, c_24]; omega), by first | rfl | (exfalso; omega) | (simp only [c_5, c_13, c_24, Bool.false_eq_true, ↓reduceIte, eq_self, decide_true, decide_false, not_true_eq_false, not_false_eq_true, Bool.true_and, Bool.false_and, Bool.and_true, Bool.and_false]; done) | (simp [c_5, c_13, c_24]; done) | (simp [c_5, c_13, c_24]; rfl) | (simp [c_5, c_13, c_24]; omega)⟩ dX5_told_47
      · skip
        have c_24 : (decide (0 = 0)) = false := bI_f c_24
        exact absurd ((by decide) : (decide (0 = 0)) = true) (by rw [c_24]; decide)

set_option maxHeartbeats 4000000 in
set_option maxRecDepth 100000 in
theorem c_X5_value_ok (l : Launch) (D : va_G) (cy : Nat → ClassId) (am : Nat → Nat) (mf : Nat → Int64) (mb : Nat → Int64) (mv : Nat → Nat) (kn : Int64) (on : Int64) (th : Int32) (sv : Nat) (X : Nat → Int32) (ln : Nat) (ap : Nat) (le : Nat) (fc : Nat) (f1 : Int32) (f2 : Int32) (ha : Int64) (R : va_W) (k : Nat) (i : Nat) (h1 : k < 3) (h2 : i < 7) : GE l D (gts cy) yX5_value cX5_value 3 (some .int) 4 0 0 [.ref (am 0), .int (nI k), .int (nI i)] (wM am cy th (cS mf mb mv) sv X ln ap le fc f1 f2 (biF kn on) ha R) (gF (some (.int (rvI ((fa (sdW (mf k) (mb k)) (onW (mf k) (mb k))).1) ((fa (sdW (mf k) (mb k)) (onW (mf k) (mb k))).2) i))) (wM am cy (nI 0) (cS mf mb mv) sv X ln ap le fc f1 f2 (biF ((fa (sdW (mf k) (mb k)) (onW (mf k) (mb k))).1) ((fa (sdW (mf k) (mb k)) (onW (mf k) (mb k))).2)) ha R)) := by
  refine g_intro (by decide +kernel) (lv := [(0, .ref (am 0)), (1, .int (nI k)), (2, .int (nI i))]) rfl (Nat.le_of_ble_eq_true rfl) ?_
  intro p e s m below meth c C0 G ls hl
  have hx := C0.1
  have hb := C0.2.1
  have hown := C0.2.2.2.2.2.1
  have hts := C0.2.2.2.2.2.2.1
  refine lv_aload_n hx hb dX5_value_0 rfl (lv_at hl 0 rfl) ?_
  refine lv_iload_n hx hb dX5_value_1 rfl (lv_at hl 1 rfl) ?_
  refine g_callS (As := [.int (nI k)]) (rest := [.ref (am 0)]) C0 G (c_X5_isCard l D cy (W1 := wM am cy th (cS mf mb mv) sv X ln ap le fc f1 f2 (biF kn on) ha R) (u := nI k) ) k_X5_isCard ml_X5_89 dX5_value_2 rfl rfl hl.1 (Nat.le_of_ble_eq_true rfl) ⟨Nat.le_of_ble_eq_true rfl, Nat.le_of_ble_eq_true rfl⟩ ⟨Nat.le_of_ble_eq_true rfl, Nat.le_of_ble_eq_true rfl⟩ (fun r W2 H locs hp G => ?_)
  obtain ⟨rfl, hw⟩ := hp
  have G := g_wc hw G
  refine W.eq (g2 := F0 m 5 ls [.int (bI (inB (nI k) 0 2)), .ref (am 0)]) rfl ?_
  refine lv_if_eq (tgt := 22) hx hb dX5_value_5 (by decide) (fun c_5 => ?_) (fun c_5 => ?_)
  · skip
    have c_5 : (inB (nI k) 0 2) = false := bI_f c_5
    exact absurd ((inB_y (n := 2) (by omega) rfl (by decide)) : (inB (nI k) 0 2) = true) (by rw [c_5]; decide)
  · skip
    have c_5 : (inB (nI k) 0 2) = true := bI_t c_5
    refine lv_iload_n hx hb dX5_value_8 rfl (lv_at hl 2 rfl) ?_
    refine lv_iconst (v := 0) hx hb dX5_value_9 (by decide) ?_
    refine lv_bipush (v := 6) hx hb dX5_value_10 (by decide) ?_
    refine g_callS (As := [.int (nI i), .int 0, .int 6]) (rest := [.ref (am 0)]) C0 G (c_X5_in l D cy (W1 := wM am cy th (cS mf mb mv) sv X ln ap le fc f1 f2 (biF kn on) ha R) (u := nI i) (lo := (0 : Int32)) (hi := (6 : Int32)) ) k_X5_in ml_X5_27 dX5_value_12 rfl rfl hl.1 (Nat.le_of_ble_eq_true rfl) ⟨Nat.le_of_ble_eq_true rfl, Nat.le_of_ble_eq_true rfl⟩ ⟨Nat.le_of_ble_eq_true rfl, Nat.le_of_ble_eq_true rfl⟩ (fun r W2 H locs hp G => ?_)
    obtain ⟨rfl, hw⟩ := hp
    have G := g_wc hw G
    refine W.eq (g2 := F0 m 15 ls [.int (bI (inB (nI i) (0 : Int32) (6 : Int32))), .ref (am 0)]) rfl ?_
    refine lv_if_eq (tgt := 22) hx hb dX5_value_15 (by decide) (fun c_15 => ?_) (fun c_15 => ?_)
    · skip
      have c_15 : (inB (nI i) (0 : Int32) (6 : Int32)) = false := bI_f c_15
      exact absurd ((inB_y (n := 6) (by omega) rfl (by decide)) : (inB (nI i) (0 : Int32) (6 : Int32)) = true) (by rw [c_15]; decide)
    · skip
      have c_15 : (inB (nI i) (0 : Int32) (6 : Int32)) = true := bI_t c_15
      refine lv_iconst (v := 0) hx hb dX5_value_18 (by decide) ?_
      refine lv_goto (tgt := 23) hx hb dX5_value_19 (by decide) ?_
      refine g_callV (As := [.int 0]) (rest := []) (q0 := 0) C0 G (c_X5_holds l D cy (am := am) (mf := mf) (mb := mb) (mv := mv) (th := th) (sv := sv) (X := X) (ln := ln) (ap := ap) (le := le) (fc := fc) (f1 := f1) (f2 := f2) (ha := ha) (R := R) (B := biF kn on) (pl := 0) (by omega)) k_X5_holds ml_X5_92 rfl rfl dX5_value_23 rfl rfl hl.1 (Nat.le_of_ble_eq_true rfl) ⟨Nat.le_of_ble_eq_true rfl, Nat.le_of_ble_eq_true rfl⟩ ⟨Nat.le_of_ble_eq_true rfl, Nat.le_of_ble_eq_true rfl⟩ (fun r W2 H locs hp G => ?_)
      obtain ⟨rfl, hw⟩ := hp
      have G := g_wc hw G
      refine W.eq (g2 := F0 m 26 ls [.int (bI (decide (0 = 0)))]) rfl ?_
      refine lv_if_ne (tgt := 31) hx hb dX5_value_26 (by decide) (fun c_26 => ?_) (fun c_26 => ?_)
      · skip
        have c_26 : (decide (0 = 0)) = true := bI_t c_26
        refine lv_aload_n hx hb dX5_value_31 rfl (lv_at hl 0 rfl) ?_
        refine lv_iload_n hx hb dX5_value_32 rfl (lv_at hl 1 rfl) ?_
        refine lv_iconst (v := (-1)) hx hb dX5_value_33 (by decide) ?_
        refine g_callV (As := [.int (nI k), .int (-1)]) (rest := []) (q0 := 0) C0 G (c_X5_tells l D cy (am := am) (mf := mf) (mb := mb) (mv := mv) (kn := kn) (on := on) (th := nI 0) (sv := sv) (X := X) (ln := ln) (ap := ap) (le := le) (fc := fc) (f1 := f1) (f2 := f2) (ha := ha) (R := R) (z := k) (but := (-1 : Int32)) (sd := sdW (mf k) (mb k)) (so := onW (mf k) (mb k)) (by omega) ti_none (ok_sd _ _)) k_X5_tells ml_X5_73 rfl rfl dX5_value_34 rfl rfl hl.1 (Nat.le_of_ble_eq_true rfl) ⟨Nat.le_of_ble_eq_true rfl, Nat.le_of_ble_eq_true rfl⟩ ⟨Nat.le_of_ble_eq_true rfl, Nat.le_of_ble_eq_true rfl⟩ (fun r W2 H locs hp G => ?_)
        obtain ⟨rfl, hw⟩ := hp
        have G := g_wc hw G
        refine W.eq (g2 := F0 m 37 ls [.int (nI (pc ((fa (sdW (mf k) (mb k)) (onW (mf k) (mb k))).1 ^^^ (-1))))]) rfl ?_
        refine lv_pop hx hb dX5_value_37 rfl ?_
        refine lv_aload_n hx hb dX5_value_38 rfl (lv_at hl 0 rfl) ?_
        refine lv_iload_n hx hb dX5_value_39 rfl (lv_at hl 2 rfl) ?_
        refine g_callV (As := [.int (nI i)]) (rest := []) (q0 := 0) C0 G (c_X5_toldOf l D cy (am := am) (mf := mf) (mb := mb) (mv := mv) (kn := (fa (sdW (mf k) (mb k)) (onW (mf k) (mb k))).1) (on := (fa (sdW (mf k) (mb k)) (onW (mf k) (mb k))).2) (th := nI 0) (sv := sv) (X := X) (ln := ln) (ap := ap) (le := le) (fc := fc) (f1 := f1) (f2 := f2) (ha := ha) (R := R) (row := i) (by omega)) k_X5_toldOf ml_X5_126 rfl rfl dX5_value_40 rfl rfl hl.1 (Nat.le_of_ble_eq_true rfl) ⟨Nat.le_of_ble_eq_true rfl, Nat.le_of_ble_eq_true rfl⟩ ⟨Nat.le_of_ble_eq_true rfl, Nat.le_of_ble_eq_true rfl⟩ (fun r W2 H locs hp G => ?_)
        obtain ⟨rfl, hw⟩ := hp
        have G := g_wc hw G
        refine W.eq (g2 := F0 m 43 ls [.int (rvI ((fa (sdW (mf k) (mb k)) (onW (mf k) (mb k))).1) ((fa (sdW (mf k) (mb k)) (onW (mf k) (mb k))).2) i)]) rfl ?_
        exact g_iret C0 G ⟨by first | rfl | (exfalso; omega) | (simp only [c_5, c_15, c_26, Bool.false_eq_true, ↓reduceIte, eq_self, decide_true, decide_false, not_true_eq_false, not_false_eq_true, Bool.true_and, Bool.false_and, Bool.and_true, Bool.and_false]; done) | (simp [c_5, c_15, c_26]; done) | (simp [c_5, c_15, c_26]; rfl) | (simp [c_5, c_15, c_26]; omega), by first | rfl | (exfalso; omega) | (simp only [c_5, c_15, c_26, Bool.false_eq_true, ↓reduceIte, eq_self, decide_true, decide_false, not_true_eq_false, not_false_eq_true, Bool.true_and, Bool.false_and, Bool.and_true, Bool.and_false]; done) | (simp [c_5, c_15, c_26]; done) | (simp [c_5, c_15, c_26]; rfl) | (simp [c_5, c_15, c_26]; omega)⟩ dX5_value_43
      · skip
        have c_26 : (decide (0 = 0)) = false := bI_f c_26
        exact absurd ((by decide) : (decide (0 = 0)) = true) (by rw [c_26]; decide)

set_option maxHeartbeats 4000000 in
set_option maxRecDepth 100000 in
theorem c_X5_untold_ok (l : Launch) (D : va_G) (cy : Nat → ClassId) (am : Nat → Nat) (mf : Nat → Int64) (mb : Nat → Int64) (mv : Nat → Nat) (kn : Int64) (on : Int64) (th : Int32) (sv : Nat) (X : Nat → Int32) (ln : Nat) (ap : Nat) (le : Nat) (fc : Nat) (f1 : Int32) (f2 : Int32) (ha : Int64) (R : va_W) (k : Nat) (h1 : k < 3) : GE l D (gts cy) yX5_untold cX5_untold 2 (some .int) 4 0 0 [.ref (am 0), .int (nI k)] (wM am cy th (cS mf mb mv) sv X ln ap le fc f1 f2 (biF kn on) ha R) (gF (some (.int (nI (pc ((fa (sdW (mf k) (mb k)) (onW (mf k) (mb k))).1 ^^^ (-1)))))) (wM am cy (nI 0) (cS mf mb mv) sv X ln ap le fc f1 f2 (biF ((fa (sdW (mf k) (mb k)) (onW (mf k) (mb k))).1) ((fa (sdW (mf k) (mb k)) (onW (mf k) (mb k))).2)) ha R)) := by
  refine g_intro (by decide +kernel) (lv := [(0, .ref (am 0)), (1, .int (nI k))]) rfl (Nat.le_of_ble_eq_true rfl) ?_
  intro p e s m below meth c C0 G ls hl
  have hx := C0.1
  have hb := C0.2.1
  have hown := C0.2.2.2.2.2.1
  have hts := C0.2.2.2.2.2.2.1
  refine lv_aload_n hx hb dX5_untold_0 rfl (lv_at hl 0 rfl) ?_
  refine lv_iload_n hx hb dX5_untold_1 rfl (lv_at hl 1 rfl) ?_
  refine g_callS (As := [.int (nI k)]) (rest := [.ref (am 0)]) C0 G (c_X5_isCard l D cy (W1 := wM am cy th (cS mf mb mv) sv X ln ap le fc f1 f2 (biF kn on) ha R) (u := nI k) ) k_X5_isCard ml_X5_89 dX5_untold_2 rfl rfl hl.1 (Nat.le_of_ble_eq_true rfl) ⟨Nat.le_of_ble_eq_true rfl, Nat.le_of_ble_eq_true rfl⟩ ⟨Nat.le_of_ble_eq_true rfl, Nat.le_of_ble_eq_true rfl⟩ (fun r W2 H locs hp G => ?_)
  obtain ⟨rfl, hw⟩ := hp
  have G := g_wc hw G
  refine W.eq (g2 := F0 m 5 ls [.int (bI (inB (nI k) 0 2)), .ref (am 0)]) rfl ?_
  refine lv_if_eq (tgt := 12) hx hb dX5_untold_5 (by decide) (fun c_5 => ?_) (fun c_5 => ?_)
  · skip
    have c_5 : (inB (nI k) 0 2) = false := bI_f c_5
    exact absurd ((inB_y (n := 2) (by omega) rfl (by decide)) : (inB (nI k) 0 2) = true) (by rw [c_5]; decide)
  · skip
    have c_5 : (inB (nI k) 0 2) = true := bI_t c_5
    refine lv_iconst (v := 0) hx hb dX5_untold_8 (by decide) ?_
    refine lv_goto (tgt := 13) hx hb dX5_untold_9 (by decide) ?_
    refine g_callV (As := [.int 0]) (rest := []) (q0 := 0) C0 G (c_X5_holds l D cy (am := am) (mf := mf) (mb := mb) (mv := mv) (th := th) (sv := sv) (X := X) (ln := ln) (ap := ap) (le := le) (fc := fc) (f1 := f1) (f2 := f2) (ha := ha) (R := R) (B := biF kn on) (pl := 0) (by omega)) k_X5_holds ml_X5_92 rfl rfl dX5_untold_13 rfl rfl hl.1 (Nat.le_of_ble_eq_true rfl) ⟨Nat.le_of_ble_eq_true rfl, Nat.le_of_ble_eq_true rfl⟩ ⟨Nat.le_of_ble_eq_true rfl, Nat.le_of_ble_eq_true rfl⟩ (fun r W2 H locs hp G => ?_)
    obtain ⟨rfl, hw⟩ := hp
    have G := g_wc hw G
    refine W.eq (g2 := F0 m 16 ls [.int (bI (decide (0 = 0)))]) rfl ?_
    refine lv_if_eq (tgt := 28) hx hb dX5_untold_16 (by decide) (fun c_16 => ?_) (fun c_16 => ?_)
    · skip
      have c_16 : (decide (0 = 0)) = false := bI_f c_16
      exact absurd ((by decide) : (decide (0 = 0)) = true) (by rw [c_16]; decide)
    · skip
      have c_16 : (decide (0 = 0)) = true := bI_t c_16
      refine lv_aload_n hx hb dX5_untold_19 rfl (lv_at hl 0 rfl) ?_
      refine lv_iload_n hx hb dX5_untold_20 rfl (lv_at hl 1 rfl) ?_
      refine lv_iconst (v := (-1)) hx hb dX5_untold_21 (by decide) ?_
      refine g_callV (As := [.int (nI k), .int (-1)]) (rest := []) (q0 := 0) C0 G (c_X5_tells l D cy (am := am) (mf := mf) (mb := mb) (mv := mv) (kn := kn) (on := on) (th := nI 0) (sv := sv) (X := X) (ln := ln) (ap := ap) (le := le) (fc := fc) (f1 := f1) (f2 := f2) (ha := ha) (R := R) (z := k) (but := (-1 : Int32)) (sd := sdW (mf k) (mb k)) (so := onW (mf k) (mb k)) (by omega) ti_none (ok_sd _ _)) k_X5_tells ml_X5_73 rfl rfl dX5_untold_22 rfl rfl hl.1 (Nat.le_of_ble_eq_true rfl) ⟨Nat.le_of_ble_eq_true rfl, Nat.le_of_ble_eq_true rfl⟩ ⟨Nat.le_of_ble_eq_true rfl, Nat.le_of_ble_eq_true rfl⟩ (fun r W2 H locs hp G => ?_)
      obtain ⟨rfl, hw⟩ := hp
      have G := g_wc hw G
      refine W.eq (g2 := F0 m 25 ls [.int (nI (pc ((fa (sdW (mf k) (mb k)) (onW (mf k) (mb k))).1 ^^^ (-1))))]) rfl ?_
      refine lv_goto (tgt := 29) hx hb dX5_untold_25 (by decide) ?_
      exact g_iret C0 G ⟨by first | rfl | (exfalso; omega) | (simp only [c_5, c_16, Bool.false_eq_true, ↓reduceIte, eq_self, decide_true, decide_false, not_true_eq_false, not_false_eq_true, Bool.true_and, Bool.false_and, Bool.and_true, Bool.and_false]; done) | (simp [c_5, c_16]; done) | (simp [c_5, c_16]; rfl) | (simp [c_5, c_16]; omega), by first | rfl | (exfalso; omega) | (simp only [c_5, c_16, Bool.false_eq_true, ↓reduceIte, eq_self, decide_true, decide_false, not_true_eq_false, not_false_eq_true, Bool.true_and, Bool.false_and, Bool.and_true, Bool.and_false]; done) | (simp [c_5, c_16]; done) | (simp [c_5, c_16]; rfl) | (simp [c_5, c_16]; omega)⟩ dX5_untold_29

set_option maxHeartbeats 4000000 in
set_option maxRecDepth 100000 in
theorem c_X5_disagreements_ok (l : Launch) (D : va_G) (cy : Nat → ClassId) (am : Nat → Nat) (mf : Nat → Int64) (mb : Nat → Int64) (mv : Nat → Nat) (kn : Int64) (on : Int64) (th : Int32) (sv : Nat) (X : Nat → Int32) (ln : Nat) (ap : Nat) (le : Nat) (fc : Nat) (f1 : Int32) (f2 : Int32) (ha : Int64) (R : va_W) (k : Nat) (h1 : k < 3) : GE l D (gts cy) yX5_disagreements cX5_disagreements 2 (some .int) 5 0 0 [.ref (am 0), .int (nI k)] (wM am cy th (cS mf mb mv) sv X ln ap le fc f1 f2 (biF kn on) ha R) (gF (some (.int (nI (cnt (dgB (fa (sdW (mf k) (mb k)) (onW (mf k) (mb k))).1 (fa (sdW (mf k) (mb k)) (onW (mf k) (mb k))).2) 16)))) (wM am cy (nI 0) (cS mf mb mv) sv X ln ap le fc f1 f2 (biF ((fa (sdW (mf k) (mb k)) (onW (mf k) (mb k))).1) ((fa (sdW (mf k) (mb k)) (onW (mf k) (mb k))).2)) ha R)) := by
  refine g_intro (by decide +kernel) (lv := [(0, .ref (am 0)), (1, .int (nI k))]) rfl (Nat.le_of_ble_eq_true rfl) ?_
  intro p e s m below meth c C0 G ls hl
  have hx := C0.1
  have hb := C0.2.1
  have hown := C0.2.2.2.2.2.1
  have hts := C0.2.2.2.2.2.2.1
  refine lv_aload_n hx hb dX5_disagreements_0 rfl (lv_at hl 0 rfl) ?_
  refine lv_iload_n hx hb dX5_disagreements_1 rfl (lv_at hl 1 rfl) ?_
  refine g_callS (As := [.int (nI k)]) (rest := [.ref (am 0)]) C0 G (c_X5_isCard l D cy (W1 := wM am cy th (cS mf mb mv) sv X ln ap le fc f1 f2 (biF kn on) ha R) (u := nI k) ) k_X5_isCard ml_X5_89 dX5_disagreements_2 rfl rfl hl.1 (Nat.le_of_ble_eq_true rfl) ⟨Nat.le_of_ble_eq_true rfl, Nat.le_of_ble_eq_true rfl⟩ ⟨Nat.le_of_ble_eq_true rfl, Nat.le_of_ble_eq_true rfl⟩ (fun r W2 H locs hp G => ?_)
  obtain ⟨rfl, hw⟩ := hp
  have G := g_wc hw G
  refine W.eq (g2 := F0 m 5 ls [.int (bI (inB (nI k) 0 2)), .ref (am 0)]) rfl ?_
  refine lv_if_eq (tgt := 12) hx hb dX5_disagreements_5 (by decide) (fun c_5 => ?_) (fun c_5 => ?_)
  · skip
    have c_5 : (inB (nI k) 0 2) = false := bI_f c_5
    exact absurd ((inB_y (n := 2) (by omega) rfl (by decide)) : (inB (nI k) 0 2) = true) (by rw [c_5]; decide)
  · skip
    have c_5 : (inB (nI k) 0 2) = true := bI_t c_5
    refine lv_iconst (v := 0) hx hb dX5_disagreements_8 (by decide) ?_
    refine lv_goto (tgt := 13) hx hb dX5_disagreements_9 (by decide) ?_
    refine g_callV (As := [.int 0]) (rest := []) (q0 := 0) C0 G (c_X5_holds l D cy (am := am) (mf := mf) (mb := mb) (mv := mv) (th := th) (sv := sv) (X := X) (ln := ln) (ap := ap) (le := le) (fc := fc) (f1 := f1) (f2 := f2) (ha := ha) (R := R) (B := biF kn on) (pl := 0) (by omega)) k_X5_holds ml_X5_92 rfl rfl dX5_disagreements_13 rfl rfl hl.1 (Nat.le_of_ble_eq_true rfl) ⟨Nat.le_of_ble_eq_true rfl, Nat.le_of_ble_eq_true rfl⟩ ⟨Nat.le_of_ble_eq_true rfl, Nat.le_of_ble_eq_true rfl⟩ (fun r W2 H locs hp G => ?_)
    obtain ⟨rfl, hw⟩ := hp
    have G := g_wc hw G
    refine W.eq (g2 := F0 m 16 ls [.int (bI (decide (0 = 0)))]) rfl ?_
    refine lv_if_eq (tgt := 27) hx hb dX5_disagreements_16 (by decide) (fun c_16 => ?_) (fun c_16 => ?_)
    · skip
      have c_16 : (decide (0 = 0)) = false := bI_f c_16
      exact absurd ((by decide) : (decide (0 = 0)) = true) (by rw [c_16]; decide)
    · skip
      have c_16 : (decide (0 = 0)) = true := bI_t c_16
      refine lv_aload_n hx hb dX5_disagreements_19 rfl (lv_at hl 0 rfl) ?_
      refine lv_iload_n hx hb dX5_disagreements_20 rfl (lv_at hl 1 rfl) ?_
      refine g_callV (As := [.int (nI k)]) (rest := []) (q0 := 0) C0 G (c_X5_disagreeingAll l D cy (am := am) (mf := mf) (mb := mb) (mv := mv) (kn := kn) (on := on) (th := nI 0) (sv := sv) (X := X) (ln := ln) (ap := ap) (le := le) (fc := fc) (f1 := f1) (f2 := f2) (ha := ha) (R := R) (z := k) (by omega)) k_X5_disagreeingAll ml_X5_129 rfl rfl dX5_disagreements_21 rfl rfl hl.1 (Nat.le_of_ble_eq_true rfl) ⟨Nat.le_of_ble_eq_true rfl, Nat.le_of_ble_eq_true rfl⟩ ⟨Nat.le_of_ble_eq_true rfl, Nat.le_of_ble_eq_true rfl⟩ (fun r W2 H locs hp G => ?_)
      obtain ⟨rfl, hw⟩ := hp
      have G := g_wc hw G
      refine W.eq (g2 := F0 m 24 ls [.int (nI (cnt (dgB (fa (sdW (mf k) (mb k)) (onW (mf k) (mb k))).1 (fa (sdW (mf k) (mb k)) (onW (mf k) (mb k))).2) 16))]) rfl ?_
      refine lv_goto (tgt := 28) hx hb dX5_disagreements_24 (by decide) ?_
      exact g_iret C0 G ⟨by first | rfl | (exfalso; omega) | (simp only [c_5, c_16, Bool.false_eq_true, ↓reduceIte, eq_self, decide_true, decide_false, not_true_eq_false, not_false_eq_true, Bool.true_and, Bool.false_and, Bool.and_true, Bool.and_false]; done) | (simp [c_5, c_16]; done) | (simp [c_5, c_16]; rfl) | (simp [c_5, c_16]; omega), by first | rfl | (exfalso; omega) | (simp only [c_5, c_16, Bool.false_eq_true, ↓reduceIte, eq_self, decide_true, decide_false, not_true_eq_false, not_false_eq_true, Bool.true_and, Bool.false_and, Bool.and_true, Bool.and_false]; done) | (simp [c_5, c_16]; done) | (simp [c_5, c_16]; rfl) | (simp [c_5, c_16]; omega)⟩ dX5_disagreements_28

set_option maxHeartbeats 4000000 in
set_option maxRecDepth 100000 in
theorem c_X5_worst_ok (l : Launch) (D : va_G) (cy : Nat → ClassId) (am : Nat → Nat) (mf : Nat → Int64) (mb : Nat → Int64) (mv : Nat → Nat) (kn : Int64) (on : Int64) (th : Int32) (sv : Nat) (X : Nat → Int32) (ln : Nat) (ap : Nat) (le : Nat) (fc : Nat) (f1 : Int32) (f2 : Int32) (ha : Int64) (R : va_W) (k : Nat) (h1 : k < 3) : GE l D (gts cy) yX5_worst cX5_worst 2 (some .int) 6 0 0 [.ref (am 0), .int (nI k)] (wM am cy th (cS mf mb mv) sv X ln ap le fc f1 f2 (biF kn on) ha R) (gF (some (.int ((wcS (mf k) (mb k) 64).1))) (wM am cy (nI 0) (cS mf mb mv) sv X ln ap le fc f1 f2 (biF ((wcF (mf k) (mb k) (kn, on) 64).1) ((wcF (mf k) (mb k) (kn, on) 64).2)) ha R)) := by
  refine g_intro (by decide +kernel) (lv := [(0, .ref (am 0)), (1, .int (nI k))]) rfl (Nat.le_of_ble_eq_true rfl) ?_
  intro p e s m below meth c C0 G ls hl
  have hx := C0.1
  have hb := C0.2.1
  have hown := C0.2.2.2.2.2.1
  have hts := C0.2.2.2.2.2.2.1
  refine lv_aload_n hx hb dX5_worst_0 rfl (lv_at hl 0 rfl) ?_
  refine lv_iload_n hx hb dX5_worst_1 rfl (lv_at hl 1 rfl) ?_
  refine g_callS (As := [.int (nI k)]) (rest := [.ref (am 0)]) C0 G (c_X5_isCard l D cy (W1 := wM am cy th (cS mf mb mv) sv X ln ap le fc f1 f2 (biF kn on) ha R) (u := nI k) ) k_X5_isCard ml_X5_89 dX5_worst_2 rfl rfl hl.1 (Nat.le_of_ble_eq_true rfl) ⟨Nat.le_of_ble_eq_true rfl, Nat.le_of_ble_eq_true rfl⟩ ⟨Nat.le_of_ble_eq_true rfl, Nat.le_of_ble_eq_true rfl⟩ (fun r W2 H locs hp G => ?_)
  obtain ⟨rfl, hw⟩ := hp
  have G := g_wc hw G
  refine W.eq (g2 := F0 m 5 ls [.int (bI (inB (nI k) 0 2)), .ref (am 0)]) rfl ?_
  refine lv_if_eq (tgt := 12) hx hb dX5_worst_5 (by decide) (fun c_5 => ?_) (fun c_5 => ?_)
  · skip
    have c_5 : (inB (nI k) 0 2) = false := bI_f c_5
    exact absurd ((inB_y (n := 2) (by omega) rfl (by decide)) : (inB (nI k) 0 2) = true) (by rw [c_5]; decide)
  · skip
    have c_5 : (inB (nI k) 0 2) = true := bI_t c_5
    refine lv_iconst (v := 0) hx hb dX5_worst_8 (by decide) ?_
    refine lv_goto (tgt := 13) hx hb dX5_worst_9 (by decide) ?_
    refine g_callV (As := [.int 0]) (rest := []) (q0 := 0) C0 G (c_X5_holds l D cy (am := am) (mf := mf) (mb := mb) (mv := mv) (th := th) (sv := sv) (X := X) (ln := ln) (ap := ap) (le := le) (fc := fc) (f1 := f1) (f2 := f2) (ha := ha) (R := R) (B := biF kn on) (pl := 0) (by omega)) k_X5_holds ml_X5_92 rfl rfl dX5_worst_13 rfl rfl hl.1 (Nat.le_of_ble_eq_true rfl) ⟨Nat.le_of_ble_eq_true rfl, Nat.le_of_ble_eq_true rfl⟩ ⟨Nat.le_of_ble_eq_true rfl, Nat.le_of_ble_eq_true rfl⟩ (fun r W2 H locs hp G => ?_)
    obtain ⟨rfl, hw⟩ := hp
    have G := g_wc hw G
    refine W.eq (g2 := F0 m 16 ls [.int (bI (decide (0 = 0)))]) rfl ?_
    refine lv_if_eq (tgt := 27) hx hb dX5_worst_16 (by decide) (fun c_16 => ?_) (fun c_16 => ?_)
    · skip
      have c_16 : (decide (0 = 0)) = false := bI_f c_16
      exact absurd ((by decide) : (decide (0 = 0)) = true) (by rw [c_16]; decide)
    · skip
      have c_16 : (decide (0 = 0)) = true := bI_t c_16
      refine lv_aload_n hx hb dX5_worst_19 rfl (lv_at hl 0 rfl) ?_
      refine lv_iload_n hx hb dX5_worst_20 rfl (lv_at hl 1 rfl) ?_
      refine g_callV (As := [.int (nI k)]) (rest := []) (q0 := 0) C0 G (c_X5_worstOf l D cy (am := am) (mf := mf) (mb := mb) (mv := mv) (kn := kn) (on := on) (th := nI 0) (sv := sv) (X := X) (ln := ln) (ap := ap) (le := le) (fc := fc) (f1 := f1) (f2 := f2) (ha := ha) (R := R) (z := k) (by omega)) k_X5_worstOf ml_X5_137 rfl rfl dX5_worst_21 rfl rfl hl.1 (Nat.le_of_ble_eq_true rfl) ⟨Nat.le_of_ble_eq_true rfl, Nat.le_of_ble_eq_true rfl⟩ ⟨Nat.le_of_ble_eq_true rfl, Nat.le_of_ble_eq_true rfl⟩ (fun r W2 H locs hp G => ?_)
      obtain ⟨rfl, hw⟩ := hp
      have G := g_wc hw G
      refine W.eq (g2 := F0 m 24 ls [.int ((wcS (mf k) (mb k) 64).1)]) rfl ?_
      refine lv_goto (tgt := 28) hx hb dX5_worst_24 (by decide) ?_
      exact g_iret C0 G ⟨by first | rfl | (exfalso; omega) | (simp only [c_5, c_16, Bool.false_eq_true, ↓reduceIte, eq_self, decide_true, decide_false, not_true_eq_false, not_false_eq_true, Bool.true_and, Bool.false_and, Bool.and_true, Bool.and_false]; done) | (simp [c_5, c_16]; done) | (simp [c_5, c_16]; rfl) | (simp [c_5, c_16]; omega), by first | rfl | (exfalso; omega) | (simp only [c_5, c_16, Bool.false_eq_true, ↓reduceIte, eq_self, decide_true, decide_false, not_true_eq_false, not_false_eq_true, Bool.true_and, Bool.false_and, Bool.and_true, Bool.and_false]; done) | (simp [c_5, c_16]; done) | (simp [c_5, c_16]; rfl) | (simp [c_5, c_16]; omega)⟩ dX5_worst_28

set_option maxHeartbeats 4000000 in
set_option maxRecDepth 100000 in
theorem c_X5_untoldIf_ok (l : Launch) (D : va_G) (cy : Nat → ClassId) (am : Nat → Nat) (mf : Nat → Int64) (mb : Nat → Int64) (mv : Nat → Nat) (kn : Int64) (on : Int64) (th : Int32) (sv : Nat) (X : Nat → Int32) (ln : Nat) (ap : Nat) (le : Nat) (fc : Nat) (f1 : Int32) (f2 : Int32) (ha : Int64) (R : va_W) (k : Nat) (i : Nat) (j : Nat) (h1 : k < 3) (h2 : i < 8) (h3 : j < 8) : GE l D (gts cy) yX5_untoldIf cX5_untoldIf 4 (some .int) 5 0 0 [.ref (am 0), .int (nI k), .int (nI i), .int (nI j)] (wM am cy th (cS mf mb mv) sv X ln ap le fc f1 f2 (biF kn on) ha R) (gF (some (.int (uwI (mf k) (mb k) ((8 * i) + j)))) (wM am cy (nI 0) (cS mf mb mv) sv X ln ap le fc f1 f2 (biF ((uwF (mf k) (mb k) ((8 * i) + j) (kn, on)).1) ((uwF (mf k) (mb k) ((8 * i) + j) (kn, on)).2)) ha R)) := by
  refine g_intro (by decide +kernel) (lv := [(0, .ref (am 0)), (1, .int (nI k)), (2, .int (nI i)), (3, .int (nI j))]) rfl (Nat.le_of_ble_eq_true rfl) ?_
  intro p e s m below meth c C0 G ls hl
  have hx := C0.1
  have hb := C0.2.1
  have hown := C0.2.2.2.2.2.1
  have hts := C0.2.2.2.2.2.2.1
  refine lv_aload_n hx hb dX5_untoldIf_0 rfl (lv_at hl 0 rfl) ?_
  refine lv_iload_n hx hb dX5_untoldIf_1 rfl (lv_at hl 1 rfl) ?_
  refine g_callS (As := [.int (nI k)]) (rest := [.ref (am 0)]) C0 G (c_X5_isCard l D cy (W1 := wM am cy th (cS mf mb mv) sv X ln ap le fc f1 f2 (biF kn on) ha R) (u := nI k) ) k_X5_isCard ml_X5_89 dX5_untoldIf_2 rfl rfl hl.1 (Nat.le_of_ble_eq_true rfl) ⟨Nat.le_of_ble_eq_true rfl, Nat.le_of_ble_eq_true rfl⟩ ⟨Nat.le_of_ble_eq_true rfl, Nat.le_of_ble_eq_true rfl⟩ (fun r W2 H locs hp G => ?_)
  obtain ⟨rfl, hw⟩ := hp
  have G := g_wc hw G
  refine W.eq (g2 := F0 m 5 ls [.int (bI (inB (nI k) 0 2)), .ref (am 0)]) rfl ?_
  refine lv_if_eq (tgt := 20) hx hb dX5_untoldIf_5 (by decide) (fun c_5 => ?_) (fun c_5 => ?_)
  · skip
    have c_5 : (inB (nI k) 0 2) = false := bI_f c_5
    exact absurd ((inB_y (n := 2) (by omega) rfl (by decide)) : (inB (nI k) 0 2) = true) (by rw [c_5]; decide)
  · skip
    have c_5 : (inB (nI k) 0 2) = true := bI_t c_5
    refine lv_iload_n hx hb dX5_untoldIf_8 rfl (lv_at hl 2 rfl) ?_
    refine lv_iload_n hx hb dX5_untoldIf_9 rfl (lv_at hl 3 rfl) ?_
    refine g_callS (As := [.int (nI i), .int (nI j)]) (rest := [.ref (am 0)]) C0 G (c_X5_isCell l D cy (W1 := wM am cy th (cS mf mb mv) sv X ln ap le fc f1 f2 (biF kn on) ha R) (u := nI i) (w := nI j) ) k_X5_isCell ml_X5_110 dX5_untoldIf_10 rfl rfl hl.1 (Nat.le_of_ble_eq_true rfl) ⟨Nat.le_of_ble_eq_true rfl, Nat.le_of_ble_eq_true rfl⟩ ⟨Nat.le_of_ble_eq_true rfl, Nat.le_of_ble_eq_true rfl⟩ (fun r W2 H locs hp G => ?_)
    obtain ⟨rfl, hw⟩ := hp
    have G := g_wc hw G
    refine W.eq (g2 := F0 m 13 ls [.int (bI (inB (nI i) 0 7 && inB (nI j) 0 7)), .ref (am 0)]) rfl ?_
    refine lv_if_eq (tgt := 20) hx hb dX5_untoldIf_13 (by decide) (fun c_13 => ?_) (fun c_13 => ?_)
    · skip
      have c_13 : (inB (nI i) 0 7 && inB (nI j) 0 7) = false := bI_f c_13
      exact absurd ((by rw [inB_y (k := i) (n := 7) (hi := 7) (by omega) rfl (by decide), inB_y (k := j) (n := 7) (hi := 7) (by omega) rfl (by decide)]; rfl) : (inB (nI i) 0 7 && inB (nI j) 0 7) = true) (by rw [c_13]; decide)
    · skip
      have c_13 : (inB (nI i) 0 7 && inB (nI j) 0 7) = true := bI_t c_13
      refine lv_iconst (v := 0) hx hb dX5_untoldIf_16 (by decide) ?_
      refine lv_goto (tgt := 21) hx hb dX5_untoldIf_17 (by decide) ?_
      refine g_callV (As := [.int 0]) (rest := []) (q0 := 0) C0 G (c_X5_holds l D cy (am := am) (mf := mf) (mb := mb) (mv := mv) (th := th) (sv := sv) (X := X) (ln := ln) (ap := ap) (le := le) (fc := fc) (f1 := f1) (f2 := f2) (ha := ha) (R := R) (B := biF kn on) (pl := 0) (by omega)) k_X5_holds ml_X5_92 rfl rfl dX5_untoldIf_21 rfl rfl hl.1 (Nat.le_of_ble_eq_true rfl) ⟨Nat.le_of_ble_eq_true rfl, Nat.le_of_ble_eq_true rfl⟩ ⟨Nat.le_of_ble_eq_true rfl, Nat.le_of_ble_eq_true rfl⟩ (fun r W2 H locs hp G => ?_)
      obtain ⟨rfl, hw⟩ := hp
      have G := g_wc hw G
      refine W.eq (g2 := F0 m 24 ls [.int (bI (decide (0 = 0)))]) rfl ?_
      refine lv_if_eq (tgt := 41) hx hb dX5_untoldIf_24 (by decide) (fun c_24 => ?_) (fun c_24 => ?_)
      · skip
        have c_24 : (decide (0 = 0)) = false := bI_f c_24
        exact absurd ((by decide) : (decide (0 = 0)) = true) (by rw [c_24]; decide)
      · skip
        have c_24 : (decide (0 = 0)) = true := bI_t c_24
        refine lv_aload_n hx hb dX5_untoldIf_27 rfl (lv_at hl 0 rfl) ?_
        refine lv_iload_n hx hb dX5_untoldIf_28 rfl (lv_at hl 1 rfl) ?_
        refine lv_bipush (v := 8) hx hb dX5_untoldIf_29 (by decide) ?_
        refine lv_iload_n hx hb dX5_untoldIf_31 rfl (lv_at hl 2 rfl) ?_
        refine lv_imul hx hb dX5_untoldIf_32 ?_
        refine g_topi (x' := nI (8 * i)) (pk_mul 8 i) ?_
        refine lv_iload_n hx hb dX5_untoldIf_33 rfl (lv_at hl 3 rfl) ?_
        refine lv_iadd hx hb dX5_untoldIf_34 ?_
        refine g_topi (x' := nI ((8 * i) + j)) (nI_add (8 * i) j) ?_
        refine g_callV (As := [.int (nI k), .int (nI ((8 * i) + j))]) (rest := []) (q0 := 0) C0 G (c_X5_untoldBut l D cy (am := am) (mf := mf) (mb := mb) (mv := mv) (kn := kn) (on := on) (th := nI 0) (sv := sv) (X := X) (ln := ln) (ap := ap) (le := le) (fc := fc) (f1 := f1) (f2 := f2) (ha := ha) (R := R) (z := k) (k := (8 * i) + j) (by omega) (by omega)) k_X5_untoldBut ml_X5_134 rfl rfl dX5_untoldIf_35 rfl rfl hl.1 (Nat.le_of_ble_eq_true rfl) ⟨Nat.le_of_ble_eq_true rfl, Nat.le_of_ble_eq_true rfl⟩ ⟨Nat.le_of_ble_eq_true rfl, Nat.le_of_ble_eq_true rfl⟩ (fun r W2 H locs hp G => ?_)
        obtain ⟨rfl, hw⟩ := hp
        have G := g_wc hw G
        refine W.eq (g2 := F0 m 38 ls [.int (uwI (mf k) (mb k) ((8 * i) + j))]) rfl ?_
        refine lv_goto (tgt := 42) hx hb dX5_untoldIf_38 (by decide) ?_
        exact g_iret C0 G ⟨by first | rfl | (exfalso; omega) | (simp only [c_5, c_13, c_24, Bool.false_eq_true, ↓reduceIte, eq_self, decide_true, decide_false, not_true_eq_false, not_false_eq_true, Bool.true_and, Bool.false_and, Bool.and_true, Bool.and_false]; done) | (simp [c_5, c_13, c_24]; done) | (simp [c_5, c_13, c_24]; rfl) | (simp [c_5, c_13, c_24]; omega), by first | rfl | (exfalso; omega) | (simp only [c_5, c_13, c_24, Bool.false_eq_true, ↓reduceIte, eq_self, decide_true, decide_false, not_true_eq_false, not_false_eq_true, Bool.true_and, Bool.false_and, Bool.and_true, Bool.and_false]; done) | (simp [c_5, c_13, c_24]; done) | (simp [c_5, c_13, c_24]; rfl) | (simp [c_5, c_13, c_24]; omega)⟩ dX5_untoldIf_42

set_option maxHeartbeats 4000000 in
set_option maxRecDepth 100000 in
theorem c_X5_disagreement_ok (l : Launch) (D : va_G) (cy : Nat → ClassId) (am : Nat → Nat) (mf : Nat → Int64) (mb : Nat → Int64) (mv : Nat → Nat) (kn : Int64) (on : Int64) (th : Int32) (sv : Nat) (X : Nat → Int32) (ln : Nat) (ap : Nat) (le : Nat) (fc : Nat) (f1 : Int32) (f2 : Int32) (ha : Int64) (R : va_W) (k : Nat) (i : Nat) (h1 : k < 3) (h2 : i < 2147483648) : GE l D (gts cy) yX5_disagreement cX5_disagreement 3 (some .int) 4 0 0 [.ref (am 0), .int (nI k), .int (nI i)] (wM am cy th (cS mf mb mv) sv X ln ap le fc f1 f2 (biF kn on) ha R) (gF (some (.int (dlI (dgB ((fa (sdW (mf k) (mb k)) (onW (mf k) (mb k))).1) ((fa (sdW (mf k) (mb k)) (onW (mf k) (mb k))).2)) i))) (wM am cy (nI 0) (cS mf mb mv) sv X ln ap le fc f1 f2 (biF ((fa (sdW (mf k) (mb k)) (onW (mf k) (mb k))).1) ((fa (sdW (mf k) (mb k)) (onW (mf k) (mb k))).2)) ha R)) := by
  refine g_intro (by decide +kernel) (lv := [(0, .ref (am 0)), (1, .int (nI k)), (2, .int (nI i))]) rfl (Nat.le_of_ble_eq_true rfl) ?_
  intro p e s m below meth c C0 G ls hl
  have hx := C0.1
  have hb := C0.2.1
  have hown := C0.2.2.2.2.2.1
  have hts := C0.2.2.2.2.2.2.1
  refine lv_aload_n hx hb dX5_disagreement_0 rfl (lv_at hl 0 rfl) ?_
  refine lv_iload_n hx hb dX5_disagreement_1 rfl (lv_at hl 1 rfl) ?_
  refine g_callS (As := [.int (nI k)]) (rest := [.ref (am 0)]) C0 G (c_X5_isCard l D cy (W1 := wM am cy th (cS mf mb mv) sv X ln ap le fc f1 f2 (biF kn on) ha R) (u := nI k) ) k_X5_isCard ml_X5_89 dX5_disagreement_2 rfl rfl hl.1 (Nat.le_of_ble_eq_true rfl) ⟨Nat.le_of_ble_eq_true rfl, Nat.le_of_ble_eq_true rfl⟩ ⟨Nat.le_of_ble_eq_true rfl, Nat.le_of_ble_eq_true rfl⟩ (fun r W2 H locs hp G => ?_)
  obtain ⟨rfl, hw⟩ := hp
  have G := g_wc hw G
  refine W.eq (g2 := F0 m 5 ls [.int (bI (inB (nI k) 0 2)), .ref (am 0)]) rfl ?_
  refine lv_if_eq (tgt := 16) hx hb dX5_disagreement_5 (by decide) (fun c_5 => ?_) (fun c_5 => ?_)
  · skip
    have c_5 : (inB (nI k) 0 2) = false := bI_f c_5
    exact absurd ((inB_y (n := 2) (by omega) rfl (by decide)) : (inB (nI k) 0 2) = true) (by rw [c_5]; decide)
  · skip
    have c_5 : (inB (nI k) 0 2) = true := bI_t c_5
    refine lv_iload_n hx hb dX5_disagreement_8 rfl (lv_at hl 2 rfl) ?_
    refine lv_if_lt (tgt := 16) hx hb dX5_disagreement_9 (by decide) (fun c_9 => ?_) (fun c_9 => ?_)
    · skip
      have c_9 : i < 0 := (nI_ltI (a := i) (b := 0) (by omega) (by omega)).mp c_9
      exact absurd c_9 (Nat.not_lt_zero _)
    · skip
      have c_9 : ¬ (i < 0) := fun h => c_9 ((nI_ltI (a := i) (b := 0) (by omega) (by omega)).mpr h)
      refine lv_iconst (v := 0) hx hb dX5_disagreement_12 (by decide) ?_
      refine lv_goto (tgt := 17) hx hb dX5_disagreement_13 (by decide) ?_
      refine g_callV (As := [.int 0]) (rest := []) (q0 := 0) C0 G (c_X5_holds l D cy (am := am) (mf := mf) (mb := mb) (mv := mv) (th := th) (sv := sv) (X := X) (ln := ln) (ap := ap) (le := le) (fc := fc) (f1 := f1) (f2 := f2) (ha := ha) (R := R) (B := biF kn on) (pl := 0) (by omega)) k_X5_holds ml_X5_92 rfl rfl dX5_disagreement_17 rfl rfl hl.1 (Nat.le_of_ble_eq_true rfl) ⟨Nat.le_of_ble_eq_true rfl, Nat.le_of_ble_eq_true rfl⟩ ⟨Nat.le_of_ble_eq_true rfl, Nat.le_of_ble_eq_true rfl⟩ (fun r W2 H locs hp G => ?_)
      obtain ⟨rfl, hw⟩ := hp
      have G := g_wc hw G
      refine W.eq (g2 := F0 m 20 ls [.int (bI (decide (0 = 0)))]) rfl ?_
      refine lv_if_ne (tgt := 25) hx hb dX5_disagreement_20 (by decide) (fun c_20 => ?_) (fun c_20 => ?_)
      · skip
        have c_20 : (decide (0 = 0)) = true := bI_t c_20
        refine lv_aload_n hx hb dX5_disagreement_25 rfl (lv_at hl 0 rfl) ?_
        refine lv_iload_n hx hb dX5_disagreement_26 rfl (lv_at hl 1 rfl) ?_
        refine lv_iconst (v := (-1)) hx hb dX5_disagreement_27 (by decide) ?_
        refine g_callV (As := [.int (nI k), .int (-1)]) (rest := []) (q0 := 0) C0 G (c_X5_tells l D cy (am := am) (mf := mf) (mb := mb) (mv := mv) (kn := kn) (on := on) (th := nI 0) (sv := sv) (X := X) (ln := ln) (ap := ap) (le := le) (fc := fc) (f1 := f1) (f2 := f2) (ha := ha) (R := R) (z := k) (but := (-1 : Int32)) (sd := sdW (mf k) (mb k)) (so := onW (mf k) (mb k)) (by omega) ti_none (ok_sd _ _)) k_X5_tells ml_X5_73 rfl rfl dX5_disagreement_28 rfl rfl hl.1 (Nat.le_of_ble_eq_true rfl) ⟨Nat.le_of_ble_eq_true rfl, Nat.le_of_ble_eq_true rfl⟩ ⟨Nat.le_of_ble_eq_true rfl, Nat.le_of_ble_eq_true rfl⟩ (fun r W2 H locs hp G => ?_)
        obtain ⟨rfl, hw⟩ := hp
        have G := g_wc hw G
        refine W.eq (g2 := F0 m 31 ls [.int (nI (pc ((fa (sdW (mf k) (mb k)) (onW (mf k) (mb k))).1 ^^^ (-1))))]) rfl ?_
        refine lv_pop hx hb dX5_disagreement_31 rfl ?_
        refine lv_aload_n hx hb dX5_disagreement_32 rfl (lv_at hl 0 rfl) ?_
        refine lv_iload_n hx hb dX5_disagreement_33 rfl (lv_at hl 2 rfl) ?_
        refine g_callV (As := [.int (nI i)]) (rest := []) (q0 := 0) C0 G (c_X5_disagreeing l D cy (am := am) (mf := mf) (mb := mb) (mv := mv) (kn := (fa (sdW (mf k) (mb k)) (onW (mf k) (mb k))).1) (on := (fa (sdW (mf k) (mb k)) (onW (mf k) (mb k))).2) (th := nI 0) (sv := sv) (X := X) (ln := ln) (ap := ap) (le := le) (fc := fc) (f1 := f1) (f2 := f2) (ha := ha) (R := R) (idx := i) (by omega) (ok_rdn (ok_sd (mf k) (mb k)) 65)) k_X5_disagreeing ml_X5_76 rfl rfl dX5_disagreement_34 rfl rfl hl.1 (Nat.le_of_ble_eq_true rfl) ⟨Nat.le_of_ble_eq_true rfl, Nat.le_of_ble_eq_true rfl⟩ ⟨Nat.le_of_ble_eq_true rfl, Nat.le_of_ble_eq_true rfl⟩ (fun r W2 H locs hp G => ?_)
        obtain ⟨rfl, hw⟩ := hp
        have G := g_wc hw G
        refine W.eq (g2 := F0 m 37 ls [.int (dlI (dgB ((fa (sdW (mf k) (mb k)) (onW (mf k) (mb k))).1) ((fa (sdW (mf k) (mb k)) (onW (mf k) (mb k))).2)) i)]) rfl ?_
        exact g_iret C0 G ⟨by first | rfl | (exfalso; omega) | (simp only [c_5, c_9, c_20, Bool.false_eq_true, ↓reduceIte, eq_self, decide_true, decide_false, not_true_eq_false, not_false_eq_true, Bool.true_and, Bool.false_and, Bool.and_true, Bool.and_false]; done) | (simp [c_5, c_9, c_20]; done) | (simp [c_5, c_9, c_20]; rfl) | (simp [c_5, c_9, c_20]; omega), by first | rfl | (exfalso; omega) | (simp only [c_5, c_9, c_20, Bool.false_eq_true, ↓reduceIte, eq_self, decide_true, decide_false, not_true_eq_false, not_false_eq_true, Bool.true_and, Bool.false_and, Bool.and_true, Bool.and_false]; done) | (simp [c_5, c_9, c_20]; done) | (simp [c_5, c_9, c_20]; rfl) | (simp [c_5, c_9, c_20]; omega)⟩ dX5_disagreement_37
      · skip
        have c_20 : (decide (0 = 0)) = false := bI_f c_20
        exact absurd ((by decide) : (decide (0 = 0)) = true) (by rw [c_20]; decide)

set_option maxHeartbeats 4000000 in
set_option maxRecDepth 100000 in
theorem c_X5_disagreement_e1 (l : Launch) (D : va_G) (cy : Nat → ClassId) (am : Nat → Nat) (mf : Nat → Int64) (mb : Nat → Int64) (mv : Nat → Nat) (th : Int32) (sv : Nat) (X : Nat → Int32) (ln : Nat) (ap : Nat) (le : Nat) (fc : Nat) (f1 : Int32) (f2 : Int32) (ha : Int64) (R : va_W) (B : Nat → Int32) (p0 : Int32) (p1 : Int32) (he : inB p0 0 2 = false ∨ p1 < 0) : GE l D (gts cy) yX5_disagreement cX5_disagreement 3 (some .int) 4 0 0 [.ref (am 0), .int p0, .int p1] (wM am cy th (cS mf mb mv) sv X ln ap le fc f1 f2 (B) ha R) (gF (some (.int 0)) (wM am cy (nI 1) (cS mf mb mv) sv X ln ap le fc f1 f2 (B) ha R)) := by
  refine g_intro (by decide +kernel) (lv := [(0, .ref (am 0)), (1, .int p0), (2, .int p1)]) rfl (Nat.le_of_ble_eq_true rfl) ?_
  intro p e s m below meth c C0 G ls hl
  have hx := C0.1
  have hb := C0.2.1
  have hown := C0.2.2.2.2.2.1
  have hts := C0.2.2.2.2.2.2.1
  refine lv_aload_n hx hb dX5_disagreement_0 rfl (lv_at hl 0 rfl) ?_
  refine lv_iload_n hx hb dX5_disagreement_1 rfl (lv_at hl 1 rfl) ?_
  refine g_callS (As := [.int p0]) (rest := [.ref (am 0)]) C0 G (c_X5_isCard l D cy (W1 := wM am cy th (cS mf mb mv) sv X ln ap le fc f1 f2 (B) ha R) (u := p0) ) k_X5_isCard ml_X5_89 dX5_disagreement_2 rfl rfl hl.1 (Nat.le_of_ble_eq_true rfl) ⟨Nat.le_of_ble_eq_true rfl, Nat.le_of_ble_eq_true rfl⟩ ⟨Nat.le_of_ble_eq_true rfl, Nat.le_of_ble_eq_true rfl⟩ (fun r W2 H locs hp G => ?_)
  obtain ⟨rfl, hw⟩ := hp
  have G := g_wc hw G
  refine W.eq (g2 := F0 m 5 ls [.int (bI (inB p0 0 2)), .ref (am 0)]) rfl ?_
  refine lv_if_eq (tgt := 16) hx hb dX5_disagreement_5 (by decide) (fun c_5 => ?_) (fun c_5 => ?_)
  · skip
    have c_5 : (inB p0 0 2) = false := bI_f c_5
    refine lv_iconst (v := 1) hx hb dX5_disagreement_16 (by decide) ?_
    refine g_callV (As := [.int 1]) (rest := []) (q0 := 0) C0 G (c_X5_holds l D cy (am := am) (mf := mf) (mb := mb) (mv := mv) (th := th) (sv := sv) (X := X) (ln := ln) (ap := ap) (le := le) (fc := fc) (f1 := f1) (f2 := f2) (ha := ha) (R := R) (B := B) (pl := 1) (by omega)) k_X5_holds ml_X5_92 rfl rfl dX5_disagreement_17 rfl rfl hl.1 (Nat.le_of_ble_eq_true rfl) ⟨Nat.le_of_ble_eq_true rfl, Nat.le_of_ble_eq_true rfl⟩ ⟨Nat.le_of_ble_eq_true rfl, Nat.le_of_ble_eq_true rfl⟩ (fun r W2 H locs hp G => ?_)
    obtain ⟨rfl, hw⟩ := hp
    have G := g_wc hw G
    refine W.eq (g2 := F0 m 20 ls [.int (bI (decide (1 = 0)))]) rfl ?_
    refine lv_if_ne (tgt := 25) hx hb dX5_disagreement_20 (by decide) (fun c_20 => ?_) (fun c_20 => ?_)
    · skip
      have c_20 : (decide (1 = 0)) = true := bI_t c_20
      exact absurd ((by decide) : (decide (1 = 0)) = false) (by rw [c_20]; decide)
    · skip
      have c_20 : (decide (1 = 0)) = false := bI_f c_20
      refine lv_iconst (v := 0) hx hb dX5_disagreement_23 (by decide) ?_
      exact g_iret C0 G ⟨by first | rfl | (exfalso; omega) | (simp only [c_5, c_20, Bool.false_eq_true, ↓reduceIte, eq_self, decide_true, decide_false, not_true_eq_false, not_false_eq_true, Bool.true_and, Bool.false_and, Bool.and_true, Bool.and_false]; done) | (simp [c_5, c_20]; done) | (simp [c_5, c_20]; rfl) | (simp [c_5, c_20]; omega), by first | rfl | (exfalso; omega) | (simp only [c_5, c_20, Bool.false_eq_true, ↓reduceIte, eq_self, decide_true, decide_false, not_true_eq_false, not_false_eq_true, Bool.true_and, Bool.false_and, Bool.and_true, Bool.and_false]; done) | (simp [c_5, c_20]; done) | (simp [c_5, c_20]; rfl) | (simp [c_5, c_20]; omega)⟩ dX5_disagreement_24
  · skip
    have c_5 : (inB p0 0 2) = true := bI_t c_5
    refine lv_iload_n hx hb dX5_disagreement_8 rfl (lv_at hl 2 rfl) ?_
    refine lv_if_lt (tgt := 16) hx hb dX5_disagreement_9 (by decide) (fun c_9 => ?_) (fun c_9 => ?_)
    · skip
      refine lv_iconst (v := 1) hx hb dX5_disagreement_16 (by decide) ?_
      refine g_callV (As := [.int 1]) (rest := []) (q0 := 0) C0 G (c_X5_holds l D cy (am := am) (mf := mf) (mb := mb) (mv := mv) (th := th) (sv := sv) (X := X) (ln := ln) (ap := ap) (le := le) (fc := fc) (f1 := f1) (f2 := f2) (ha := ha) (R := R) (B := B) (pl := 1) (by omega)) k_X5_holds ml_X5_92 rfl rfl dX5_disagreement_17 rfl rfl hl.1 (Nat.le_of_ble_eq_true rfl) ⟨Nat.le_of_ble_eq_true rfl, Nat.le_of_ble_eq_true rfl⟩ ⟨Nat.le_of_ble_eq_true rfl, Nat.le_of_ble_eq_true rfl⟩ (fun r W2 H locs hp G => ?_)
      obtain ⟨rfl, hw⟩ := hp
      have G := g_wc hw G
      refine W.eq (g2 := F0 m 20 ls [.int (bI (decide (1 = 0)))]) rfl ?_
      refine lv_if_ne (tgt := 25) hx hb dX5_disagreement_20 (by decide) (fun c_20 => ?_) (fun c_20 => ?_)
      · skip
        have c_20 : (decide (1 = 0)) = true := bI_t c_20
        exact absurd ((by decide) : (decide (1 = 0)) = false) (by rw [c_20]; decide)
      · skip
        have c_20 : (decide (1 = 0)) = false := bI_f c_20
        refine lv_iconst (v := 0) hx hb dX5_disagreement_23 (by decide) ?_
        exact g_iret C0 G ⟨by first | rfl | (exfalso; omega) | (simp only [c_5, c_9, c_20, Bool.false_eq_true, ↓reduceIte, eq_self, decide_true, decide_false, not_true_eq_false, not_false_eq_true, Bool.true_and, Bool.false_and, Bool.and_true, Bool.and_false]; done) | (simp [c_5, c_9, c_20]; done) | (simp [c_5, c_9, c_20]; rfl) | (simp [c_5, c_9, c_20]; omega), by first | rfl | (exfalso; omega) | (simp only [c_5, c_9, c_20, Bool.false_eq_true, ↓reduceIte, eq_self, decide_true, decide_false, not_true_eq_false, not_false_eq_true, Bool.true_and, Bool.false_and, Bool.and_true, Bool.and_false]; done) | (simp [c_5, c_9, c_20]; done) | (simp [c_5, c_9, c_20]; rfl) | (simp [c_5, c_9, c_20]; omega)⟩ dX5_disagreement_24
    · skip
      exact absurd c_9 (not_not_intro (he.resolve_left (by rw [c_5]; decide)))

set_option maxHeartbeats 4000000 in
set_option maxRecDepth 100000 in
theorem c_X5_undo_ok (l : Launch) (D : va_G) (cy : Nat → ClassId) (am : Nat → Nat) (mf : Nat → Int64) (mb : Nat → Int64) (mv : Nat → Nat) (th : Int32) (sv : Nat) (X : Nat → Int32) (ln : Nat) (ap : Nat) (le : Nat) (fc : Nat) (f1 : Int32) (f2 : Int32) (ha : Int64) (R : va_W) (B : Nat → Int32)  (h1 : 0 < sv) (h2 : sv ≤ 6) : GE l D (gts cy) yX5_undo cX5_undo 1 (some .int) 1 0 0 [.ref (am 0)] (wM am cy th (cS mf mb mv) sv X ln ap le fc f1 f2 (B) ha R) (gF (some (.int (nI (sv - 1)))) (wM am cy (nI 0) (cS (cpU mf sv 0) (cpU mb sv 0) (cpU mv sv 0)) (sv - 1) X ln ap le fc f1 f2 (B) ha R)) := by
  refine g_intro (by decide +kernel) (lv := [(0, .ref (am 0))]) rfl (Nat.le_of_ble_eq_true rfl) ?_
  intro p e s m below meth c C0 G ls hl
  have hx := C0.1
  have hb := C0.2.1
  have hown := C0.2.2.2.2.2.1
  have hts := C0.2.2.2.2.2.2.1
  refine lv_aload_n hx hb dX5_undo_0 rfl (lv_at hl 0 rfl) ?_
  refine lv_aload_n hx hb dX5_undo_1 rfl (lv_at hl 0 rfl) ?_
  refine g_get (q0 := 0) (v := .int (nI sv)) C0 G in_X5 rfl rfl 2 (by decide) fl_X5_82 (fun _ h => h) rfl dX5_undo_2 ?_
  refine lv_if_le (tgt := 12) hx hb dX5_undo_5 (by decide) (fun c_5 => ?_) (fun c_5 => ?_)
  · skip
    have c_5 : sv ≤ 0 := (nI_leI (a := sv) (b := 0) (by omega) (by omega)).mp c_5
    exact absurd c_5 (by omega)
  · skip
    have c_5 : ¬ (sv ≤ 0) := fun h => c_5 ((nI_leI (a := sv) (b := 0) (by omega) (by omega)).mpr h)
    refine lv_iconst (v := 0) hx hb dX5_undo_8 (by decide) ?_
    refine lv_goto (tgt := 13) hx hb dX5_undo_9 (by decide) ?_
    refine g_callV (As := [.int 0]) (rest := []) (q0 := 0) C0 G (c_X5_holds l D cy (am := am) (mf := mf) (mb := mb) (mv := mv) (th := th) (sv := sv) (X := X) (ln := ln) (ap := ap) (le := le) (fc := fc) (f1 := f1) (f2 := f2) (ha := ha) (R := R) (B := B) (pl := 0) (by omega)) k_X5_holds ml_X5_92 rfl rfl dX5_undo_13 rfl rfl hl.1 (Nat.le_of_ble_eq_true rfl) ⟨Nat.le_of_ble_eq_true rfl, Nat.le_of_ble_eq_true rfl⟩ ⟨Nat.le_of_ble_eq_true rfl, Nat.le_of_ble_eq_true rfl⟩ (fun r W2 H locs hp G => ?_)
    obtain ⟨rfl, hw⟩ := hp
    have G := g_wc hw G
    refine W.eq (g2 := F0 m 16 ls [.int (bI (decide (0 = 0)))]) rfl ?_
    refine lv_if_ne (tgt := 21) hx hb dX5_undo_16 (by decide) (fun c_16 => ?_) (fun c_16 => ?_)
    · skip
      have c_16 : (decide (0 = 0)) = true := bI_t c_16
      refine lv_aload_n hx hb dX5_undo_21 rfl (lv_at hl 0 rfl) ?_
      refine lv_aload_n hx hb dX5_undo_22 rfl (lv_at hl 0 rfl) ?_
      refine g_get (q0 := 0) (v := .int (nI sv)) C0 G in_X5 rfl rfl 2 (by decide) fl_X5_82 (fun _ h => h) rfl dX5_undo_23 ?_
      refine lv_iconst (v := 0) hx hb dX5_undo_26 (by decide) ?_
      refine g_callV (As := [.int (nI sv), .int 0]) (rest := []) (q0 := 0) C0 G (c_X5_copies l D cy (am := am) (mf := mf) (mb := mb) (mv := mv) (th := nI 0) (sv := sv) (X := X) (ln := ln) (ap := ap) (le := le) (fc := fc) (f1 := f1) (f2 := f2) (ha := ha) (R := R) (B := B) (fm := sv) (t := 0) (by omega) (by omega) (by omega)) k_X5_copies ml_X5_85 rfl rfl dX5_undo_27 rfl rfl hl.1 (Nat.le_of_ble_eq_true rfl) ⟨Nat.le_of_ble_eq_true rfl, Nat.le_of_ble_eq_true rfl⟩ ⟨Nat.le_of_ble_eq_true rfl, Nat.le_of_ble_eq_true rfl⟩ (fun r W2 H locs hp G => ?_)
      obtain ⟨rfl, hw⟩ := hp
      have G := g_wc hw G
      refine W.eq (g2 := F0 m 30 ls []) rfl ?_
      refine lv_aload_n hx hb dX5_undo_30 rfl (lv_at hl 0 rfl) ?_
      refine lv_dup hx hb dX5_undo_31 rfl ?_
      refine g_get (q0 := 0) (v := .int (nI sv)) C0 G in_X5 rfl rfl 2 (by decide) fl_X5_82 (fun _ h => h) rfl dX5_undo_32 ?_
      refine lv_iconst (v := 1) hx hb dX5_undo_35 (by decide) ?_
      refine lv_isub hx hb dX5_undo_36 ?_
      refine g_topi (x' := nI (sv - 1)) (pk_sub (a := sv) (b := 1) (by omega)) ?_
      refine g_put (q0 := 0) (W2 := wM am cy (nI 0) (cS (cpU mf sv 0) (cpU mb sv 0) (cpU mv sv 0)) (sv - 1) X ln ap le fc f1 f2 (B) ha R) C0 G ft_X5 in_X5 rfl rfl 2 (by decide) fl_X5_82 (fun _ h => h) rfl rfl rfl (Nat.le_of_ble_eq_true rfl) rfl dX5_undo_37 (fun H locs G => ?_)
      refine lv_aload_n hx hb dX5_undo_40 rfl (lv_at hl 0 rfl) ?_
      refine g_get (q0 := 0) (v := .int (nI (sv - 1))) C0 G in_X5 rfl rfl 2 (by decide) fl_X5_82 (fun _ h => h) rfl dX5_undo_41 ?_
      exact g_iret C0 G ⟨by first | rfl | (exfalso; omega) | (simp only [c_5, c_16, Bool.false_eq_true, ↓reduceIte, eq_self, decide_true, decide_false, not_true_eq_false, not_false_eq_true, Bool.true_and, Bool.false_and, Bool.and_true, Bool.and_false]; done) | (simp [c_5, c_16]; done) | (simp [c_5, c_16]; rfl) | (simp [c_5, c_16]; omega), by first | rfl | (exfalso; omega) | (simp only [c_5, c_16, Bool.false_eq_true, ↓reduceIte, eq_self, decide_true, decide_false, not_true_eq_false, not_false_eq_true, Bool.true_and, Bool.false_and, Bool.and_true, Bool.and_false]; done) | (simp [c_5, c_16]; done) | (simp [c_5, c_16]; rfl) | (simp [c_5, c_16]; omega)⟩ dX5_undo_44
    · skip
      have c_16 : (decide (0 = 0)) = false := bI_f c_16
      exact absurd ((by decide) : (decide (0 = 0)) = true) (by rw [c_16]; decide)

set_option maxHeartbeats 4000000 in
set_option maxRecDepth 100000 in
theorem c_X5_undo_e1 (l : Launch) (D : va_G) (cy : Nat → ClassId) (am : Nat → Nat) (mf : Nat → Int64) (mb : Nat → Int64) (mv : Nat → Nat) (th : Int32) (sv : Nat) (X : Nat → Int32) (ln : Nat) (ap : Nat) (le : Nat) (fc : Nat) (f1 : Int32) (f2 : Int32) (ha : Int64) (R : va_W) (B : Nat → Int32)  (h1 : sv = 0) : GE l D (gts cy) yX5_undo cX5_undo 1 (some .int) 1 0 0 [.ref (am 0)] (wM am cy th (cS mf mb mv) sv X ln ap le fc f1 f2 (B) ha R) (gF (some (.int 0)) (wM am cy (nI 1) (cS mf mb mv) sv X ln ap le fc f1 f2 (B) ha R)) := by
  refine g_intro (by decide +kernel) (lv := [(0, .ref (am 0))]) rfl (Nat.le_of_ble_eq_true rfl) ?_
  intro p e s m below meth c C0 G ls hl
  have hx := C0.1
  have hb := C0.2.1
  have hown := C0.2.2.2.2.2.1
  have hts := C0.2.2.2.2.2.2.1
  refine lv_aload_n hx hb dX5_undo_0 rfl (lv_at hl 0 rfl) ?_
  refine lv_aload_n hx hb dX5_undo_1 rfl (lv_at hl 0 rfl) ?_
  refine g_get (q0 := 0) (v := .int (nI sv)) C0 G in_X5 rfl rfl 2 (by decide) fl_X5_82 (fun _ h => h) rfl dX5_undo_2 ?_
  refine lv_if_le (tgt := 12) hx hb dX5_undo_5 (by decide) (fun c_5 => ?_) (fun c_5 => ?_)
  · skip
    have c_5 : sv ≤ 0 := (nI_leI (a := sv) (b := 0) (by omega) (by omega)).mp c_5
    refine lv_iconst (v := 1) hx hb dX5_undo_12 (by decide) ?_
    refine g_callV (As := [.int 1]) (rest := []) (q0 := 0) C0 G (c_X5_holds l D cy (am := am) (mf := mf) (mb := mb) (mv := mv) (th := th) (sv := sv) (X := X) (ln := ln) (ap := ap) (le := le) (fc := fc) (f1 := f1) (f2 := f2) (ha := ha) (R := R) (B := B) (pl := 1) (by omega)) k_X5_holds ml_X5_92 rfl rfl dX5_undo_13 rfl rfl hl.1 (Nat.le_of_ble_eq_true rfl) ⟨Nat.le_of_ble_eq_true rfl, Nat.le_of_ble_eq_true rfl⟩ ⟨Nat.le_of_ble_eq_true rfl, Nat.le_of_ble_eq_true rfl⟩ (fun r W2 H locs hp G => ?_)
    obtain ⟨rfl, hw⟩ := hp
    have G := g_wc hw G
    refine W.eq (g2 := F0 m 16 ls [.int (bI (decide (1 = 0)))]) rfl ?_
    refine lv_if_ne (tgt := 21) hx hb dX5_undo_16 (by decide) (fun c_16 => ?_) (fun c_16 => ?_)
    · skip
      have c_16 : (decide (1 = 0)) = true := bI_t c_16
      exact absurd ((by decide) : (decide (1 = 0)) = false) (by rw [c_16]; decide)
    · skip
      have c_16 : (decide (1 = 0)) = false := bI_f c_16
      refine lv_iconst (v := 0) hx hb dX5_undo_19 (by decide) ?_
      exact g_iret C0 G ⟨by first | rfl | (exfalso; omega) | (simp only [c_5, c_16, Bool.false_eq_true, ↓reduceIte, eq_self, decide_true, decide_false, not_true_eq_false, not_false_eq_true, Bool.true_and, Bool.false_and, Bool.and_true, Bool.and_false]; done) | (simp [c_5, c_16]; done) | (simp [c_5, c_16]; rfl) | (simp [c_5, c_16]; omega), by first | rfl | (exfalso; omega) | (simp only [c_5, c_16, Bool.false_eq_true, ↓reduceIte, eq_self, decide_true, decide_false, not_true_eq_false, not_false_eq_true, Bool.true_and, Bool.false_and, Bool.and_true, Bool.and_false]; done) | (simp [c_5, c_16]; done) | (simp [c_5, c_16]; rfl) | (simp [c_5, c_16]; omega)⟩ dX5_undo_20
  · skip
    have c_5 : ¬ (sv ≤ 0) := fun h => c_5 ((nI_leI (a := sv) (b := 0) (by omega) (by omega)).mpr h)
    exact absurd c_5 (by omega)

set_option maxHeartbeats 4000000 in
set_option maxRecDepth 100000 in
theorem c_X5_savedStates_ok (l : Launch) (D : va_G) (cy : Nat → ClassId) (am : Nat → Nat) (mf : Nat → Int64) (mb : Nat → Int64) (mv : Nat → Nat) (th : Int32) (sv : Nat) (X : Nat → Int32) (ln : Nat) (ap : Nat) (le : Nat) (fc : Nat) (f1 : Int32) (f2 : Int32) (ha : Int64) (R : va_W) (B : Nat → Int32)   : GE l D (gts cy) yX5_savedStates cX5_savedStates 1 (some .int) 0 0 0 [.ref (am 0)] (wM am cy th (cS mf mb mv) sv X ln ap le fc f1 f2 (B) ha R) (gF (some (.int (nI sv))) (wM am cy 0 (cS mf mb mv) sv X ln ap le fc f1 f2 (B) ha R)) := by
  refine g_intro (by decide +kernel) (lv := [(0, .ref (am 0))]) rfl (Nat.le_of_ble_eq_true rfl) ?_
  intro p e s m below meth c C0 G ls hl
  have hx := C0.1
  have hb := C0.2.1
  have hown := C0.2.2.2.2.2.1
  have hts := C0.2.2.2.2.2.2.1
  refine lv_aload_n hx hb dX5_savedStates_0 rfl (lv_at hl 0 rfl) ?_
  refine lv_iconst (v := 0) hx hb dX5_savedStates_1 (by decide) ?_
  refine g_put (q0 := 0) (W2 := wM am cy 0 (cS mf mb mv) sv X ln ap le fc f1 f2 (B) ha R) C0 G ft_X5 in_X5 rfl rfl 0 (by decide) fl_X5_23 (fun _ h => h) rfl rfl rfl (Nat.le_of_ble_eq_true rfl) rfl dX5_savedStates_2 (fun H locs G => ?_)
  refine lv_aload_n hx hb dX5_savedStates_5 rfl (lv_at hl 0 rfl) ?_
  refine g_get (q0 := 0) (v := .int (nI sv)) C0 G in_X5 rfl rfl 2 (by decide) fl_X5_82 (fun _ h => h) rfl dX5_savedStates_6 ?_
  exact g_iret C0 G ⟨by first | rfl | (exfalso; omega) | (simp only [Bool.false_eq_true, ↓reduceIte, eq_self, decide_true, decide_false, not_true_eq_false, not_false_eq_true, Bool.true_and, Bool.false_and, Bool.and_true, Bool.and_false]; done) | (simp []; done) | (simp []; rfl) | (simp []; omega), by first | rfl | (exfalso; omega) | (simp only [Bool.false_eq_true, ↓reduceIte, eq_self, decide_true, decide_false, not_true_eq_false, not_false_eq_true, Bool.true_and, Bool.false_and, Bool.and_true, Bool.and_false]; done) | (simp []; done) | (simp []; rfl) | (simp []; omega)⟩ dX5_savedStates_9

set_option maxHeartbeats 4000000 in
set_option maxRecDepth 100000 in
theorem c_X5_copy_ok (l : Launch) (D : va_G) (cy : Nat → ClassId) (am : Nat → Nat) (mf : Nat → Int64) (mb : Nat → Int64) (mv : Nat → Nat) (kn : Int64) (on : Int64) (th : Int32) (sv : Nat) (X : Nat → Int32) (ln : Nat) (ap : Nat) (le : Nat) (fc : Nat) (f1 : Int32) (f2 : Int32) (ha : Int64) (R : va_W) (k : Nat) (j : Nat) (h1 : k < 3) (h2 : j < 3) (hc : ¬ k = j) (hs : sv ≤ 6) : GE l D (gts cy) yX5_copy cX5_copy 5 (some .int) 4 0 0 [.ref (am 0), .int (nI k), .int (nI j)] (wM am cy th (cS mf mb mv) sv X ln ap le fc f1 f2 (biF kn on) ha R) (gF (some (.int (nI (pc ((fa (sdW (mSv mf sv k) (mSv mb sv k)) (onW (mSv mf sv k) (mSv mb sv k))).1 ^^^ (-1)))))) (wM am cy (nI 0) (cS (va_up (mSv mf sv) j (cyF (fa (sdW (mSv mf sv k) (mSv mb sv k)) (onW (mSv mf sv k) (mSv mb sv k))).1 (fa (sdW (mSv mf sv k) (mSv mb sv k)) (onW (mSv mf sv k) (mSv mb sv k))).2 64)) (va_up (mSv mb sv) j (cyB (fa (sdW (mSv mf sv k) (mSv mb sv k)) (onW (mSv mf sv k) (mSv mb sv k))).1 (fa (sdW (mSv mf sv k) (mSv mb sv k)) (onW (mSv mf sv k) (mSv mb sv k))).2 64)) (va_up (mSv mv sv) j 0)) (saK sv) X ln ap le fc f1 f2 (biF ((fa (sdW (mSv mf sv k) (mSv mb sv k)) (onW (mSv mf sv k) (mSv mb sv k))).1) ((fa (sdW (mSv mf sv k) (mSv mb sv k)) (onW (mSv mf sv k) (mSv mb sv k))).2)) ha R)) := by
  refine g_intro (by decide +kernel) (lv := [(0, .ref (am 0)), (1, .int (nI k)), (2, .int (nI j))]) rfl (Nat.le_of_ble_eq_true rfl) ?_
  intro p e s m below meth c C0 G ls hl
  have hx := C0.1
  have hb := C0.2.1
  have hown := C0.2.2.2.2.2.1
  have hts := C0.2.2.2.2.2.2.1
  refine lv_aload_n hx hb dX5_copy_0 rfl (lv_at hl 0 rfl) ?_
  refine lv_iload_n hx hb dX5_copy_1 rfl (lv_at hl 1 rfl) ?_
  refine g_callS (As := [.int (nI k)]) (rest := [.ref (am 0)]) C0 G (c_X5_isCard l D cy (W1 := wM am cy th (cS mf mb mv) sv X ln ap le fc f1 f2 (biF kn on) ha R) (u := nI k) ) k_X5_isCard ml_X5_89 dX5_copy_2 rfl rfl hl.1 (Nat.le_of_ble_eq_true rfl) ⟨Nat.le_of_ble_eq_true rfl, Nat.le_of_ble_eq_true rfl⟩ ⟨Nat.le_of_ble_eq_true rfl, Nat.le_of_ble_eq_true rfl⟩ (fun r W2 H locs hp G => ?_)
  obtain ⟨rfl, hw⟩ := hp
  have G := g_wc hw G
  refine W.eq (g2 := F0 m 5 ls [.int (bI (inB (nI k) 0 2)), .ref (am 0)]) rfl ?_
  refine lv_if_eq (tgt := 15) hx hb dX5_copy_5 (by decide) (fun c_5 => ?_) (fun c_5 => ?_)
  · skip
    have c_5 : (inB (nI k) 0 2) = false := bI_f c_5
    exact absurd ((inB_y (n := 2) (by omega) rfl (by decide)) : (inB (nI k) 0 2) = true) (by rw [c_5]; decide)
  · skip
    have c_5 : (inB (nI k) 0 2) = true := bI_t c_5
    refine lv_iload_n hx hb dX5_copy_8 rfl (lv_at hl 2 rfl) ?_
    refine g_callS (As := [.int (nI j)]) (rest := [.ref (am 0)]) C0 G (c_X5_isCard l D cy (W1 := wM am cy th (cS mf mb mv) sv X ln ap le fc f1 f2 (biF kn on) ha R) (u := nI j) ) k_X5_isCard ml_X5_89 dX5_copy_9 rfl rfl hl.1 (Nat.le_of_ble_eq_true rfl) ⟨Nat.le_of_ble_eq_true rfl, Nat.le_of_ble_eq_true rfl⟩ ⟨Nat.le_of_ble_eq_true rfl, Nat.le_of_ble_eq_true rfl⟩ (fun r W2 H locs hp G => ?_)
    obtain ⟨rfl, hw⟩ := hp
    have G := g_wc hw G
    refine W.eq (g2 := F0 m 12 ls [.int (bI (inB (nI j) 0 2)), .ref (am 0)]) rfl ?_
    refine lv_if_ne (tgt := 19) hx hb dX5_copy_12 (by decide) (fun c_12 => ?_) (fun c_12 => ?_)
    · skip
      have c_12 : (inB (nI j) 0 2) = true := bI_t c_12
      refine lv_iload_n hx hb dX5_copy_19 rfl (lv_at hl 1 rfl) ?_
      refine lv_iload_n hx hb dX5_copy_20 rfl (lv_at hl 2 rfl) ?_
      refine lv_icmp_ne (tgt := 28) hx hb dX5_copy_21 (by decide) (fun c_21 => ?_) (fun c_21 => ?_)
      · skip
        have c_21 : ¬ (k = j) := fun h => c_21 ((nI_eq (a := k) (b := j) (by omega) (by omega)).mpr h)
        refine lv_iconst (v := 0) hx hb dX5_copy_28 (by decide) ?_
        refine g_callV (As := [.int 0]) (rest := []) (q0 := 0) C0 G (c_X5_holds l D cy (am := am) (mf := mf) (mb := mb) (mv := mv) (th := th) (sv := sv) (X := X) (ln := ln) (ap := ap) (le := le) (fc := fc) (f1 := f1) (f2 := f2) (ha := ha) (R := R) (B := biF kn on) (pl := 0) (by omega)) k_X5_holds ml_X5_92 rfl rfl dX5_copy_29 rfl rfl hl.1 (Nat.le_of_ble_eq_true rfl) ⟨Nat.le_of_ble_eq_true rfl, Nat.le_of_ble_eq_true rfl⟩ ⟨Nat.le_of_ble_eq_true rfl, Nat.le_of_ble_eq_true rfl⟩ (fun r W2 H locs hp G => ?_)
        obtain ⟨rfl, hw⟩ := hp
        have G := g_wc hw G
        refine W.eq (g2 := F0 m 32 ls [.int (bI (decide (0 = 0)))]) rfl ?_
        refine lv_if_ne (tgt := 37) hx hb dX5_copy_32 (by decide) (fun c_32 => ?_) (fun c_32 => ?_)
        · skip
          have c_32 : (decide (0 = 0)) = true := bI_t c_32
          refine lv_aload_n hx hb dX5_copy_37 rfl (lv_at hl 0 rfl) ?_
          refine g_callV (As := []) (rest := []) (q0 := 0) C0 G (c_X5_save l D cy (am := am) (mf := mf) (mb := mb) (mv := mv) (th := nI 0) (sv := sv) (X := X) (ln := ln) (ap := ap) (le := le) (fc := fc) (f1 := f1) (f2 := f2) (ha := ha) (R := R) (B := biF kn on)  (by omega)) k_X5_save ml_X5_95 rfl rfl dX5_copy_38 rfl rfl hl.1 (Nat.le_of_ble_eq_true rfl) ⟨Nat.le_of_ble_eq_true rfl, Nat.le_of_ble_eq_true rfl⟩ ⟨Nat.le_of_ble_eq_true rfl, Nat.le_of_ble_eq_true rfl⟩ (fun r W2 H locs hp G => ?_)
          obtain ⟨rfl, hw⟩ := hp
          have G := g_wc hw G
          refine W.eq (g2 := F0 m 41 ls []) rfl ?_
          refine lv_aload_n hx hb dX5_copy_41 rfl (lv_at hl 0 rfl) ?_
          refine lv_iload_n hx hb dX5_copy_42 rfl (lv_at hl 1 rfl) ?_
          refine lv_iconst (v := (-1)) hx hb dX5_copy_43 (by decide) ?_
          refine g_callV (As := [.int (nI k), .int (-1)]) (rest := []) (q0 := 0) C0 G (c_X5_tells l D cy (am := am) (mf := mSv mf sv) (mb := mSv mb sv) (mv := mSv mv sv) (kn := kn) (on := on) (th := nI 0) (sv := saK sv) (X := X) (ln := ln) (ap := ap) (le := le) (fc := fc) (f1 := f1) (f2 := f2) (ha := ha) (R := R) (z := k) (but := (-1 : Int32)) (sd := sdW (mSv mf sv k) (mSv mb sv k)) (so := onW (mSv mf sv k) (mSv mb sv k)) (by omega) ti_none (ok_sd _ _)) k_X5_tells ml_X5_73 rfl rfl dX5_copy_44 rfl rfl hl.1 (Nat.le_of_ble_eq_true rfl) ⟨Nat.le_of_ble_eq_true rfl, Nat.le_of_ble_eq_true rfl⟩ ⟨Nat.le_of_ble_eq_true rfl, Nat.le_of_ble_eq_true rfl⟩ (fun r W2 H locs hp G => ?_)
          obtain ⟨rfl, hw⟩ := hp
          have G := g_wc hw G
          refine W.eq (g2 := F0 m 47 ls [.int (nI (pc ((fa (sdW (mSv mf sv k) (mSv mb sv k)) (onW (mSv mf sv k) (mSv mb sv k))).1 ^^^ (-1))))]) rfl ?_
          refine lv_istore_n (lv' := [(3, .int (nI (pc ((fa (sdW (mSv mf sv k) (mSv mb sv k)) (onW (mSv mf sv k) (mSv mb sv k))).1 ^^^ (-1))))), (0, .ref (am 0)), (1, .int (nI k)), (2, .int (nI j))]) hx hb dX5_copy_47 rfl hl (by decide) rfl (fun ls hl => ?_)
          refine lv_aload_n hx hb dX5_copy_48 rfl (lv_at hl 1 rfl) ?_
          refine lv_iload_n hx hb dX5_copy_49 rfl (lv_at hl 3 rfl) ?_
          refine g_callV (As := [.int (nI j)]) (rest := []) (q0 := 0) C0 G (c_X5_blanks l D cy (am := am) (mf := mSv mf sv) (mb := mSv mb sv) (mv := mSv mv sv) (th := nI 0) (sv := saK sv) (X := X) (ln := ln) (ap := ap) (le := le) (fc := fc) (f1 := f1) (f2 := f2) (ha := ha) (R := R) (B := biF ((fa (sdW (mSv mf sv k) (mSv mb sv k)) (onW (mSv mf sv k) (mSv mb sv k))).1) ((fa (sdW (mSv mf sv k) (mSv mb sv k)) (onW (mSv mf sv k) (mSv mb sv k))).2)) (z := j) (by omega)) k_X5_blanks ml_X5_19 rfl rfl dX5_copy_50 rfl rfl hl.1 (Nat.le_of_ble_eq_true rfl) ⟨Nat.le_of_ble_eq_true rfl, Nat.le_of_ble_eq_true rfl⟩ ⟨Nat.le_of_ble_eq_true rfl, Nat.le_of_ble_eq_true rfl⟩ (fun r W2 H locs hp G => ?_)
          obtain ⟨rfl, hw⟩ := hp
          have G := g_wc hw G
          refine W.eq (g2 := F0 m 53 ls []) rfl ?_
          refine lv_iconst (v := 0) hx hb dX5_copy_53 (by decide) ?_
          refine lv_istore (lv' := [(4, .int 0), (3, .int (nI (pc ((fa (sdW (mSv mf sv k) (mSv mb sv k)) (onW (mSv mf sv k) (mSv mb sv k))).1 ^^^ (-1))))), (0, .ref (am 0)), (1, .int (nI k)), (2, .int (nI j))]) hx hb dX5_copy_54 hl (by decide) rfl (fun ls hl => ?_)
          have hl := lv_sub hl (l' := [(0, .ref (am 0)), (1, .int (nI k)), (2, .int (nI j)), (3, .int (nI (pc ((fa (sdW (mSv mf sv k) (mSv mb sv k)) (onW (mSv mf sv k) (mSv mb sv k))).1 ^^^ (-1))))), (4, .int 0)]) [2, 3, 4, 1, 0] rfl
          refine g_loop (σ := Nat) (fun i => 64 - i) (fun i => wM am cy (nI 0) (cS (va_up (mSv mf sv) j (cyF (fa (sdW (mSv mf sv k) (mSv mb sv k)) (onW (mSv mf sv k) (mSv mb sv k))).1 (fa (sdW (mSv mf sv k) (mSv mb sv k)) (onW (mSv mf sv k) (mSv mb sv k))).2 i)) (va_up (mSv mb sv) j (cyB (fa (sdW (mSv mf sv k) (mSv mb sv k)) (onW (mSv mf sv k) (mSv mb sv k))).1 (fa (sdW (mSv mf sv k) (mSv mb sv k)) (onW (mSv mf sv k) (mSv mb sv k))).2 i)) (va_up (mSv mv sv) j 0)) (saK sv) X ln ap le fc f1 f2 (biF ((fa (sdW (mSv mf sv k) (mSv mb sv k)) (onW (mSv mf sv k) (mSv mb sv k))).1) ((fa (sdW (mSv mf sv k) (mSv mb sv k)) (onW (mSv mf sv k) (mSv mb sv k))).2)) ha R) (fun i => [(0, .ref (am 0)), (1, .int (nI k)), (2, .int (nI j)), (3, .int (nI (pc ((fa (sdW (mSv mf sv k) (mSv mb sv k)) (onW (mSv mf sv k) (mSv mb sv k))).1 ^^^ (-1))))), (4, .int (nI i))]) (fun i => i ≤ 64) ?_ 0 (by show _ ≤ _; omega) G hl
          intro i hi_56 ih_56 H locs ls G hl
          have G : gW D (wM am cy (nI 0) (cS (va_up (mSv mf sv) j (cyF (fa (sdW (mSv mf sv k) (mSv mb sv k)) (onW (mSv mf sv k) (mSv mb sv k))).1 (fa (sdW (mSv mf sv k) (mSv mb sv k)) (onW (mSv mf sv k) (mSv mb sv k))).2 i)) (va_up (mSv mb sv) j (cyB (fa (sdW (mSv mf sv k) (mSv mb sv k)) (onW (mSv mf sv k) (mSv mb sv k))).1 (fa (sdW (mSv mf sv k) (mSv mb sv k)) (onW (mSv mf sv k) (mSv mb sv k))).2 i)) (va_up (mSv mv sv) j 0)) (saK sv) X ln ap le fc f1 f2 (biF ((fa (sdW (mSv mf sv k) (mSv mb sv k)) (onW (mSv mf sv k) (mSv mb sv k))).1) ((fa (sdW (mSv mf sv k) (mSv mb sv k)) (onW (mSv mf sv k) (mSv mb sv k))).2)) ha R) (va_A (wM am cy th (cS mf mb mv) sv X ln ap le fc f1 f2 (biF kn on) ha R) s.heap.size) s H locs := G
          have hl : lv_has ls 5 [(0, .ref (am 0)), (1, .int (nI k)), (2, .int (nI j)), (3, .int (nI (pc ((fa (sdW (mSv mf sv k) (mSv mb sv k)) (onW (mSv mf sv k) (mSv mb sv k))).1 ^^^ (-1))))), (4, .int (nI i))] := hl
          refine lv_iload hx hb dX5_copy_56 (lv_at hl 4 rfl) ?_
          refine lv_bipush (v := 64) hx hb dX5_copy_58 (by decide) ?_
          refine lv_icmp_ge (tgt := 98) hx hb dX5_copy_60 (by decide) (fun c_60 => ?_) (fun c_60 => ?_)
          · skip
            have c_60 : 64 ≤ i := (nI_leI (a := 64) (b := i) (by omega) (by omega)).mp c_60
            obtain rfl : i = 64 := by omega
            have G : gW D (wM am cy (nI 0) (cS (va_up (mSv mf sv) j (cyF (fa (sdW (mSv mf sv k) (mSv mb sv k)) (onW (mSv mf sv k) (mSv mb sv k))).1 (fa (sdW (mSv mf sv k) (mSv mb sv k)) (onW (mSv mf sv k) (mSv mb sv k))).2 64)) (va_up (mSv mb sv) j (cyB (fa (sdW (mSv mf sv k) (mSv mb sv k)) (onW (mSv mf sv k) (mSv mb sv k))).1 (fa (sdW (mSv mf sv k) (mSv mb sv k)) (onW (mSv mf sv k) (mSv mb sv k))).2 64)) (va_up (mSv mv sv) j 0)) (saK sv) X ln ap le fc f1 f2 (biF ((fa (sdW (mSv mf sv k) (mSv mb sv k)) (onW (mSv mf sv k) (mSv mb sv k))).1) ((fa (sdW (mSv mf sv k) (mSv mb sv k)) (onW (mSv mf sv k) (mSv mb sv k))).2)) ha R) (va_A (wM am cy th (cS mf mb mv) sv X ln ap le fc f1 f2 (biF kn on) ha R) s.heap.size) s _ _ := G
            have hl : lv_has ls 5 [(0, .ref (am 0)), (1, .int (nI k)), (2, .int (nI j)), (3, .int (nI (pc ((fa (sdW (mSv mf sv k) (mSv mb sv k)) (onW (mSv mf sv k) (mSv mb sv k))).1 ^^^ (-1))))), (4, .int (nI 64))] := hl
            refine lv_iload_n hx hb dX5_copy_98 rfl (lv_at hl 3 rfl) ?_
            exact g_iret C0 G ⟨by first | rfl | (exfalso; omega) | (simp only [c_5, c_12, c_21, c_32, c_60, Bool.false_eq_true, ↓reduceIte, eq_self, decide_true, decide_false, not_true_eq_false, not_false_eq_true, Bool.true_and, Bool.false_and, Bool.and_true, Bool.and_false]; done) | (simp [c_5, c_12, c_21, c_32, c_60]; done) | (simp [c_5, c_12, c_21, c_32, c_60]; rfl) | (simp [c_5, c_12, c_21, c_32, c_60]; omega), by first | rfl | (exfalso; omega) | (simp only [c_5, c_12, c_21, c_32, c_60, Bool.false_eq_true, ↓reduceIte, eq_self, decide_true, decide_false, not_true_eq_false, not_false_eq_true, Bool.true_and, Bool.false_and, Bool.and_true, Bool.and_false]; done) | (simp [c_5, c_12, c_21, c_32, c_60]; done) | (simp [c_5, c_12, c_21, c_32, c_60]; rfl) | (simp [c_5, c_12, c_21, c_32, c_60]; omega)⟩ dX5_copy_99
          · skip
            have c_60 : ¬ (64 ≤ i) := fun h => c_60 ((nI_leI (a := 64) (b := i) (by omega) (by omega)).mpr h)
            refine lv_aload_n hx hb dX5_copy_63 rfl (lv_at hl 0 rfl) ?_
            refine lv_iload_n hx hb dX5_copy_64 rfl (lv_at hl 2 rfl) ?_
            refine lv_iload hx hb dX5_copy_65 (lv_at hl 4 rfl) ?_
            refine lv_aload_n hx hb dX5_copy_67 rfl (lv_at hl 0 rfl) ?_
            refine g_get (q0 := 0) (v := .ref (am 3)) C0 G in_X5 rfl rfl 10 (by decide) fl_X5_16 (fun _ h => h) rfl dX5_copy_68 ?_
            refine lv_iload hx hb dX5_copy_71 (lv_at hl 4 rfl) ?_
            refine g_iald (q0 := 3) (n := 64) C0 G rfl 1 rfl (vp_in_nI (n := i) (by omega) (by decide)) dX5_copy_73 ?_
            refine g_topi (x' := biF ((fa (sdW (mSv mf sv k) (mSv mb sv k)) (onW (mSv mf sv k) (mSv mb sv k))).1) ((fa (sdW (mSv mf sv k) (mSv mb sv k)) (onW (mSv mf sv k) (mSv mb sv k))).2) i) (congrArg (biF ((fa (sdW (mSv mf sv k) (mSv mb sv k)) (onW (mSv mf sv k) (mSv mb sv k))).1) ((fa (sdW (mSv mf sv k) (mSv mb sv k)) (onW (mSv mf sv k) (mSv mb sv k))).2)) (nI_clamp (n := i) (by omega))) ?_
            refine lv_iconst (v := (-1)) hx hb dX5_copy_74 (by decide) ?_
            refine lv_icmp_ne (tgt := 82) hx hb dX5_copy_75 (by decide) (fun c_75 => ?_) (fun c_75 => ?_)
            · skip
              have hb75 := (bi_y c_75).1
              have hbq : (if tb (fa (sdW (mSv mf sv k) (mSv mb sv k)) (onW (mSv mf sv k) (mSv mb sv k))).2 i = true then 1 else 0) < 4 := by split <;> decide
              refine lv_aload_n hx hb dX5_copy_82 rfl (lv_at hl 0 rfl) ?_
              refine g_get (q0 := 0) (v := .ref (am 3)) C0 G in_X5 rfl rfl 10 (by decide) fl_X5_16 (fun _ h => h) rfl dX5_copy_83 ?_
              refine lv_iload hx hb dX5_copy_86 (lv_at hl 4 rfl) ?_
              refine g_iald (q0 := 3) (n := 64) C0 G rfl 1 rfl (vp_in_nI (n := i) (by omega) (by decide)) dX5_copy_88 ?_
              refine g_topi (x' := biF ((fa (sdW (mSv mf sv k) (mSv mb sv k)) (onW (mSv mf sv k) (mSv mb sv k))).1) ((fa (sdW (mSv mf sv k) (mSv mb sv k)) (onW (mSv mf sv k) (mSv mb sv k))).2) i) (congrArg (biF ((fa (sdW (mSv mf sv k) (mSv mb sv k)) (onW (mSv mf sv k) (mSv mb sv k))).1) ((fa (sdW (mSv mf sv k) (mSv mb sv k)) (onW (mSv mf sv k) (mSv mb sv k))).2)) (nI_clamp (n := i) (by omega))) ?_
              refine g_topi (x' := nI (if tb (fa (sdW (mSv mf sv k) (mSv mb sv k)) (onW (mSv mf sv k) (mSv mb sv k))).2 i = true then 1 else 0)) ((bi_y c_75).2) ?_
              refine g_callV (As := [.int (nI j), .int (nI i), .int (nI (if tb (fa (sdW (mSv mf sv k) (mSv mb sv k)) (onW (mSv mf sv k) (mSv mb sv k))).2 i = true then 1 else 0))]) (rest := []) (q0 := 0) C0 G (c_X5_lay l D cy (am := am) (mf := va_up (mSv mf sv) j (cyF (fa (sdW (mSv mf sv k) (mSv mb sv k)) (onW (mSv mf sv k) (mSv mb sv k))).1 (fa (sdW (mSv mf sv k) (mSv mb sv k)) (onW (mSv mf sv k) (mSv mb sv k))).2 i)) (mb := va_up (mSv mb sv) j (cyB (fa (sdW (mSv mf sv k) (mSv mb sv k)) (onW (mSv mf sv k) (mSv mb sv k))).1 (fa (sdW (mSv mf sv k) (mSv mb sv k)) (onW (mSv mf sv k) (mSv mb sv k))).2 i)) (mv := va_up (mSv mv sv) j 0) (th := nI 0) (sv := saK sv) (X := X) (ln := ln) (ap := ap) (le := le) (fc := fc) (f1 := f1) (f2 := f2) (ha := ha) (R := R) (B := biF ((fa (sdW (mSv mf sv k) (mSv mb sv k)) (onW (mSv mf sv k) (mSv mb sv k))).1) ((fa (sdW (mSv mf sv k) (mSv mb sv k)) (onW (mSv mf sv k) (mSv mb sv k))).2)) (z := j) (k := i) (q := (if tb (fa (sdW (mSv mf sv k) (mSv mb sv k)) (onW (mSv mf sv k) (mSv mb sv k))).2 i = true then 1 else 0)) (by omega) (by omega) (by omega)) k_X5_lay ml_X5_31 rfl rfl dX5_copy_89 rfl rfl hl.1 (Nat.le_of_ble_eq_true rfl) ⟨Nat.le_of_ble_eq_true rfl, Nat.le_of_ble_eq_true rfl⟩ ⟨Nat.le_of_ble_eq_true rfl, Nat.le_of_ble_eq_true rfl⟩ (fun r W2 H locs hp G => ?_)
              obtain ⟨rfl, hw⟩ := hp
              have G := g_wc hw G
              refine W.eq (g2 := F0 m 92 ls []) rfl ?_
              refine lv_iinc (v := nI (i + 1)) (lv' := [(4, .int (nI (i + 1))), (0, .ref (am 0)), (1, .int (nI k)), (2, .int (nI j)), (3, .int (nI (pc ((fa (sdW (mSv mf sv k) (mSv mb sv k)) (onW (mSv mf sv k) (mSv mb sv k))).1 ^^^ (-1)))))]) hx hb dX5_copy_92 hl (k := 4) rfl (nI_add i 1) (by decide) rfl (fun ls hl => ?_)
              refine lv_goto (tgt := 56) hx hb dX5_copy_95 (by decide) ?_
              have hl := lv_sub hl (l' := _) [1, 2, 3, 4, 0] rfl
              exact ih_56 (i + 1) (by show _ ≤ _; omega) (by show _ < _; omega) _ _ _ (g_wc (by simp only [va_up_e, bx_uu, cyF, cyB, hb75, Bool.false_eq_true, if_true, if_false]) G) hl
            · skip
              have hb75 := bi_n c_75
              refine lv_iconst (v := 2) hx hb dX5_copy_78 (by decide) ?_
              refine lv_goto (tgt := 89) hx hb dX5_copy_79 (by decide) ?_
              refine g_callV (As := [.int (nI j), .int (nI i), .int 2]) (rest := []) (q0 := 0) C0 G (c_X5_lay l D cy (am := am) (mf := va_up (mSv mf sv) j (cyF (fa (sdW (mSv mf sv k) (mSv mb sv k)) (onW (mSv mf sv k) (mSv mb sv k))).1 (fa (sdW (mSv mf sv k) (mSv mb sv k)) (onW (mSv mf sv k) (mSv mb sv k))).2 i)) (mb := va_up (mSv mb sv) j (cyB (fa (sdW (mSv mf sv k) (mSv mb sv k)) (onW (mSv mf sv k) (mSv mb sv k))).1 (fa (sdW (mSv mf sv k) (mSv mb sv k)) (onW (mSv mf sv k) (mSv mb sv k))).2 i)) (mv := va_up (mSv mv sv) j 0) (th := nI 0) (sv := saK sv) (X := X) (ln := ln) (ap := ap) (le := le) (fc := fc) (f1 := f1) (f2 := f2) (ha := ha) (R := R) (B := biF ((fa (sdW (mSv mf sv k) (mSv mb sv k)) (onW (mSv mf sv k) (mSv mb sv k))).1) ((fa (sdW (mSv mf sv k) (mSv mb sv k)) (onW (mSv mf sv k) (mSv mb sv k))).2)) (z := j) (k := i) (q := 2) (by omega) (by omega) (by omega)) k_X5_lay ml_X5_31 rfl rfl dX5_copy_89 rfl rfl hl.1 (Nat.le_of_ble_eq_true rfl) ⟨Nat.le_of_ble_eq_true rfl, Nat.le_of_ble_eq_true rfl⟩ ⟨Nat.le_of_ble_eq_true rfl, Nat.le_of_ble_eq_true rfl⟩ (fun r W2 H locs hp G => ?_)
              obtain ⟨rfl, hw⟩ := hp
              have G := g_wc hw G
              refine W.eq (g2 := F0 m 92 ls []) rfl ?_
              refine lv_iinc (v := nI (i + 1)) (lv' := [(4, .int (nI (i + 1))), (0, .ref (am 0)), (1, .int (nI k)), (2, .int (nI j)), (3, .int (nI (pc ((fa (sdW (mSv mf sv k) (mSv mb sv k)) (onW (mSv mf sv k) (mSv mb sv k))).1 ^^^ (-1)))))]) hx hb dX5_copy_92 hl (k := 4) rfl (nI_add i 1) (by decide) rfl (fun ls hl => ?_)
              refine lv_goto (tgt := 56) hx hb dX5_copy_95 (by decide) ?_
              have hl := lv_sub hl (l' := _) [1, 2, 3, 4, 0] rfl
              exact ih_56 (i + 1) (by show _ ≤ _; omega) (by show _ < _; omega) _ _ _ (g_wc (by simp only [va_up_e, bx_uu, cyF, cyB, hb75, Bool.false_eq_true, if_true, if_false]) G) hl
        · skip
          have c_32 : (decide (0 = 0)) = false := bI_f c_32
          exact absurd ((by decide) : (decide (0 = 0)) = true) (by rw [c_32]; decide)
      · skip
        have c_21 : k = j := (nI_eq (a := k) (b := j) (by omega) (by omega)).mp c_21
        exact absurd c_21 hc
    · skip
      have c_12 : (inB (nI j) 0 2) = false := bI_f c_12
      exact absurd ((inB_y (n := 2) (by omega) rfl (by decide)) : (inB (nI j) 0 2) = true) (by rw [c_12]; decide)

set_option maxHeartbeats 4000000 in
set_option maxRecDepth 100000 in
theorem c_X5_wear_ok (l : Launch) (D : va_G) (cy : Nat → ClassId) (am : Nat → Nat) (mf : Nat → Int64) (mb : Nat → Int64) (mv : Nat → Nat) (th : Int32) (sv : Nat) (X : Nat → Int32) (ln : Nat) (ap : Nat) (le : Nat) (fc : Nat) (f1 : Int32) (f2 : Int32) (ha : Int64) (R : va_W) (B : Nat → Int32) (k : Nat) (i : Nat) (j : Nat) (h1 : k < 3) (h2 : i < 8) (h3 : j < 8) (hv : mv k < 4) (hc : shB1 (mf k) (mb k) (mv k) i j = false) (hs : sv ≤ 6) : GE l D (gts cy) yX5_wear cX5_wear 4 (some .int) 3 0 0 [.ref (am 0), .int (nI k), .int (nI i), .int (nI j)] (wM am cy th (cS mf mb mv) sv X ln ap le fc f1 f2 (B) ha R) (gF (some (.int (kdI ((va_up (mSv mf sv) k (skF ((mSv mf sv) k) (scN ((mSv mv sv) k) i j) (tgN (mSv mf sv k) (mSv mb sv k) (scN (mSv mv sv k) i j) (sbB (mSv mv sv k))))) k) ((va_up (mSv mb sv) k (skB ((mSv mb sv) k) (scN ((mSv mv sv) k) i j) (tgN (mSv mf sv k) (mSv mb sv k) (scN (mSv mv sv k) i j) (sbB (mSv mv sv k))))) k) (scN ((mSv mv sv) k) i j)))) (wM am cy (nI 0) (cS (va_up (mSv mf sv) k (skF ((mSv mf sv) k) (scN ((mSv mv sv) k) i j) (tgN (mSv mf sv k) (mSv mb sv k) (scN (mSv mv sv k) i j) (sbB (mSv mv sv k))))) (va_up (mSv mb sv) k (skB ((mSv mb sv) k) (scN ((mSv mv sv) k) i j) (tgN (mSv mf sv k) (mSv mb sv k) (scN (mSv mv sv k) i j) (sbB (mSv mv sv k))))) (mSv mv sv)) (saK sv) X ln ap le fc f1 f2 (B) ha R)) := by
  refine g_intro (by decide +kernel) (lv := [(0, .ref (am 0)), (1, .int (nI k)), (2, .int (nI i)), (3, .int (nI j))]) rfl (Nat.le_of_ble_eq_true rfl) ?_
  intro p e s m below meth c C0 G ls hl
  have hx := C0.1
  have hb := C0.2.1
  have hown := C0.2.2.2.2.2.1
  have hts := C0.2.2.2.2.2.2.1
  refine lv_aload_n hx hb dX5_wear_0 rfl (lv_at hl 0 rfl) ?_
  refine lv_iload_n hx hb dX5_wear_1 rfl (lv_at hl 1 rfl) ?_
  refine lv_iload_n hx hb dX5_wear_2 rfl (lv_at hl 2 rfl) ?_
  refine lv_iload_n hx hb dX5_wear_3 rfl (lv_at hl 3 rfl) ?_
  refine lv_iconst (v := 0) hx hb dX5_wear_4 (by decide) ?_
  refine g_callV (As := [.int (nI k), .int (nI i), .int (nI j), .int 0]) (rest := []) (q0 := 0) C0 G (c_X5_changes_ok l D cy (am := am) (mf := mf) (mb := mb) (mv := mv) (th := th) (sv := sv) (X := X) (ln := ln) (ap := ap) (le := le) (fc := fc) (f1 := f1) (f2 := f2) (ha := ha) (R := R) (B := B) (k := k) (i := i) (j := j) (lo := false) (by omega) (by omega) (by omega) hv hc hs) k_X5_changes ml_X5_116 rfl rfl dX5_wear_5 rfl rfl hl.1 (Nat.le_of_ble_eq_true rfl) ⟨Nat.le_of_ble_eq_true rfl, Nat.le_of_ble_eq_true rfl⟩ ⟨Nat.le_of_ble_eq_true rfl, Nat.le_of_ble_eq_true rfl⟩ (fun r W2 H locs hp G => ?_)
  obtain ⟨rfl, hw⟩ := hp
  have G := g_wc hw G
  refine W.eq (g2 := F0 m 8 ls [.int (kdI ((va_up (mSv mf sv) k (skF ((mSv mf sv) k) (scN ((mSv mv sv) k) i j) (tgN (mSv mf sv k) (mSv mb sv k) (scN (mSv mv sv k) i j) (sbB (mSv mv sv k))))) k) ((va_up (mSv mb sv) k (skB ((mSv mb sv) k) (scN ((mSv mv sv) k) i j) (tgN (mSv mf sv k) (mSv mb sv k) (scN (mSv mv sv k) i j) (sbB (mSv mv sv k))))) k) (scN ((mSv mv sv) k) i j))]) rfl ?_
  exact g_iret C0 G ⟨by first | rfl | (exfalso; omega) | (simp only [Bool.false_eq_true, ↓reduceIte, eq_self, decide_true, decide_false, not_true_eq_false, not_false_eq_true, Bool.true_and, Bool.false_and, Bool.and_true, Bool.and_false]; done) | (simp []; done) | (simp []; rfl) | (simp []; omega), by first | rfl | (exfalso; omega) | (simp only [Bool.false_eq_true, ↓reduceIte, eq_self, decide_true, decide_false, not_true_eq_false, not_false_eq_true, Bool.true_and, Bool.false_and, Bool.and_true, Bool.and_false]; done) | (simp []; done) | (simp []; rfl) | (simp []; omega)⟩ dX5_wear_8

set_option maxHeartbeats 4000000 in
set_option maxRecDepth 100000 in
theorem c_X5_wear_e1 (l : Launch) (D : va_G) (cy : Nat → ClassId) (am : Nat → Nat) (mf : Nat → Int64) (mb : Nat → Int64) (mv : Nat → Nat) (th : Int32) (sv : Nat) (X : Nat → Int32) (ln : Nat) (ap : Nat) (le : Nat) (fc : Nat) (f1 : Int32) (f2 : Int32) (ha : Int64) (R : va_W) (B : Nat → Int32) (p0 : Int32) (p1 : Int32) (p2 : Int32) (he : (inB p0 0 2 && (inB p1 0 7 && inB p2 0 7)) = false) : GE l D (gts cy) yX5_wear cX5_wear 4 (some .int) 3 0 0 [.ref (am 0), .int p0, .int p1, .int p2] (wM am cy th (cS mf mb mv) sv X ln ap le fc f1 f2 (B) ha R) (gF (some (.int 0)) (wM am cy (nI 1) (cS mf mb mv) sv X ln ap le fc f1 f2 (B) ha R)) := by
  refine g_intro (by decide +kernel) (lv := [(0, .ref (am 0)), (1, .int p0), (2, .int p1), (3, .int p2)]) rfl (Nat.le_of_ble_eq_true rfl) ?_
  intro p e s m below meth c C0 G ls hl
  have hx := C0.1
  have hb := C0.2.1
  have hown := C0.2.2.2.2.2.1
  have hts := C0.2.2.2.2.2.2.1
  refine lv_aload_n hx hb dX5_wear_0 rfl (lv_at hl 0 rfl) ?_
  refine lv_iload_n hx hb dX5_wear_1 rfl (lv_at hl 1 rfl) ?_
  refine lv_iload_n hx hb dX5_wear_2 rfl (lv_at hl 2 rfl) ?_
  refine lv_iload_n hx hb dX5_wear_3 rfl (lv_at hl 3 rfl) ?_
  refine lv_iconst (v := 0) hx hb dX5_wear_4 (by decide) ?_
  refine g_callV (As := [.int p0, .int p1, .int p2, .int 0]) (rest := []) (q0 := 0) C0 G (c_X5_changes_e1 l D cy (am := am) (mf := mf) (mb := mb) (mv := mv) (th := th) (sv := sv) (X := X) (ln := ln) (ap := ap) (le := le) (fc := fc) (f1 := f1) (f2 := f2) (ha := ha) (R := R) (B := B) (p0 := p0) (p1 := p1) (p2 := p2) (lo := false) he) k_X5_changes ml_X5_116 rfl rfl dX5_wear_5 rfl rfl hl.1 (Nat.le_of_ble_eq_true rfl) ⟨Nat.le_of_ble_eq_true rfl, Nat.le_of_ble_eq_true rfl⟩ ⟨Nat.le_of_ble_eq_true rfl, Nat.le_of_ble_eq_true rfl⟩ (fun r W2 H locs hp G => ?_)
  obtain ⟨rfl, hw⟩ := hp
  have G := g_wc hw G
  refine W.eq (g2 := F0 m 8 ls [.int 0]) rfl ?_
  exact g_iret C0 G ⟨by first | rfl | (exfalso; omega) | (simp only [Bool.false_eq_true, ↓reduceIte, eq_self, decide_true, decide_false, not_true_eq_false, not_false_eq_true, Bool.true_and, Bool.false_and, Bool.and_true, Bool.and_false]; done) | (simp []; done) | (simp []; rfl) | (simp []; omega), by first | rfl | (exfalso; omega) | (simp only [Bool.false_eq_true, ↓reduceIte, eq_self, decide_true, decide_false, not_true_eq_false, not_false_eq_true, Bool.true_and, Bool.false_and, Bool.and_true, Bool.and_false]; done) | (simp []; done) | (simp []; rfl) | (simp []; omega)⟩ dX5_wear_8

set_option maxHeartbeats 4000000 in
set_option maxRecDepth 100000 in
theorem c_X5_wear_e2 (l : Launch) (D : va_G) (cy : Nat → ClassId) (am : Nat → Nat) (mf : Nat → Int64) (mb : Nat → Int64) (mv : Nat → Nat) (th : Int32) (sv : Nat) (X : Nat → Int32) (ln : Nat) (ap : Nat) (le : Nat) (fc : Nat) (f1 : Int32) (f2 : Int32) (ha : Int64) (R : va_W) (B : Nat → Int32) (k : Nat) (i : Nat) (j : Nat) (h1 : k < 3) (h2 : i < 8) (h3 : j < 8) (hv : mv k < 4) (hc : ¬ shB1 (mf k) (mb k) (mv k) i j = false) : GE l D (gts cy) yX5_wear cX5_wear 4 (some .int) 3 0 0 [.ref (am 0), .int (nI k), .int (nI i), .int (nI j)] (wM am cy th (cS mf mb mv) sv X ln ap le fc f1 f2 (B) ha R) (gF (some (.int 0)) (wM am cy (nI 2) (cS mf mb mv) sv X ln ap le fc f1 f2 (B) ha R)) := by
  refine g_intro (by decide +kernel) (lv := [(0, .ref (am 0)), (1, .int (nI k)), (2, .int (nI i)), (3, .int (nI j))]) rfl (Nat.le_of_ble_eq_true rfl) ?_
  intro p e s m below meth c C0 G ls hl
  have hx := C0.1
  have hb := C0.2.1
  have hown := C0.2.2.2.2.2.1
  have hts := C0.2.2.2.2.2.2.1
  refine lv_aload_n hx hb dX5_wear_0 rfl (lv_at hl 0 rfl) ?_
  refine lv_iload_n hx hb dX5_wear_1 rfl (lv_at hl 1 rfl) ?_
  refine lv_iload_n hx hb dX5_wear_2 rfl (lv_at hl 2 rfl) ?_
  refine lv_iload_n hx hb dX5_wear_3 rfl (lv_at hl 3 rfl) ?_
  refine lv_iconst (v := 0) hx hb dX5_wear_4 (by decide) ?_
  refine g_callV (As := [.int (nI k), .int (nI i), .int (nI j), .int 0]) (rest := []) (q0 := 0) C0 G (c_X5_changes_e2 l D cy (am := am) (mf := mf) (mb := mb) (mv := mv) (th := th) (sv := sv) (X := X) (ln := ln) (ap := ap) (le := le) (fc := fc) (f1 := f1) (f2 := f2) (ha := ha) (R := R) (B := B) (k := k) (i := i) (j := j) (lo := false) (by omega) (by omega) (by omega) hv hc) k_X5_changes ml_X5_116 rfl rfl dX5_wear_5 rfl rfl hl.1 (Nat.le_of_ble_eq_true rfl) ⟨Nat.le_of_ble_eq_true rfl, Nat.le_of_ble_eq_true rfl⟩ ⟨Nat.le_of_ble_eq_true rfl, Nat.le_of_ble_eq_true rfl⟩ (fun r W2 H locs hp G => ?_)
  obtain ⟨rfl, hw⟩ := hp
  have G := g_wc hw G
  refine W.eq (g2 := F0 m 8 ls [.int 0]) rfl ?_
  exact g_iret C0 G ⟨by first | rfl | (exfalso; omega) | (simp only [Bool.false_eq_true, ↓reduceIte, eq_self, decide_true, decide_false, not_true_eq_false, not_false_eq_true, Bool.true_and, Bool.false_and, Bool.and_true, Bool.and_false]; done) | (simp []; done) | (simp []; rfl) | (simp []; omega), by first | rfl | (exfalso; omega) | (simp only [Bool.false_eq_true, ↓reduceIte, eq_self, decide_true, decide_false, not_true_eq_false, not_false_eq_true, Bool.true_and, Bool.false_and, Bool.and_true, Bool.and_false]; done) | (simp []; done) | (simp []; rfl) | (simp []; omega)⟩ dX5_wear_8

set_option maxHeartbeats 4000000 in
set_option maxRecDepth 100000 in
theorem c_X5_lose_ok (l : Launch) (D : va_G) (cy : Nat → ClassId) (am : Nat → Nat) (mf : Nat → Int64) (mb : Nat → Int64) (mv : Nat → Nat) (th : Int32) (sv : Nat) (X : Nat → Int32) (ln : Nat) (ap : Nat) (le : Nat) (fc : Nat) (f1 : Int32) (f2 : Int32) (ha : Int64) (R : va_W) (B : Nat → Int32) (k : Nat) (i : Nat) (j : Nat) (h1 : k < 3) (h2 : i < 8) (h3 : j < 8) (hv : mv k < 4) (hc : shB1 (mf k) (mb k) (mv k) i j = true) (hs : sv ≤ 6) : GE l D (gts cy) yX5_lose cX5_lose 4 (some .int) 3 0 0 [.ref (am 0), .int (nI k), .int (nI i), .int (nI j)] (wM am cy th (cS mf mb mv) sv X ln ap le fc f1 f2 (B) ha R) (gF (some (.int (kdI ((va_up (mSv mf sv) k (skF ((mSv mf sv) k) (scN ((mSv mv sv) k) i j) (tgN (mSv mf sv k) (mSv mb sv k) (scN (mSv mv sv k) i j) (sbB (mSv mv sv k))))) k) ((va_up (mSv mb sv) k (skB ((mSv mb sv) k) (scN ((mSv mv sv) k) i j) (tgN (mSv mf sv k) (mSv mb sv k) (scN (mSv mv sv k) i j) (sbB (mSv mv sv k))))) k) (scN ((mSv mv sv) k) i j)))) (wM am cy (nI 0) (cS (va_up (mSv mf sv) k (skF ((mSv mf sv) k) (scN ((mSv mv sv) k) i j) (tgN (mSv mf sv k) (mSv mb sv k) (scN (mSv mv sv k) i j) (sbB (mSv mv sv k))))) (va_up (mSv mb sv) k (skB ((mSv mb sv) k) (scN ((mSv mv sv) k) i j) (tgN (mSv mf sv k) (mSv mb sv k) (scN (mSv mv sv k) i j) (sbB (mSv mv sv k))))) (mSv mv sv)) (saK sv) X ln ap le fc f1 f2 (B) ha R)) := by
  refine g_intro (by decide +kernel) (lv := [(0, .ref (am 0)), (1, .int (nI k)), (2, .int (nI i)), (3, .int (nI j))]) rfl (Nat.le_of_ble_eq_true rfl) ?_
  intro p e s m below meth c C0 G ls hl
  have hx := C0.1
  have hb := C0.2.1
  have hown := C0.2.2.2.2.2.1
  have hts := C0.2.2.2.2.2.2.1
  refine lv_aload_n hx hb dX5_lose_0 rfl (lv_at hl 0 rfl) ?_
  refine lv_iload_n hx hb dX5_lose_1 rfl (lv_at hl 1 rfl) ?_
  refine lv_iload_n hx hb dX5_lose_2 rfl (lv_at hl 2 rfl) ?_
  refine lv_iload_n hx hb dX5_lose_3 rfl (lv_at hl 3 rfl) ?_
  refine lv_iconst (v := 1) hx hb dX5_lose_4 (by decide) ?_
  refine g_callV (As := [.int (nI k), .int (nI i), .int (nI j), .int 1]) (rest := []) (q0 := 0) C0 G (c_X5_changes_ok l D cy (am := am) (mf := mf) (mb := mb) (mv := mv) (th := th) (sv := sv) (X := X) (ln := ln) (ap := ap) (le := le) (fc := fc) (f1 := f1) (f2 := f2) (ha := ha) (R := R) (B := B) (k := k) (i := i) (j := j) (lo := true) (by omega) (by omega) (by omega) hv hc hs) k_X5_changes ml_X5_116 rfl rfl dX5_lose_5 rfl rfl hl.1 (Nat.le_of_ble_eq_true rfl) ⟨Nat.le_of_ble_eq_true rfl, Nat.le_of_ble_eq_true rfl⟩ ⟨Nat.le_of_ble_eq_true rfl, Nat.le_of_ble_eq_true rfl⟩ (fun r W2 H locs hp G => ?_)
  obtain ⟨rfl, hw⟩ := hp
  have G := g_wc hw G
  refine W.eq (g2 := F0 m 8 ls [.int (kdI ((va_up (mSv mf sv) k (skF ((mSv mf sv) k) (scN ((mSv mv sv) k) i j) (tgN (mSv mf sv k) (mSv mb sv k) (scN (mSv mv sv k) i j) (sbB (mSv mv sv k))))) k) ((va_up (mSv mb sv) k (skB ((mSv mb sv) k) (scN ((mSv mv sv) k) i j) (tgN (mSv mf sv k) (mSv mb sv k) (scN (mSv mv sv k) i j) (sbB (mSv mv sv k))))) k) (scN ((mSv mv sv) k) i j))]) rfl ?_
  exact g_iret C0 G ⟨by first | rfl | (exfalso; omega) | (simp only [Bool.false_eq_true, ↓reduceIte, eq_self, decide_true, decide_false, not_true_eq_false, not_false_eq_true, Bool.true_and, Bool.false_and, Bool.and_true, Bool.and_false]; done) | (simp []; done) | (simp []; rfl) | (simp []; omega), by first | rfl | (exfalso; omega) | (simp only [Bool.false_eq_true, ↓reduceIte, eq_self, decide_true, decide_false, not_true_eq_false, not_false_eq_true, Bool.true_and, Bool.false_and, Bool.and_true, Bool.and_false]; done) | (simp []; done) | (simp []; rfl) | (simp []; omega)⟩ dX5_lose_8

set_option maxHeartbeats 4000000 in
set_option maxRecDepth 100000 in
theorem c_X5_lose_e1 (l : Launch) (D : va_G) (cy : Nat → ClassId) (am : Nat → Nat) (mf : Nat → Int64) (mb : Nat → Int64) (mv : Nat → Nat) (th : Int32) (sv : Nat) (X : Nat → Int32) (ln : Nat) (ap : Nat) (le : Nat) (fc : Nat) (f1 : Int32) (f2 : Int32) (ha : Int64) (R : va_W) (B : Nat → Int32) (p0 : Int32) (p1 : Int32) (p2 : Int32) (he : (inB p0 0 2 && (inB p1 0 7 && inB p2 0 7)) = false) : GE l D (gts cy) yX5_lose cX5_lose 4 (some .int) 3 0 0 [.ref (am 0), .int p0, .int p1, .int p2] (wM am cy th (cS mf mb mv) sv X ln ap le fc f1 f2 (B) ha R) (gF (some (.int 0)) (wM am cy (nI 1) (cS mf mb mv) sv X ln ap le fc f1 f2 (B) ha R)) := by
  refine g_intro (by decide +kernel) (lv := [(0, .ref (am 0)), (1, .int p0), (2, .int p1), (3, .int p2)]) rfl (Nat.le_of_ble_eq_true rfl) ?_
  intro p e s m below meth c C0 G ls hl
  have hx := C0.1
  have hb := C0.2.1
  have hown := C0.2.2.2.2.2.1
  have hts := C0.2.2.2.2.2.2.1
  refine lv_aload_n hx hb dX5_lose_0 rfl (lv_at hl 0 rfl) ?_
  refine lv_iload_n hx hb dX5_lose_1 rfl (lv_at hl 1 rfl) ?_
  refine lv_iload_n hx hb dX5_lose_2 rfl (lv_at hl 2 rfl) ?_
  refine lv_iload_n hx hb dX5_lose_3 rfl (lv_at hl 3 rfl) ?_
  refine lv_iconst (v := 1) hx hb dX5_lose_4 (by decide) ?_
  refine g_callV (As := [.int p0, .int p1, .int p2, .int 1]) (rest := []) (q0 := 0) C0 G (c_X5_changes_e1 l D cy (am := am) (mf := mf) (mb := mb) (mv := mv) (th := th) (sv := sv) (X := X) (ln := ln) (ap := ap) (le := le) (fc := fc) (f1 := f1) (f2 := f2) (ha := ha) (R := R) (B := B) (p0 := p0) (p1 := p1) (p2 := p2) (lo := true) he) k_X5_changes ml_X5_116 rfl rfl dX5_lose_5 rfl rfl hl.1 (Nat.le_of_ble_eq_true rfl) ⟨Nat.le_of_ble_eq_true rfl, Nat.le_of_ble_eq_true rfl⟩ ⟨Nat.le_of_ble_eq_true rfl, Nat.le_of_ble_eq_true rfl⟩ (fun r W2 H locs hp G => ?_)
  obtain ⟨rfl, hw⟩ := hp
  have G := g_wc hw G
  refine W.eq (g2 := F0 m 8 ls [.int 0]) rfl ?_
  exact g_iret C0 G ⟨by first | rfl | (exfalso; omega) | (simp only [Bool.false_eq_true, ↓reduceIte, eq_self, decide_true, decide_false, not_true_eq_false, not_false_eq_true, Bool.true_and, Bool.false_and, Bool.and_true, Bool.and_false]; done) | (simp []; done) | (simp []; rfl) | (simp []; omega), by first | rfl | (exfalso; omega) | (simp only [Bool.false_eq_true, ↓reduceIte, eq_self, decide_true, decide_false, not_true_eq_false, not_false_eq_true, Bool.true_and, Bool.false_and, Bool.and_true, Bool.and_false]; done) | (simp []; done) | (simp []; rfl) | (simp []; omega)⟩ dX5_lose_8

set_option maxHeartbeats 4000000 in
set_option maxRecDepth 100000 in
theorem c_X5_lose_e2 (l : Launch) (D : va_G) (cy : Nat → ClassId) (am : Nat → Nat) (mf : Nat → Int64) (mb : Nat → Int64) (mv : Nat → Nat) (th : Int32) (sv : Nat) (X : Nat → Int32) (ln : Nat) (ap : Nat) (le : Nat) (fc : Nat) (f1 : Int32) (f2 : Int32) (ha : Int64) (R : va_W) (B : Nat → Int32) (k : Nat) (i : Nat) (j : Nat) (h1 : k < 3) (h2 : i < 8) (h3 : j < 8) (hv : mv k < 4) (hc : ¬ shB1 (mf k) (mb k) (mv k) i j = true) : GE l D (gts cy) yX5_lose cX5_lose 4 (some .int) 3 0 0 [.ref (am 0), .int (nI k), .int (nI i), .int (nI j)] (wM am cy th (cS mf mb mv) sv X ln ap le fc f1 f2 (B) ha R) (gF (some (.int 0)) (wM am cy (nI 2) (cS mf mb mv) sv X ln ap le fc f1 f2 (B) ha R)) := by
  refine g_intro (by decide +kernel) (lv := [(0, .ref (am 0)), (1, .int (nI k)), (2, .int (nI i)), (3, .int (nI j))]) rfl (Nat.le_of_ble_eq_true rfl) ?_
  intro p e s m below meth c C0 G ls hl
  have hx := C0.1
  have hb := C0.2.1
  have hown := C0.2.2.2.2.2.1
  have hts := C0.2.2.2.2.2.2.1
  refine lv_aload_n hx hb dX5_lose_0 rfl (lv_at hl 0 rfl) ?_
  refine lv_iload_n hx hb dX5_lose_1 rfl (lv_at hl 1 rfl) ?_
  refine lv_iload_n hx hb dX5_lose_2 rfl (lv_at hl 2 rfl) ?_
  refine lv_iload_n hx hb dX5_lose_3 rfl (lv_at hl 3 rfl) ?_
  refine lv_iconst (v := 1) hx hb dX5_lose_4 (by decide) ?_
  refine g_callV (As := [.int (nI k), .int (nI i), .int (nI j), .int 1]) (rest := []) (q0 := 0) C0 G (c_X5_changes_e2 l D cy (am := am) (mf := mf) (mb := mb) (mv := mv) (th := th) (sv := sv) (X := X) (ln := ln) (ap := ap) (le := le) (fc := fc) (f1 := f1) (f2 := f2) (ha := ha) (R := R) (B := B) (k := k) (i := i) (j := j) (lo := true) (by omega) (by omega) (by omega) hv hc) k_X5_changes ml_X5_116 rfl rfl dX5_lose_5 rfl rfl hl.1 (Nat.le_of_ble_eq_true rfl) ⟨Nat.le_of_ble_eq_true rfl, Nat.le_of_ble_eq_true rfl⟩ ⟨Nat.le_of_ble_eq_true rfl, Nat.le_of_ble_eq_true rfl⟩ (fun r W2 H locs hp G => ?_)
  obtain ⟨rfl, hw⟩ := hp
  have G := g_wc hw G
  refine W.eq (g2 := F0 m 8 ls [.int 0]) rfl ?_
  exact g_iret C0 G ⟨by first | rfl | (exfalso; omega) | (simp only [Bool.false_eq_true, ↓reduceIte, eq_self, decide_true, decide_false, not_true_eq_false, not_false_eq_true, Bool.true_and, Bool.false_and, Bool.and_true, Bool.and_false]; done) | (simp []; done) | (simp []; rfl) | (simp []; omega), by first | rfl | (exfalso; omega) | (simp only [Bool.false_eq_true, ↓reduceIte, eq_self, decide_true, decide_false, not_true_eq_false, not_false_eq_true, Bool.true_and, Bool.false_and, Bool.and_true, Bool.and_false]; done) | (simp []; done) | (simp []; rfl) | (simp []; omega)⟩ dX5_lose_8
