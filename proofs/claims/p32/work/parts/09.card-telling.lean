set_option maxHeartbeats 4000000 in
set_option maxRecDepth 100000 in
theorem c_X0_punchRow (l : Launch) (D : va_G) (cy : Nat → ClassId) (R : va_W) (h : Nat) (f : Int64) (b : Int64) (v : Nat) (r : Nat) (x : Nat) (h1 : r < 7) (h2 : x < 128) : GE l D (gts cy) yX0_punchRow cX0_punchRow 4 (some .int) 2 0 0 [.ref h, .int (nI r), .int (nI x)] ((h, .inr (1, [.long f, .long b, .int (nI v)])) :: R) (gF (some (.int (nI (pc7 x % 2)))) ((h, .inr (1, [.long (pwF f r x), .long (pwB b r x), .int (nI v)])) :: R)) := by
  refine g_intro (by decide +kernel) (lv := [(0, .ref h), (1, .int (nI r)), (2, .int (nI x))]) rfl (Nat.le_of_ble_eq_true rfl) ?_
  intro p e s m below meth c C0 G ls hl
  have hx := C0.1
  have hb := C0.2.1
  have hown := C0.2.2.2.2.2.1
  have hts := C0.2.2.2.2.2.2.1
  have hp7 := pc7_le x
  refine lv_iconst (v := 0) hx hb dX0_punchRow_0 (by decide) ?_
  refine lv_istore_n (lv' := [(3, .int 0), (0, .ref h), (1, .int (nI r)), (2, .int (nI x))]) hx hb dX0_punchRow_1 rfl hl (by decide) rfl (fun ls hl => ?_)
  have hl := lv_sub hl (l' := [(0, .ref h), (1, .int (nI r)), (2, .int (nI x)), (3, .int 0)]) [1, 2, 3, 0] rfl
  refine g_loop (σ := Nat) (fun i => 7 - i) (fun i => (h, .inr (1, [.long (prF f r x i), .long (prB b r x i), .int (nI v)])) :: R) (fun i => [(0, .ref h), (1, .int (nI r)), (2, .int (nI x)), (3, .int (nI i))]) (fun i => i ≤ 7) ?_ 0 (by show _ ≤ _; omega) G hl
  intro i hi_2 ih_2 H locs ls G hl
  have G : gW D ((h, .inr (1, [.long (prF f r x i), .long (prB b r x i), .int (nI v)])) :: R) (va_A ((h, .inr (1, [.long f, .long b, .int (nI v)])) :: R) s.heap.size) s H locs := G
  have hl : lv_has ls 4 [(0, .ref h), (1, .int (nI r)), (2, .int (nI x)), (3, .int (nI i))] := hl
  refine lv_iload_n hx hb dX0_punchRow_2 rfl (lv_at hl 3 rfl) ?_
  refine lv_bipush (v := 7) hx hb dX0_punchRow_3 (by decide) ?_
  refine lv_icmp_ge (tgt := 28) hx hb dX0_punchRow_5 (by decide) (fun c_5 => ?_) (fun c_5 => ?_)
  · skip
    have c_5 : 7 ≤ i := (nI_leI (a := 7) (b := i) (by omega) (by omega)).mp c_5
    obtain rfl : i = 7 := by omega
    have G : gW D ((h, .inr (1, [.long (prF f r x 7), .long (prB b r x 7), .int (nI v)])) :: R) (va_A ((h, .inr (1, [.long f, .long b, .int (nI v)])) :: R) s.heap.size) s _ _ := G
    have hl : lv_has ls 4 [(0, .ref h), (1, .int (nI r)), (2, .int (nI x)), (3, .int (nI 7))] := hl
    refine lv_iload_n hx hb dX0_punchRow_28 rfl (lv_at hl 2 rfl) ?_
    refine g_callS (As := [.int (nI x)]) (rest := []) C0 G (c_J6_bitCount_0f7a4 l D cy (W1 := (h, .inr (1, [.long (prF f r x 7), .long (prB b r x 7), .int (nI v)])) :: R) (k := x) (by omega)) k_J6_bitCount_0f7a4 ml_X0_51 dX0_punchRow_29 rfl rfl hl.1 (Nat.le_of_ble_eq_true rfl) ⟨Nat.le_of_ble_eq_true rfl, Nat.le_of_ble_eq_true rfl⟩ ⟨Nat.le_of_ble_eq_true rfl, Nat.le_of_ble_eq_true rfl⟩ (fun r W2 H locs hp G => ?_)
    obtain ⟨rfl, hw⟩ := hp
    have G := g_wc hw G
    refine W.eq (g2 := F0 m 32 ls [.int (nI (pc7 x))]) rfl ?_
    refine lv_iconst (v := 1) hx hb dX0_punchRow_32 (by decide) ?_
    refine lv_iand hx hb dX0_punchRow_33 ?_
    refine g_topi (x' := nI ((pc7 x) % 2)) (and1 (pc7 x)) ?_
    refine lv_istore_n (lv' := [(3, .int (nI ((pc7 x) % 2))), (0, .ref h), (1, .int (nI r)), (2, .int (nI x))]) hx hb dX0_punchRow_34 rfl hl (by decide) rfl (fun ls hl => ?_)
    refine lv_aload_n hx hb dX0_punchRow_35 rfl (lv_at hl 1 rfl) ?_
    refine lv_iload_n hx hb dX0_punchRow_36 rfl (lv_at hl 2 rfl) ?_
    refine lv_bipush (v := 7) hx hb dX0_punchRow_37 (by decide) ?_
    refine lv_iload_n hx hb dX0_punchRow_39 rfl (lv_at hl 0 rfl) ?_
    refine g_callV (As := [.int (nI r), .int 7, .int (nI ((pc7 x) % 2))]) (rest := []) (q0 := 0) C0 G (c_X0_punchBit l D cy (R := R) (h := h) (f := prF f r x 7) (b := prB b r x 7) (v := v) (row := r) (col := 7) (bit := (pc7 x) % 2) (by omega) (by omega)) k_X0_punchBit ml_X0_47 rfl rfl dX0_punchRow_40 rfl rfl hl.1 (Nat.le_of_ble_eq_true rfl) ⟨Nat.le_of_ble_eq_true rfl, Nat.le_of_ble_eq_true rfl⟩ ⟨Nat.le_of_ble_eq_true rfl, Nat.le_of_ble_eq_true rfl⟩ (fun r W2 H locs hp G => ?_)
    obtain ⟨rfl, hw⟩ := hp
    have G := g_wc hw G
    refine W.eq (g2 := F0 m 43 ls []) rfl ?_
    refine lv_iload_n hx hb dX0_punchRow_43 rfl (lv_at hl 0 rfl) ?_
    exact g_iret C0 G ⟨by first | rfl | (exfalso; omega) | (simp only [c_5, Bool.false_eq_true, ↓reduceIte, eq_self, decide_true, decide_false, not_true_eq_false, not_false_eq_true, Bool.true_and, Bool.false_and, Bool.and_true, Bool.and_false]; done) | (simp [c_5]; done) | (simp [c_5]; rfl) | (simp [c_5]; omega), by first | rfl | (exfalso; omega) | (simp only [c_5, Bool.false_eq_true, ↓reduceIte, eq_self, decide_true, decide_false, not_true_eq_false, not_false_eq_true, Bool.true_and, Bool.false_and, Bool.and_true, Bool.and_false]; done) | (simp [c_5]; done) | (simp [c_5]; rfl) | (simp [c_5]; omega)⟩ dX0_punchRow_44
  · skip
    have c_5 : ¬ (7 ≤ i) := fun h => c_5 ((nI_leI (a := 7) (b := i) (by omega) (by omega)).mpr h)
    refine lv_aload_n hx hb dX0_punchRow_8 rfl (lv_at hl 0 rfl) ?_
    refine lv_iload_n hx hb dX0_punchRow_9 rfl (lv_at hl 1 rfl) ?_
    refine lv_iload_n hx hb dX0_punchRow_10 rfl (lv_at hl 3 rfl) ?_
    refine lv_iload_n hx hb dX0_punchRow_11 rfl (lv_at hl 2 rfl) ?_
    refine lv_bipush (v := 6) hx hb dX0_punchRow_12 (by decide) ?_
    refine lv_iload_n hx hb dX0_punchRow_14 rfl (lv_at hl 3 rfl) ?_
    refine lv_isub hx hb dX0_punchRow_15 ?_
    refine g_topi (x' := nI (6 - i)) (pk_sub (a := 6) (b := i) (by omega)) ?_
    refine lv_ishr hx hb dX0_punchRow_16 ?_
    refine g_topi (x' := nI (x / 2 ^ (6 - i))) (shrN (a := x) (n := 6 - i) (by omega) (by omega)) ?_
    refine lv_iconst (v := 1) hx hb dX0_punchRow_17 (by decide) ?_
    refine lv_iand hx hb dX0_punchRow_18 ?_
    refine g_topi (x' := nI ((x / 2 ^ (6 - i)) % 2)) (and1 (x / 2 ^ (6 - i))) ?_
    refine g_callV (As := [.int (nI r), .int (nI i), .int (nI ((x / 2 ^ (6 - i)) % 2))]) (rest := []) (q0 := 0) C0 G (c_X0_punchBit l D cy (R := R) (h := h) (f := prF f r x i) (b := prB b r x i) (v := v) (row := r) (col := i) (bit := (x / 2 ^ (6 - i)) % 2) (by omega) (by omega)) k_X0_punchBit ml_X0_47 rfl rfl dX0_punchRow_19 rfl rfl hl.1 (Nat.le_of_ble_eq_true rfl) ⟨Nat.le_of_ble_eq_true rfl, Nat.le_of_ble_eq_true rfl⟩ ⟨Nat.le_of_ble_eq_true rfl, Nat.le_of_ble_eq_true rfl⟩ (fun r W2 H locs hp G => ?_)
    obtain ⟨rfl, hw⟩ := hp
    have G := g_wc hw G
    refine W.eq (g2 := F0 m 22 ls []) rfl ?_
    refine lv_iinc (v := nI (i + 1)) (lv' := [(3, .int (nI (i + 1))), (0, .ref h), (1, .int (nI r)), (2, .int (nI x))]) hx hb dX0_punchRow_22 hl (k := 3) rfl (nI_add i 1) (by decide) rfl (fun ls hl => ?_)
    refine lv_goto (tgt := 2) hx hb dX0_punchRow_25 (by decide) ?_
    have hl := lv_sub hl (l' := _) [1, 2, 3, 0] rfl
    exact ih_2 (i + 1) (by show _ ≤ _; omega) (by show _ < _; omega) _ _ _ G hl

set_option maxHeartbeats 4000000 in
set_option maxRecDepth 100000 in
theorem c_X0_canClose (l : Launch) (D : va_G) (cy : Nat → ClassId) (R : va_W) (h : Nat) (f : Int64) (b : Int64) (v : Nat)   : GE l D (gts cy) yX0_canClose cX0_canClose 3 (some .boolean) 1 0 0 [.ref h] ((h, .inr (1, [.long f, .long b, .int (nI v)])) :: R) (gF (some (.int (bI (ccB f b)))) ((h, .inr (1, [.long f, .long b, .int (nI v)])) :: R)) := by
  refine g_intro (by decide +kernel) (lv := [(0, .ref h)]) rfl (Nat.le_of_ble_eq_true rfl) ?_
  intro p e s m below meth c C0 G ls hl
  have hx := C0.1
  have hb := C0.2.1
  have hown := C0.2.2.2.2.2.1
  have hts := C0.2.2.2.2.2.2.1
  refine lv_bipush (v := 7) hx hb dX0_canClose_0 (by decide) ?_
  refine g_callSN (As := [.int 7]) (rest := []) C0 G (c_X4_rowCells l D cy (W1 := (h, .inr (1, [.long f, .long b, .int (nI v)])) :: R) (r := 7) ) k_X4_rowCells nm_X0_43 dX0_canClose_2 rfl rfl hl.1 (Nat.le_of_ble_eq_true rfl) ⟨Nat.le_of_ble_eq_true rfl, Nat.le_of_ble_eq_true rfl⟩ ⟨Nat.le_of_ble_eq_true rfl, Nat.le_of_ble_eq_true rfl⟩ (fun r W2 H locs hp G => ?_)
  obtain ⟨rfl, hw⟩ := hp
  have G := g_wc hw G
  refine W.eq (g2 := F0 m 5 ls [.long (rowM 7)]) rfl ?_
  refine lv_lstore_n (lv' := [(1, .long (rowM 7)), (0, .ref h)]) hx hb dX0_canClose_5 rfl hl (by decide) rfl (fun ls hl => ?_)
  refine lv_aload_n hx hb dX0_canClose_6 rfl (lv_at hl 1 rfl) ?_
  refine g_callV (As := []) (rest := []) (q0 := 0) C0 G (c_X0_sound l D cy (R := R) (h := h) (f := f) (b := b) (v := v)  ) k_X0_sound ml_X0_57 rfl rfl dX0_canClose_7 rfl rfl hl.1 (Nat.le_of_ble_eq_true rfl) ⟨Nat.le_of_ble_eq_true rfl, Nat.le_of_ble_eq_true rfl⟩ ⟨Nat.le_of_ble_eq_true rfl, Nat.le_of_ble_eq_true rfl⟩ (fun r W2 H locs hp G => ?_)
  obtain ⟨rfl, hw⟩ := hp
  have G := g_wc hw G
  refine W.eq (g2 := F0 m 10 ls [.long (sdW f b)]) rfl ?_
  refine lv_lload_n hx hb dX0_canClose_10 rfl (lv_at hl 0 rfl) ?_
  refine lv_lor hx hb dX0_canClose_11 ?_
  refine lv_ldc2 (v := (-1)) hx hb hown (hts _ kl_X0_22) dX0_canClose_12 ?_
  refine W.lcmp hx hb dX0_canClose_15 ?_
  refine lv_if_ne (tgt := 34) hx hb dX0_canClose_16 (by decide) (fun c_16 => ?_) (fun c_16 => ?_)
  · skip
    have c_16 : ¬ ((sdW f b) ||| (rowM 7)) = ((-1) : Int64) := fun h => c_16 (lgc_eq.mpr h)
    refine lv_iconst (v := 0) hx hb dX0_canClose_34 (by decide) ?_
    exact g_zret C0 G rfl ⟨by first | rfl | (exfalso; omega) | (simp only [ccB, bI, c_16, Bool.false_eq_true, ↓reduceIte, eq_self, decide_true, decide_false, not_true_eq_false, not_false_eq_true, Bool.true_and, Bool.false_and, Bool.and_true, Bool.and_false]; done) | (simp [ccB, bI, c_16]; done) | (simp [ccB, bI, c_16]; rfl) | (simp [ccB, bI, c_16]; omega), by first | rfl | (exfalso; omega) | (simp only [ccB, bI, c_16, Bool.false_eq_true, ↓reduceIte, eq_self, decide_true, decide_false, not_true_eq_false, not_false_eq_true, Bool.true_and, Bool.false_and, Bool.and_true, Bool.and_false]; done) | (simp [ccB, bI, c_16]; done) | (simp [ccB, bI, c_16]; rfl) | (simp [ccB, bI, c_16]; omega)⟩ dX0_canClose_35
  · skip
    have c_16 : ((sdW f b) ||| (rowM 7)) = ((-1) : Int64) := lgc_eq.mp c_16
    refine lv_aload_n hx hb dX0_canClose_19 rfl (lv_at hl 1 rfl) ?_
    refine g_callV (As := []) (rest := []) (q0 := 0) C0 G (c_X0_blank l D cy (R := R) (h := h) (f := f) (b := b) (v := v)  ) k_X0_blank ml_X0_28 rfl rfl dX0_canClose_20 rfl rfl hl.1 (Nat.le_of_ble_eq_true rfl) ⟨Nat.le_of_ble_eq_true rfl, Nat.le_of_ble_eq_true rfl⟩ ⟨Nat.le_of_ble_eq_true rfl, Nat.le_of_ble_eq_true rfl⟩ (fun r W2 H locs hp G => ?_)
    obtain ⟨rfl, hw⟩ := hp
    have G := g_wc hw G
    refine W.eq (g2 := F0 m 23 ls [.long (blW f b)]) rfl ?_
    refine lv_lload_n hx hb dX0_canClose_23 rfl (lv_at hl 0 rfl) ?_
    refine lv_land hx hb dX0_canClose_24 ?_
    refine lv_lload_n hx hb dX0_canClose_25 rfl (lv_at hl 0 rfl) ?_
    refine W.lcmp hx hb dX0_canClose_26 ?_
    refine lv_if_ne (tgt := 34) hx hb dX0_canClose_27 (by decide) (fun c_27 => ?_) (fun c_27 => ?_)
    · skip
      have c_27 : ¬ ((blW f b) &&& (rowM 7)) = (rowM 7) := fun h => c_27 (lgc_eq.mpr h)
      refine lv_iconst (v := 0) hx hb dX0_canClose_34 (by decide) ?_
      exact g_zret C0 G rfl ⟨by first | rfl | (exfalso; omega) | (simp only [ccB, bI, c_16, c_27, Bool.false_eq_true, ↓reduceIte, eq_self, decide_true, decide_false, not_true_eq_false, not_false_eq_true, Bool.true_and, Bool.false_and, Bool.and_true, Bool.and_false]; done) | (simp [ccB, bI, c_16, c_27]; done) | (simp [ccB, bI, c_16, c_27]; rfl) | (simp [ccB, bI, c_16, c_27]; omega), by first | rfl | (exfalso; omega) | (simp only [ccB, bI, c_16, c_27, Bool.false_eq_true, ↓reduceIte, eq_self, decide_true, decide_false, not_true_eq_false, not_false_eq_true, Bool.true_and, Bool.false_and, Bool.and_true, Bool.and_false]; done) | (simp [ccB, bI, c_16, c_27]; done) | (simp [ccB, bI, c_16, c_27]; rfl) | (simp [ccB, bI, c_16, c_27]; omega)⟩ dX0_canClose_35
    · skip
      have c_27 : ((blW f b) &&& (rowM 7)) = (rowM 7) := lgc_eq.mp c_27
      refine lv_iconst (v := 1) hx hb dX0_canClose_30 (by decide) ?_
      refine lv_goto (tgt := 35) hx hb dX0_canClose_31 (by decide) ?_
      exact g_zret C0 G rfl ⟨by first | rfl | (exfalso; omega) | (simp only [ccB, bI, c_16, c_27, Bool.false_eq_true, ↓reduceIte, eq_self, decide_true, decide_false, not_true_eq_false, not_false_eq_true, Bool.true_and, Bool.false_and, Bool.and_true, Bool.and_false]; done) | (simp [ccB, bI, c_16, c_27]; done) | (simp [ccB, bI, c_16, c_27]; rfl) | (simp [ccB, bI, c_16, c_27]; omega), by first | rfl | (exfalso; omega) | (simp only [ccB, bI, c_16, c_27, Bool.false_eq_true, ↓reduceIte, eq_self, decide_true, decide_false, not_true_eq_false, not_false_eq_true, Bool.true_and, Bool.false_and, Bool.and_true, Bool.and_false]; done) | (simp [ccB, bI, c_16, c_27]; done) | (simp [ccB, bI, c_16, c_27]; rfl) | (simp [ccB, bI, c_16, c_27]; omega)⟩ dX0_canClose_35

set_option maxHeartbeats 4000000 in
set_option maxRecDepth 100000 in
theorem c_X0_punchCheckRow (l : Launch) (D : va_G) (cy : Nat → ClassId) (R : va_W) (h : Nat) (f : Int64) (b : Int64) (v : Nat)   : GE l D (gts cy) yX0_punchCheckRow cX0_punchCheckRow 4 (some .int) 2 0 0 [.ref h] ((h, .inr (1, [.long f, .long b, .int (nI v)])) :: R) (gF (some (.int (nI (pc (onW (clF f b) (clB f b) &&& rowM 7))))) ((h, .inr (1, [.long (clF f b), .long (clB f b), .int (nI v)])) :: R)) := by
  refine g_intro (by decide +kernel) (lv := [(0, .ref h)]) rfl (Nat.le_of_ble_eq_true rfl) ?_
  intro p e s m below meth c C0 G ls hl
  have hx := C0.1
  have hb := C0.2.1
  have hown := C0.2.2.2.2.2.1
  have hts := C0.2.2.2.2.2.2.1
  refine lv_aload_n hx hb dX0_punchCheckRow_0 rfl (lv_at hl 0 rfl) ?_
  refine g_callV (As := []) (rest := []) (q0 := 0) C0 G (c_X0_ones l D cy (R := R) (h := h) (f := f) (b := b) (v := v)  ) k_X0_ones ml_X0_24 rfl rfl dX0_punchCheckRow_1 rfl rfl hl.1 (Nat.le_of_ble_eq_true rfl) ⟨Nat.le_of_ble_eq_true rfl, Nat.le_of_ble_eq_true rfl⟩ ⟨Nat.le_of_ble_eq_true rfl, Nat.le_of_ble_eq_true rfl⟩ (fun r W2 H locs hp G => ?_)
  obtain ⟨rfl, hw⟩ := hp
  have G := g_wc hw G
  refine W.eq (g2 := F0 m 4 ls [.long (onW f b)]) rfl ?_
  refine lv_bipush (v := 7) hx hb dX0_punchCheckRow_4 (by decide) ?_
  refine g_callSN (As := [.int 7]) (rest := [.long (onW f b)]) C0 G (c_X4_rowCells l D cy (W1 := (h, .inr (1, [.long f, .long b, .int (nI v)])) :: R) (r := 7) ) k_X4_rowCells nm_X0_43 dX0_punchCheckRow_6 rfl rfl hl.1 (Nat.le_of_ble_eq_true rfl) ⟨Nat.le_of_ble_eq_true rfl, Nat.le_of_ble_eq_true rfl⟩ ⟨Nat.le_of_ble_eq_true rfl, Nat.le_of_ble_eq_true rfl⟩ (fun r W2 H locs hp G => ?_)
  obtain ⟨rfl, hw⟩ := hp
  have G := g_wc hw G
  refine W.eq (g2 := F0 m 9 ls [.long (rowM 7), .long (onW f b)]) rfl ?_
  refine lv_ldc2 (v := (-1)) hx hb hown (hts _ kl_X0_22) dX0_punchCheckRow_9 ?_
  refine lv_lxor hx hb dX0_punchCheckRow_12 ?_
  refine lv_land hx hb dX0_punchCheckRow_13 ?_
  refine lv_lstore_n (lv' := [(1, .long ((onW f b) &&& ((rowM 7) ^^^ ((-1) : Int64)))), (0, .ref h)]) hx hb dX0_punchCheckRow_14 rfl hl (by decide) rfl (fun ls hl => ?_)
  refine lv_iconst (v := 0) hx hb dX0_punchCheckRow_15 (by decide) ?_
  refine lv_istore_n (lv' := [(3, .int 0), (1, .long ((onW f b) &&& ((rowM 7) ^^^ ((-1) : Int64)))), (0, .ref h)]) hx hb dX0_punchCheckRow_16 rfl hl (by decide) rfl (fun ls hl => ?_)
  have hl := lv_sub hl (l' := [(0, .ref h), (1, .long ((onW f b) &&& ((rowM 7) ^^^ ((-1) : Int64)))), (3, .int 0)]) [2, 1, 0] rfl
  refine g_loop (σ := Nat) (fun i => 8 - i) (fun i => (h, .inr (1, [.long (pkF (ckW f b) f i), .long (pkB (ckW f b) b i), .int (nI v)])) :: R) (fun i => [(0, .ref h), (1, .long (ckW f b)), (3, .int (nI i))]) (fun i => i ≤ 8) ?_ 0 (by show _ ≤ _; omega) G hl
  intro i hi_17 ih_17 H locs ls G hl
  have G : gW D ((h, .inr (1, [.long (pkF (ckW f b) f i), .long (pkB (ckW f b) b i), .int (nI v)])) :: R) (va_A ((h, .inr (1, [.long f, .long b, .int (nI v)])) :: R) s.heap.size) s H locs := G
  have hl : lv_has ls 4 [(0, .ref h), (1, .long (ckW f b)), (3, .int (nI i))] := hl
  refine lv_iload_n hx hb dX0_punchCheckRow_17 rfl (lv_at hl 2 rfl) ?_
  refine lv_bipush (v := 8) hx hb dX0_punchCheckRow_18 (by decide) ?_
  refine lv_icmp_ge (tgt := 53) hx hb dX0_punchCheckRow_20 (by decide) (fun c_20 => ?_) (fun c_20 => ?_)
  · skip
    have c_20 : 8 ≤ i := (nI_leI (a := 8) (b := i) (by omega) (by omega)).mp c_20
    obtain rfl : i = 8 := by omega
    have G : gW D ((h, .inr (1, [.long (pkF (ckW f b) f 8), .long (pkB (ckW f b) b 8), .int (nI v)])) :: R) (va_A ((h, .inr (1, [.long f, .long b, .int (nI v)])) :: R) s.heap.size) s _ _ := G
    have hl : lv_has ls 4 [(0, .ref h), (1, .long (ckW f b)), (3, .int (nI 8))] := hl
    refine lv_aload_n hx hb dX0_punchCheckRow_53 rfl (lv_at hl 0 rfl) ?_
    refine g_callV (As := []) (rest := []) (q0 := 0) C0 G (c_X0_ones l D cy (R := R) (h := h) (f := pkF (ckW f b) f 8) (b := pkB (ckW f b) b 8) (v := v)  ) k_X0_ones ml_X0_24 rfl rfl dX0_punchCheckRow_54 rfl rfl hl.1 (Nat.le_of_ble_eq_true rfl) ⟨Nat.le_of_ble_eq_true rfl, Nat.le_of_ble_eq_true rfl⟩ ⟨Nat.le_of_ble_eq_true rfl, Nat.le_of_ble_eq_true rfl⟩ (fun r W2 H locs hp G => ?_)
    obtain ⟨rfl, hw⟩ := hp
    have G := g_wc hw G
    refine W.eq (g2 := F0 m 57 ls [.long (onW (pkF (ckW f b) f 8) (pkB (ckW f b) b 8))]) rfl ?_
    refine lv_bipush (v := 7) hx hb dX0_punchCheckRow_57 (by decide) ?_
    refine g_callSN (As := [.int 7]) (rest := [.long (onW (pkF (ckW f b) f 8) (pkB (ckW f b) b 8))]) C0 G (c_X4_rowCells l D cy (W1 := (h, .inr (1, [.long (pkF (ckW f b) f 8), .long (pkB (ckW f b) b 8), .int (nI v)])) :: R) (r := 7) ) k_X4_rowCells nm_X0_43 dX0_punchCheckRow_59 rfl rfl hl.1 (Nat.le_of_ble_eq_true rfl) ⟨Nat.le_of_ble_eq_true rfl, Nat.le_of_ble_eq_true rfl⟩ ⟨Nat.le_of_ble_eq_true rfl, Nat.le_of_ble_eq_true rfl⟩ (fun r W2 H locs hp G => ?_)
    obtain ⟨rfl, hw⟩ := hp
    have G := g_wc hw G
    refine W.eq (g2 := F0 m 62 ls [.long (rowM 7), .long (onW (pkF (ckW f b) f 8) (pkB (ckW f b) b 8))]) rfl ?_
    refine lv_land hx hb dX0_punchCheckRow_62 ?_
    refine g_callS (As := [.long ((onW (pkF (ckW f b) f 8) (pkB (ckW f b) b 8)) &&& (rowM 7))]) (rest := []) C0 G (c_J13_bitCount_95d88 l D cy (W1 := (h, .inr (1, [.long (pkF (ckW f b) f 8), .long (pkB (ckW f b) b 8), .int (nI v)])) :: R) (w := (onW (pkF (ckW f b) f 8) (pkB (ckW f b) b 8)) &&& (rowM 7)) ) k_J13_bitCount_95d88 ml_X0_67 dX0_punchCheckRow_63 rfl rfl hl.1 (Nat.le_of_ble_eq_true rfl) ⟨Nat.le_of_ble_eq_true rfl, Nat.le_of_ble_eq_true rfl⟩ ⟨Nat.le_of_ble_eq_true rfl, Nat.le_of_ble_eq_true rfl⟩ (fun r W2 H locs hp G => ?_)
    obtain ⟨rfl, hw⟩ := hp
    have G := g_wc hw G
    refine W.eq (g2 := F0 m 66 ls [.int (nI (pc ((onW (pkF (ckW f b) f 8) (pkB (ckW f b) b 8)) &&& (rowM 7))))]) rfl ?_
    exact g_iret C0 G ⟨by first | rfl | (exfalso; omega) | (simp only [c_20, Bool.false_eq_true, ↓reduceIte, eq_self, decide_true, decide_false, not_true_eq_false, not_false_eq_true, Bool.true_and, Bool.false_and, Bool.and_true, Bool.and_false]; done) | (simp [c_20]; done) | (simp [c_20]; rfl) | (simp [c_20]; omega), by first | rfl | (exfalso; omega) | (simp only [c_20, Bool.false_eq_true, ↓reduceIte, eq_self, decide_true, decide_false, not_true_eq_false, not_false_eq_true, Bool.true_and, Bool.false_and, Bool.and_true, Bool.and_false]; done) | (simp [c_20]; done) | (simp [c_20]; rfl) | (simp [c_20]; omega)⟩ dX0_punchCheckRow_66
  · skip
    have c_20 : ¬ (8 ≤ i) := fun h => c_20 ((nI_leI (a := 8) (b := i) (by omega) (by omega)).mpr h)
    refine lv_aload_n hx hb dX0_punchCheckRow_23 rfl (lv_at hl 0 rfl) ?_
    refine lv_bipush (v := 7) hx hb dX0_punchCheckRow_24 (by decide) ?_
    refine lv_iload_n hx hb dX0_punchCheckRow_26 rfl (lv_at hl 2 rfl) ?_
    refine lv_lload_n hx hb dX0_punchCheckRow_27 rfl (lv_at hl 1 rfl) ?_
    refine lv_iload_n hx hb dX0_punchCheckRow_28 rfl (lv_at hl 2 rfl) ?_
    refine g_callSN (As := [.int (nI i)]) (rest := [.long (ckW f b), .int (nI i), .int 7, .ref h]) C0 G (c_X4_columnCells l D cy (W1 := (h, .inr (1, [.long (pkF (ckW f b) f i), .long (pkB (ckW f b) b i), .int (nI v)])) :: R) (k := i) ) k_X4_columnCells nm_X0_60 dX0_punchCheckRow_29 rfl rfl hl.1 (Nat.le_of_ble_eq_true rfl) ⟨Nat.le_of_ble_eq_true rfl, Nat.le_of_ble_eq_true rfl⟩ ⟨Nat.le_of_ble_eq_true rfl, Nat.le_of_ble_eq_true rfl⟩ (fun r W2 H locs hp G => ?_)
    obtain ⟨rfl, hw⟩ := hp
    have G := g_wc hw G
    refine W.eq (g2 := F0 m 32 ls [.long (colM i), .long (ckW f b), .int (nI i), .int 7, .ref h]) rfl ?_
    refine lv_land hx hb dX0_punchCheckRow_32 ?_
    refine g_callSN (As := [.long ((ckW f b) &&& (colM i))]) (rest := [.int (nI i), .int 7, .ref h]) C0 G (c_X4_isOdd l D cy (W1 := (h, .inr (1, [.long (pkF (ckW f b) f i), .long (pkB (ckW f b) b i), .int (nI v)])) :: R) (w := (ckW f b) &&& (colM i)) ) k_X4_isOdd nm_X0_63 dX0_punchCheckRow_33 rfl rfl hl.1 (Nat.le_of_ble_eq_true rfl) ⟨Nat.le_of_ble_eq_true rfl, Nat.le_of_ble_eq_true rfl⟩ ⟨Nat.le_of_ble_eq_true rfl, Nat.le_of_ble_eq_true rfl⟩ (fun r W2 H locs hp G => ?_)
    obtain ⟨rfl, hw⟩ := hp
    have G := g_wc hw G
    refine W.eq (g2 := F0 m 36 ls [.int (bI (od ((ckW f b) &&& (colM i)))), .int (nI i), .int 7, .ref h]) rfl ?_
    refine lv_if_eq (tgt := 43) hx hb dX0_punchCheckRow_36 (by decide) (fun c_36 => ?_) (fun c_36 => ?_)
    · skip
      have c_36 : (od ((ckW f b) &&& (colM i))) = false := bI_f c_36
      refine lv_iconst (v := 0) hx hb dX0_punchCheckRow_43 (by decide) ?_
      refine g_callV (As := [.int 7, .int (nI i), .int 0]) (rest := []) (q0 := 0) C0 G (c_X0_punchBit l D cy (R := R) (h := h) (f := pkF (ckW f b) f i) (b := pkB (ckW f b) b i) (v := v) (row := 7) (col := i) (bit := 0) (by omega) (by omega)) k_X0_punchBit ml_X0_47 rfl rfl dX0_punchCheckRow_44 rfl rfl hl.1 (Nat.le_of_ble_eq_true rfl) ⟨Nat.le_of_ble_eq_true rfl, Nat.le_of_ble_eq_true rfl⟩ ⟨Nat.le_of_ble_eq_true rfl, Nat.le_of_ble_eq_true rfl⟩ (fun r W2 H locs hp G => ?_)
      obtain ⟨rfl, hw⟩ := hp
      have G := g_wc hw G
      refine W.eq (g2 := F0 m 47 ls []) rfl ?_
      refine lv_iinc (v := nI (i + 1)) (lv' := [(3, .int (nI (i + 1))), (0, .ref h), (1, .long (ckW f b))]) hx hb dX0_punchCheckRow_47 hl (k := 2) rfl (nI_add i 1) (by decide) rfl (fun ls hl => ?_)
      refine lv_goto (tgt := 17) hx hb dX0_punchCheckRow_50 (by decide) ?_
      have hl := lv_sub hl (l' := _) [1, 2, 0] rfl
      exact ih_17 (i + 1) (by show _ ≤ _; omega) (by show _ < _; omega) _ _ _ (g_wc (by simp only [pkF, pkB, c_20, c_36, Bool.false_eq_true, ↓reduceIte]) G) hl
    · skip
      have c_36 : (od ((ckW f b) &&& (colM i))) = true := bI_t c_36
      refine lv_iconst (v := 1) hx hb dX0_punchCheckRow_39 (by decide) ?_
      refine lv_goto (tgt := 44) hx hb dX0_punchCheckRow_40 (by decide) ?_
      refine g_callV (As := [.int 7, .int (nI i), .int 1]) (rest := []) (q0 := 0) C0 G (c_X0_punchBit l D cy (R := R) (h := h) (f := pkF (ckW f b) f i) (b := pkB (ckW f b) b i) (v := v) (row := 7) (col := i) (bit := 1) (by omega) (by omega)) k_X0_punchBit ml_X0_47 rfl rfl dX0_punchCheckRow_44 rfl rfl hl.1 (Nat.le_of_ble_eq_true rfl) ⟨Nat.le_of_ble_eq_true rfl, Nat.le_of_ble_eq_true rfl⟩ ⟨Nat.le_of_ble_eq_true rfl, Nat.le_of_ble_eq_true rfl⟩ (fun r W2 H locs hp G => ?_)
      obtain ⟨rfl, hw⟩ := hp
      have G := g_wc hw G
      refine W.eq (g2 := F0 m 47 ls []) rfl ?_
      refine lv_iinc (v := nI (i + 1)) (lv' := [(3, .int (nI (i + 1))), (0, .ref h), (1, .long (ckW f b))]) hx hb dX0_punchCheckRow_47 hl (k := 2) rfl (nI_add i 1) (by decide) rfl (fun ls hl => ?_)
      refine lv_goto (tgt := 17) hx hb dX0_punchCheckRow_50 (by decide) ?_
      have hl := lv_sub hl (l' := _) [1, 2, 0] rfl
      exact ih_17 (i + 1) (by show _ ≤ _; omega) (by show _ < _; omega) _ _ _ (g_wc (by simp only [pkF, pkB, c_20, c_36, Bool.false_eq_true, ↓reduceIte]) G) hl

set_option maxHeartbeats 4000000 in
set_option maxRecDepth 100000 in
theorem c_X0_showsBack (l : Launch) (D : va_G) (cy : Nat → ClassId) (R : va_W) (h : Nat) (f : Int64) (b : Int64) (v : Nat)  (h1 : v < 4) : GE l D (gts cy) yX0_showsBack cX0_showsBack 1 (some .boolean) 0 0 0 [.ref h] ((h, .inr (1, [.long f, .long b, .int (nI v)])) :: R) (gF (some (.int (bI (sbB v)))) ((h, .inr (1, [.long f, .long b, .int (nI v)])) :: R)) := by
  refine g_intro (by decide +kernel) (lv := [(0, .ref h)]) rfl (Nat.le_of_ble_eq_true rfl) ?_
  intro p e s m below meth c C0 G ls hl
  have hx := C0.1
  have hb := C0.2.1
  have hown := C0.2.2.2.2.2.1
  have hts := C0.2.2.2.2.2.2.1
  refine lv_aload_n hx hb dX0_showsBack_0 rfl (lv_at hl 0 rfl) ?_
  refine g_get (q0 := 0) (v := .int (nI v)) C0 G in_X0 rfl rfl 2 (by decide) fl_X0_18 (fun _ h => h) rfl dX0_showsBack_1 ?_
  refine lv_iconst (v := 2) hx hb dX0_showsBack_4 (by decide) ?_
  refine lv_icmp_lt (tgt := 12) hx hb dX0_showsBack_5 (by decide) (fun c_5 => ?_) (fun c_5 => ?_)
  · skip
    have c_5 : v < 2 := (nI_ltI (a := v) (b := 2) (by omega) (by omega)).mp c_5
    refine lv_iconst (v := 0) hx hb dX0_showsBack_12 (by decide) ?_
    exact g_zret C0 G rfl ⟨by (first | (rw [show sbB v = true from decide_eq_true (by omega)]; rfl) | (rw [show sbB v = false from decide_eq_false (by omega)]; rfl)), by first | rfl | (exfalso; omega) | (simp only [c_5, Bool.false_eq_true, ↓reduceIte, eq_self, decide_true, decide_false, not_true_eq_false, not_false_eq_true, Bool.true_and, Bool.false_and, Bool.and_true, Bool.and_false]; done) | (simp [c_5]; done) | (simp [c_5]; rfl) | (simp [c_5]; omega)⟩ dX0_showsBack_13
  · skip
    have c_5 : ¬ (v < 2) := fun h => c_5 ((nI_ltI (a := v) (b := 2) (by omega) (by omega)).mpr h)
    refine lv_iconst (v := 1) hx hb dX0_showsBack_8 (by decide) ?_
    refine lv_goto (tgt := 13) hx hb dX0_showsBack_9 (by decide) ?_
    exact g_zret C0 G rfl ⟨by (first | (rw [show sbB v = true from decide_eq_true (by omega)]; rfl) | (rw [show sbB v = false from decide_eq_false (by omega)]; rfl)), by first | rfl | (exfalso; omega) | (simp only [c_5, Bool.false_eq_true, ↓reduceIte, eq_self, decide_true, decide_false, not_true_eq_false, not_false_eq_true, Bool.true_and, Bool.false_and, Bool.and_true, Bool.and_false]; done) | (simp [c_5]; done) | (simp [c_5]; rfl) | (simp [c_5]; omega)⟩ dX0_showsBack_13

set_option maxHeartbeats 4000000 in
set_option maxRecDepth 100000 in
theorem c_X0_seenCell (l : Launch) (D : va_G) (cy : Nat → ClassId) (R : va_W) (h : Nat) (f : Int64) (b : Int64) (v : Nat) (row : Nat) (col : Nat) (h1 : row < 8) (h2 : col < 8) (h3 : v < 4) : GE l D (gts cy) yX0_seenCell cX0_seenCell 5 (some .int) 1 0 0 [.ref h, .int (nI row), .int (nI col)] ((h, .inr (1, [.long f, .long b, .int (nI v)])) :: R) (gF (some (.int (nI (scN v row col)))) ((h, .inr (1, [.long f, .long b, .int (nI v)])) :: R)) := by
  refine g_intro (by decide +kernel) (lv := [(0, .ref h), (1, .int (nI row)), (2, .int (nI col))]) rfl (Nat.le_of_ble_eq_true rfl) ?_
  intro p e s m below meth c C0 G ls hl
  have hx := C0.1
  have hb := C0.2.1
  have hown := C0.2.2.2.2.2.1
  have hts := C0.2.2.2.2.2.2.1
  refine lv_aload_n hx hb dX0_seenCell_0 rfl (lv_at hl 0 rfl) ?_
  refine g_get (q0 := 0) (v := .int (nI v)) C0 G in_X0 rfl rfl 2 (by decide) fl_X0_18 (fun _ h => h) rfl dX0_seenCell_1 ?_
  refine lv_iconst (v := 1) hx hb dX0_seenCell_4 (by decide) ?_
  refine lv_icmp_eq (tgt := 16) hx hb dX0_seenCell_5 (by decide) (fun c_5 => ?_) (fun c_5 => ?_)
  · skip
    have c_5 : v = 1 := (nI_eq (a := v) (b := 1) (by omega) (by omega)).mp c_5
    refine lv_iconst (v := 1) hx hb dX0_seenCell_16 (by decide) ?_
    refine lv_goto (tgt := 21) hx hb dX0_seenCell_17 (by decide) ?_
    refine lv_istore_n (lv' := [(3, .int 1), (0, .ref h), (1, .int (nI row)), (2, .int (nI col))]) hx hb dX0_seenCell_21 rfl hl (by decide) rfl (fun ls hl => ?_)
    refine lv_aload_n hx hb dX0_seenCell_22 rfl (lv_at hl 1 rfl) ?_
    refine g_get (q0 := 0) (v := .int (nI v)) C0 G in_X0 rfl rfl 2 (by decide) fl_X0_18 (fun _ h => h) rfl dX0_seenCell_23 ?_
    refine lv_iconst (v := 1) hx hb dX0_seenCell_26 (by decide) ?_
    refine lv_icmp_eq (tgt := 38) hx hb dX0_seenCell_27 (by decide) (fun c_27 => ?_) (fun c_27 => ?_)
    · skip
      have c_27 : v = 1 := (nI_eq (a := v) (b := 1) (by omega) (by omega)).mp c_27
      refine lv_iconst (v := 1) hx hb dX0_seenCell_38 (by decide) ?_
      refine lv_goto (tgt := 43) hx hb dX0_seenCell_39 (by decide) ?_
      refine lv_istore (lv' := [(4, .int 1), (3, .int 1), (0, .ref h), (1, .int (nI row)), (2, .int (nI col))]) hx hb dX0_seenCell_43 hl (by decide) rfl (fun ls hl => ?_)
      refine lv_iload_n hx hb dX0_seenCell_45 rfl (lv_at hl 1 rfl) ?_
      refine lv_if_eq (tgt := 56) hx hb dX0_seenCell_46 (by decide) (fun c_46 => ?_) (fun c_46 => ?_)
      · exact absurd c_46 (by decide)
      · skip
        refine lv_bipush (v := 7) hx hb dX0_seenCell_49 (by decide) ?_
        refine lv_iload_n hx hb dX0_seenCell_51 rfl (lv_at hl 3 rfl) ?_
        refine lv_isub hx hb dX0_seenCell_52 ?_
        refine g_topi (x' := nI (7 - row)) (pk_sub (a := 7) (b := row) (by omega)) ?_
        refine lv_goto (tgt := 57) hx hb dX0_seenCell_53 (by decide) ?_
        refine lv_iload hx hb dX0_seenCell_57 (lv_at hl 0 rfl) ?_
        refine lv_if_eq (tgt := 69) hx hb dX0_seenCell_59 (by decide) (fun c_59 => ?_) (fun c_59 => ?_)
        · exact absurd c_59 (by decide)
        · skip
          refine lv_bipush (v := 7) hx hb dX0_seenCell_62 (by decide) ?_
          refine lv_iload_n hx hb dX0_seenCell_64 rfl (lv_at hl 4 rfl) ?_
          refine lv_isub hx hb dX0_seenCell_65 ?_
          refine g_topi (x' := nI (7 - col)) (pk_sub (a := 7) (b := col) (by omega)) ?_
          refine lv_goto (tgt := 70) hx hb dX0_seenCell_66 (by decide) ?_
          refine g_callSN (As := [.int (nI (7 - row)), .int (nI (7 - col))]) (rest := []) C0 G (c_X4_cellNumber l D cy (W1 := (h, .inr (1, [.long f, .long b, .int (nI v)])) :: R) (row := 7 - row) (col := 7 - col) ) k_X4_cellNumber nm_X0_35 dX0_seenCell_70 rfl rfl hl.1 (Nat.le_of_ble_eq_true rfl) ⟨Nat.le_of_ble_eq_true rfl, Nat.le_of_ble_eq_true rfl⟩ ⟨Nat.le_of_ble_eq_true rfl, Nat.le_of_ble_eq_true rfl⟩ (fun r W2 H locs hp G => ?_)
          obtain ⟨rfl, hw⟩ := hp
          have G := g_wc hw G
          refine W.eq (g2 := F0 m 73 ls [.int (nI (8 * (7 - row) + (7 - col)))]) rfl ?_
          exact g_iret C0 G ⟨by first | rfl | (exfalso; omega) | (simp only [scN, c_5, c_27, Bool.false_eq_true, ↓reduceIte, eq_self, decide_true, decide_false, not_true_eq_false, not_false_eq_true, Bool.true_and, Bool.false_and, Bool.and_true, Bool.and_false]; done) | (simp [scN, c_5, c_27]; done) | (simp [scN, c_5, c_27]; rfl) | (simp [scN, c_5, c_27]; omega), by first | rfl | (exfalso; omega) | (simp only [scN, c_5, c_27, Bool.false_eq_true, ↓reduceIte, eq_self, decide_true, decide_false, not_true_eq_false, not_false_eq_true, Bool.true_and, Bool.false_and, Bool.and_true, Bool.and_false]; done) | (simp [scN, c_5, c_27]; done) | (simp [scN, c_5, c_27]; rfl) | (simp [scN, c_5, c_27]; omega)⟩ dX0_seenCell_73
    · skip
      have c_27 : ¬ (v = 1) := fun h => c_27 ((nI_eq (a := v) (b := 1) (by omega) (by omega)).mpr h)
      refine lv_aload_n hx hb dX0_seenCell_30 rfl (lv_at hl 1 rfl) ?_
      refine g_get (q0 := 0) (v := .int (nI v)) C0 G in_X0 rfl rfl 2 (by decide) fl_X0_18 (fun _ h => h) rfl dX0_seenCell_31 ?_
      refine lv_iconst (v := 2) hx hb dX0_seenCell_34 (by decide) ?_
      refine lv_icmp_ne (tgt := 42) hx hb dX0_seenCell_35 (by decide) (fun c_35 => ?_) (fun c_35 => ?_)
      · skip
        have c_35 : ¬ (v = 2) := fun h => c_35 ((nI_eq (a := v) (b := 2) (by omega) (by omega)).mpr h)
        refine lv_iconst (v := 0) hx hb dX0_seenCell_42 (by decide) ?_
        refine lv_istore (lv' := [(4, .int 0), (3, .int 1), (0, .ref h), (1, .int (nI row)), (2, .int (nI col))]) hx hb dX0_seenCell_43 hl (by decide) rfl (fun ls hl => ?_)
        refine lv_iload_n hx hb dX0_seenCell_45 rfl (lv_at hl 1 rfl) ?_
        refine lv_if_eq (tgt := 56) hx hb dX0_seenCell_46 (by decide) (fun c_46 => ?_) (fun c_46 => ?_)
        · exact absurd c_46 (by decide)
        · skip
          refine lv_bipush (v := 7) hx hb dX0_seenCell_49 (by decide) ?_
          refine lv_iload_n hx hb dX0_seenCell_51 rfl (lv_at hl 3 rfl) ?_
          refine lv_isub hx hb dX0_seenCell_52 ?_
          refine g_topi (x' := nI (7 - row)) (pk_sub (a := 7) (b := row) (by omega)) ?_
          refine lv_goto (tgt := 57) hx hb dX0_seenCell_53 (by decide) ?_
          refine lv_iload hx hb dX0_seenCell_57 (lv_at hl 0 rfl) ?_
          refine lv_if_eq (tgt := 69) hx hb dX0_seenCell_59 (by decide) (fun c_59 => ?_) (fun c_59 => ?_)
          · skip
            refine lv_iload_n hx hb dX0_seenCell_69 rfl (lv_at hl 4 rfl) ?_
            refine g_callSN (As := [.int (nI (7 - row)), .int (nI col)]) (rest := []) C0 G (c_X4_cellNumber l D cy (W1 := (h, .inr (1, [.long f, .long b, .int (nI v)])) :: R) (row := 7 - row) (col := col) ) k_X4_cellNumber nm_X0_35 dX0_seenCell_70 rfl rfl hl.1 (Nat.le_of_ble_eq_true rfl) ⟨Nat.le_of_ble_eq_true rfl, Nat.le_of_ble_eq_true rfl⟩ ⟨Nat.le_of_ble_eq_true rfl, Nat.le_of_ble_eq_true rfl⟩ (fun r W2 H locs hp G => ?_)
            obtain ⟨rfl, hw⟩ := hp
            have G := g_wc hw G
            refine W.eq (g2 := F0 m 73 ls [.int (nI (8 * (7 - row) + col))]) rfl ?_
            exact g_iret C0 G ⟨by first | rfl | (exfalso; omega) | (simp only [scN, c_5, c_27, c_35, Bool.false_eq_true, ↓reduceIte, eq_self, decide_true, decide_false, not_true_eq_false, not_false_eq_true, Bool.true_and, Bool.false_and, Bool.and_true, Bool.and_false]; done) | (simp [scN, c_5, c_27, c_35]; done) | (simp [scN, c_5, c_27, c_35]; rfl) | (simp [scN, c_5, c_27, c_35]; omega), by first | rfl | (exfalso; omega) | (simp only [scN, c_5, c_27, c_35, Bool.false_eq_true, ↓reduceIte, eq_self, decide_true, decide_false, not_true_eq_false, not_false_eq_true, Bool.true_and, Bool.false_and, Bool.and_true, Bool.and_false]; done) | (simp [scN, c_5, c_27, c_35]; done) | (simp [scN, c_5, c_27, c_35]; rfl) | (simp [scN, c_5, c_27, c_35]; omega)⟩ dX0_seenCell_73
          · exact absurd c_59 (by decide)
      · skip
        have c_35 : v = 2 := (nI_eq (a := v) (b := 2) (by omega) (by omega)).mp c_35
        refine lv_iconst (v := 1) hx hb dX0_seenCell_38 (by decide) ?_
        refine lv_goto (tgt := 43) hx hb dX0_seenCell_39 (by decide) ?_
        refine lv_istore (lv' := [(4, .int 1), (3, .int 1), (0, .ref h), (1, .int (nI row)), (2, .int (nI col))]) hx hb dX0_seenCell_43 hl (by decide) rfl (fun ls hl => ?_)
        refine lv_iload_n hx hb dX0_seenCell_45 rfl (lv_at hl 1 rfl) ?_
        refine lv_if_eq (tgt := 56) hx hb dX0_seenCell_46 (by decide) (fun c_46 => ?_) (fun c_46 => ?_)
        · exact absurd c_46 (by decide)
        · skip
          refine lv_bipush (v := 7) hx hb dX0_seenCell_49 (by decide) ?_
          refine lv_iload_n hx hb dX0_seenCell_51 rfl (lv_at hl 3 rfl) ?_
          refine lv_isub hx hb dX0_seenCell_52 ?_
          refine g_topi (x' := nI (7 - row)) (pk_sub (a := 7) (b := row) (by omega)) ?_
          refine lv_goto (tgt := 57) hx hb dX0_seenCell_53 (by decide) ?_
          refine lv_iload hx hb dX0_seenCell_57 (lv_at hl 0 rfl) ?_
          refine lv_if_eq (tgt := 69) hx hb dX0_seenCell_59 (by decide) (fun c_59 => ?_) (fun c_59 => ?_)
          · exact absurd c_59 (by decide)
          · skip
            refine lv_bipush (v := 7) hx hb dX0_seenCell_62 (by decide) ?_
            refine lv_iload_n hx hb dX0_seenCell_64 rfl (lv_at hl 4 rfl) ?_
            refine lv_isub hx hb dX0_seenCell_65 ?_
            refine g_topi (x' := nI (7 - col)) (pk_sub (a := 7) (b := col) (by omega)) ?_
            refine lv_goto (tgt := 70) hx hb dX0_seenCell_66 (by decide) ?_
            refine g_callSN (As := [.int (nI (7 - row)), .int (nI (7 - col))]) (rest := []) C0 G (c_X4_cellNumber l D cy (W1 := (h, .inr (1, [.long f, .long b, .int (nI v)])) :: R) (row := 7 - row) (col := 7 - col) ) k_X4_cellNumber nm_X0_35 dX0_seenCell_70 rfl rfl hl.1 (Nat.le_of_ble_eq_true rfl) ⟨Nat.le_of_ble_eq_true rfl, Nat.le_of_ble_eq_true rfl⟩ ⟨Nat.le_of_ble_eq_true rfl, Nat.le_of_ble_eq_true rfl⟩ (fun r W2 H locs hp G => ?_)
            obtain ⟨rfl, hw⟩ := hp
            have G := g_wc hw G
            refine W.eq (g2 := F0 m 73 ls [.int (nI (8 * (7 - row) + (7 - col)))]) rfl ?_
            exact g_iret C0 G ⟨by first | rfl | (exfalso; omega) | (simp only [scN, c_5, c_27, c_35, Bool.false_eq_true, ↓reduceIte, eq_self, decide_true, decide_false, not_true_eq_false, not_false_eq_true, Bool.true_and, Bool.false_and, Bool.and_true, Bool.and_false]; done) | (simp [scN, c_5, c_27, c_35]; done) | (simp [scN, c_5, c_27, c_35]; rfl) | (simp [scN, c_5, c_27, c_35]; omega), by first | rfl | (exfalso; omega) | (simp only [scN, c_5, c_27, c_35, Bool.false_eq_true, ↓reduceIte, eq_self, decide_true, decide_false, not_true_eq_false, not_false_eq_true, Bool.true_and, Bool.false_and, Bool.and_true, Bool.and_false]; done) | (simp [scN, c_5, c_27, c_35]; done) | (simp [scN, c_5, c_27, c_35]; rfl) | (simp [scN, c_5, c_27, c_35]; omega)⟩ dX0_seenCell_73
  · skip
    have c_5 : ¬ (v = 1) := fun h => c_5 ((nI_eq (a := v) (b := 1) (by omega) (by omega)).mpr h)
    refine lv_aload_n hx hb dX0_seenCell_8 rfl (lv_at hl 0 rfl) ?_
    refine g_get (q0 := 0) (v := .int (nI v)) C0 G in_X0 rfl rfl 2 (by decide) fl_X0_18 (fun _ h => h) rfl dX0_seenCell_9 ?_
    refine lv_iconst (v := 3) hx hb dX0_seenCell_12 (by decide) ?_
    refine lv_icmp_ne (tgt := 20) hx hb dX0_seenCell_13 (by decide) (fun c_13 => ?_) (fun c_13 => ?_)
    · skip
      have c_13 : ¬ (v = 3) := fun h => c_13 ((nI_eq (a := v) (b := 3) (by omega) (by omega)).mpr h)
      refine lv_iconst (v := 0) hx hb dX0_seenCell_20 (by decide) ?_
      refine lv_istore_n (lv' := [(3, .int 0), (0, .ref h), (1, .int (nI row)), (2, .int (nI col))]) hx hb dX0_seenCell_21 rfl hl (by decide) rfl (fun ls hl => ?_)
      refine lv_aload_n hx hb dX0_seenCell_22 rfl (lv_at hl 1 rfl) ?_
      refine g_get (q0 := 0) (v := .int (nI v)) C0 G in_X0 rfl rfl 2 (by decide) fl_X0_18 (fun _ h => h) rfl dX0_seenCell_23 ?_
      refine lv_iconst (v := 1) hx hb dX0_seenCell_26 (by decide) ?_
      refine lv_icmp_eq (tgt := 38) hx hb dX0_seenCell_27 (by decide) (fun c_27 => ?_) (fun c_27 => ?_)
      · skip
        have c_27 : v = 1 := (nI_eq (a := v) (b := 1) (by omega) (by omega)).mp c_27
        refine lv_iconst (v := 1) hx hb dX0_seenCell_38 (by decide) ?_
        refine lv_goto (tgt := 43) hx hb dX0_seenCell_39 (by decide) ?_
        refine lv_istore (lv' := [(4, .int 1), (3, .int 0), (0, .ref h), (1, .int (nI row)), (2, .int (nI col))]) hx hb dX0_seenCell_43 hl (by decide) rfl (fun ls hl => ?_)
        refine lv_iload_n hx hb dX0_seenCell_45 rfl (lv_at hl 1 rfl) ?_
        refine lv_if_eq (tgt := 56) hx hb dX0_seenCell_46 (by decide) (fun c_46 => ?_) (fun c_46 => ?_)
        · skip
          refine lv_iload_n hx hb dX0_seenCell_56 rfl (lv_at hl 3 rfl) ?_
          refine lv_iload hx hb dX0_seenCell_57 (lv_at hl 0 rfl) ?_
          refine lv_if_eq (tgt := 69) hx hb dX0_seenCell_59 (by decide) (fun c_59 => ?_) (fun c_59 => ?_)
          · exact absurd c_59 (by decide)
          · skip
            refine lv_bipush (v := 7) hx hb dX0_seenCell_62 (by decide) ?_
            refine lv_iload_n hx hb dX0_seenCell_64 rfl (lv_at hl 4 rfl) ?_
            refine lv_isub hx hb dX0_seenCell_65 ?_
            refine g_topi (x' := nI (7 - col)) (pk_sub (a := 7) (b := col) (by omega)) ?_
            refine lv_goto (tgt := 70) hx hb dX0_seenCell_66 (by decide) ?_
            refine g_callSN (As := [.int (nI row), .int (nI (7 - col))]) (rest := []) C0 G (c_X4_cellNumber l D cy (W1 := (h, .inr (1, [.long f, .long b, .int (nI v)])) :: R) (row := row) (col := 7 - col) ) k_X4_cellNumber nm_X0_35 dX0_seenCell_70 rfl rfl hl.1 (Nat.le_of_ble_eq_true rfl) ⟨Nat.le_of_ble_eq_true rfl, Nat.le_of_ble_eq_true rfl⟩ ⟨Nat.le_of_ble_eq_true rfl, Nat.le_of_ble_eq_true rfl⟩ (fun r W2 H locs hp G => ?_)
            obtain ⟨rfl, hw⟩ := hp
            have G := g_wc hw G
            refine W.eq (g2 := F0 m 73 ls [.int (nI (8 * row + (7 - col)))]) rfl ?_
            exact g_iret C0 G ⟨by first | rfl | (exfalso; omega) | (simp only [scN, c_5, c_13, c_27, Bool.false_eq_true, ↓reduceIte, eq_self, decide_true, decide_false, not_true_eq_false, not_false_eq_true, Bool.true_and, Bool.false_and, Bool.and_true, Bool.and_false]; done) | (simp [scN, c_5, c_13, c_27]; done) | (simp [scN, c_5, c_13, c_27]; rfl) | (simp [scN, c_5, c_13, c_27]; omega), by first | rfl | (exfalso; omega) | (simp only [scN, c_5, c_13, c_27, Bool.false_eq_true, ↓reduceIte, eq_self, decide_true, decide_false, not_true_eq_false, not_false_eq_true, Bool.true_and, Bool.false_and, Bool.and_true, Bool.and_false]; done) | (simp [scN, c_5, c_13, c_27]; done) | (simp [scN, c_5, c_13, c_27]; rfl) | (simp [scN, c_5, c_13, c_27]; omega)⟩ dX0_seenCell_73
        · exact absurd c_46 (by decide)
      · skip
        have c_27 : ¬ (v = 1) := fun h => c_27 ((nI_eq (a := v) (b := 1) (by omega) (by omega)).mpr h)
        refine lv_aload_n hx hb dX0_seenCell_30 rfl (lv_at hl 1 rfl) ?_
        refine g_get (q0 := 0) (v := .int (nI v)) C0 G in_X0 rfl rfl 2 (by decide) fl_X0_18 (fun _ h => h) rfl dX0_seenCell_31 ?_
        refine lv_iconst (v := 2) hx hb dX0_seenCell_34 (by decide) ?_
        refine lv_icmp_ne (tgt := 42) hx hb dX0_seenCell_35 (by decide) (fun c_35 => ?_) (fun c_35 => ?_)
        · skip
          have c_35 : ¬ (v = 2) := fun h => c_35 ((nI_eq (a := v) (b := 2) (by omega) (by omega)).mpr h)
          refine lv_iconst (v := 0) hx hb dX0_seenCell_42 (by decide) ?_
          refine lv_istore (lv' := [(4, .int 0), (3, .int 0), (0, .ref h), (1, .int (nI row)), (2, .int (nI col))]) hx hb dX0_seenCell_43 hl (by decide) rfl (fun ls hl => ?_)
          refine lv_iload_n hx hb dX0_seenCell_45 rfl (lv_at hl 1 rfl) ?_
          refine lv_if_eq (tgt := 56) hx hb dX0_seenCell_46 (by decide) (fun c_46 => ?_) (fun c_46 => ?_)
          · skip
            refine lv_iload_n hx hb dX0_seenCell_56 rfl (lv_at hl 3 rfl) ?_
            refine lv_iload hx hb dX0_seenCell_57 (lv_at hl 0 rfl) ?_
            refine lv_if_eq (tgt := 69) hx hb dX0_seenCell_59 (by decide) (fun c_59 => ?_) (fun c_59 => ?_)
            · skip
              refine lv_iload_n hx hb dX0_seenCell_69 rfl (lv_at hl 4 rfl) ?_
              refine g_callSN (As := [.int (nI row), .int (nI col)]) (rest := []) C0 G (c_X4_cellNumber l D cy (W1 := (h, .inr (1, [.long f, .long b, .int (nI v)])) :: R) (row := row) (col := col) ) k_X4_cellNumber nm_X0_35 dX0_seenCell_70 rfl rfl hl.1 (Nat.le_of_ble_eq_true rfl) ⟨Nat.le_of_ble_eq_true rfl, Nat.le_of_ble_eq_true rfl⟩ ⟨Nat.le_of_ble_eq_true rfl, Nat.le_of_ble_eq_true rfl⟩ (fun r W2 H locs hp G => ?_)
              obtain ⟨rfl, hw⟩ := hp
              have G := g_wc hw G
              refine W.eq (g2 := F0 m 73 ls [.int (nI (8 * row + col))]) rfl ?_
              exact g_iret C0 G ⟨by first | rfl | (exfalso; omega) | (simp only [scN, c_5, c_13, c_27, c_35, Bool.false_eq_true, ↓reduceIte, eq_self, decide_true, decide_false, not_true_eq_false, not_false_eq_true, Bool.true_and, Bool.false_and, Bool.and_true, Bool.and_false]; done) | (simp [scN, c_5, c_13, c_27, c_35]; done) | (simp [scN, c_5, c_13, c_27, c_35]; rfl) | (simp [scN, c_5, c_13, c_27, c_35]; omega), by first | rfl | (exfalso; omega) | (simp only [scN, c_5, c_13, c_27, c_35, Bool.false_eq_true, ↓reduceIte, eq_self, decide_true, decide_false, not_true_eq_false, not_false_eq_true, Bool.true_and, Bool.false_and, Bool.and_true, Bool.and_false]; done) | (simp [scN, c_5, c_13, c_27, c_35]; done) | (simp [scN, c_5, c_13, c_27, c_35]; rfl) | (simp [scN, c_5, c_13, c_27, c_35]; omega)⟩ dX0_seenCell_73
            · exact absurd c_59 (by decide)
          · exact absurd c_46 (by decide)
        · skip
          have c_35 : v = 2 := (nI_eq (a := v) (b := 2) (by omega) (by omega)).mp c_35
          refine lv_iconst (v := 1) hx hb dX0_seenCell_38 (by decide) ?_
          refine lv_goto (tgt := 43) hx hb dX0_seenCell_39 (by decide) ?_
          refine lv_istore (lv' := [(4, .int 1), (3, .int 0), (0, .ref h), (1, .int (nI row)), (2, .int (nI col))]) hx hb dX0_seenCell_43 hl (by decide) rfl (fun ls hl => ?_)
          refine lv_iload_n hx hb dX0_seenCell_45 rfl (lv_at hl 1 rfl) ?_
          refine lv_if_eq (tgt := 56) hx hb dX0_seenCell_46 (by decide) (fun c_46 => ?_) (fun c_46 => ?_)
          · skip
            refine lv_iload_n hx hb dX0_seenCell_56 rfl (lv_at hl 3 rfl) ?_
            refine lv_iload hx hb dX0_seenCell_57 (lv_at hl 0 rfl) ?_
            refine lv_if_eq (tgt := 69) hx hb dX0_seenCell_59 (by decide) (fun c_59 => ?_) (fun c_59 => ?_)
            · exact absurd c_59 (by decide)
            · skip
              refine lv_bipush (v := 7) hx hb dX0_seenCell_62 (by decide) ?_
              refine lv_iload_n hx hb dX0_seenCell_64 rfl (lv_at hl 4 rfl) ?_
              refine lv_isub hx hb dX0_seenCell_65 ?_
              refine g_topi (x' := nI (7 - col)) (pk_sub (a := 7) (b := col) (by omega)) ?_
              refine lv_goto (tgt := 70) hx hb dX0_seenCell_66 (by decide) ?_
              refine g_callSN (As := [.int (nI row), .int (nI (7 - col))]) (rest := []) C0 G (c_X4_cellNumber l D cy (W1 := (h, .inr (1, [.long f, .long b, .int (nI v)])) :: R) (row := row) (col := 7 - col) ) k_X4_cellNumber nm_X0_35 dX0_seenCell_70 rfl rfl hl.1 (Nat.le_of_ble_eq_true rfl) ⟨Nat.le_of_ble_eq_true rfl, Nat.le_of_ble_eq_true rfl⟩ ⟨Nat.le_of_ble_eq_true rfl, Nat.le_of_ble_eq_true rfl⟩ (fun r W2 H locs hp G => ?_)
              obtain ⟨rfl, hw⟩ := hp
              have G := g_wc hw G
              refine W.eq (g2 := F0 m 73 ls [.int (nI (8 * row + (7 - col)))]) rfl ?_
              exact g_iret C0 G ⟨by first | rfl | (exfalso; omega) | (simp only [scN, c_5, c_13, c_27, c_35, Bool.false_eq_true, ↓reduceIte, eq_self, decide_true, decide_false, not_true_eq_false, not_false_eq_true, Bool.true_and, Bool.false_and, Bool.and_true, Bool.and_false]; done) | (simp [scN, c_5, c_13, c_27, c_35]; done) | (simp [scN, c_5, c_13, c_27, c_35]; rfl) | (simp [scN, c_5, c_13, c_27, c_35]; omega), by first | rfl | (exfalso; omega) | (simp only [scN, c_5, c_13, c_27, c_35, Bool.false_eq_true, ↓reduceIte, eq_self, decide_true, decide_false, not_true_eq_false, not_false_eq_true, Bool.true_and, Bool.false_and, Bool.and_true, Bool.and_false]; done) | (simp [scN, c_5, c_13, c_27, c_35]; done) | (simp [scN, c_5, c_13, c_27, c_35]; rfl) | (simp [scN, c_5, c_13, c_27, c_35]; omega)⟩ dX0_seenCell_73
          · exact absurd c_46 (by decide)
    · skip
      have c_13 : v = 3 := (nI_eq (a := v) (b := 3) (by omega) (by omega)).mp c_13
      refine lv_iconst (v := 1) hx hb dX0_seenCell_16 (by decide) ?_
      refine lv_goto (tgt := 21) hx hb dX0_seenCell_17 (by decide) ?_
      refine lv_istore_n (lv' := [(3, .int 1), (0, .ref h), (1, .int (nI row)), (2, .int (nI col))]) hx hb dX0_seenCell_21 rfl hl (by decide) rfl (fun ls hl => ?_)
      refine lv_aload_n hx hb dX0_seenCell_22 rfl (lv_at hl 1 rfl) ?_
      refine g_get (q0 := 0) (v := .int (nI v)) C0 G in_X0 rfl rfl 2 (by decide) fl_X0_18 (fun _ h => h) rfl dX0_seenCell_23 ?_
      refine lv_iconst (v := 1) hx hb dX0_seenCell_26 (by decide) ?_
      refine lv_icmp_eq (tgt := 38) hx hb dX0_seenCell_27 (by decide) (fun c_27 => ?_) (fun c_27 => ?_)
      · skip
        have c_27 : v = 1 := (nI_eq (a := v) (b := 1) (by omega) (by omega)).mp c_27
        refine lv_iconst (v := 1) hx hb dX0_seenCell_38 (by decide) ?_
        refine lv_goto (tgt := 43) hx hb dX0_seenCell_39 (by decide) ?_
        refine lv_istore (lv' := [(4, .int 1), (3, .int 1), (0, .ref h), (1, .int (nI row)), (2, .int (nI col))]) hx hb dX0_seenCell_43 hl (by decide) rfl (fun ls hl => ?_)
        refine lv_iload_n hx hb dX0_seenCell_45 rfl (lv_at hl 1 rfl) ?_
        refine lv_if_eq (tgt := 56) hx hb dX0_seenCell_46 (by decide) (fun c_46 => ?_) (fun c_46 => ?_)
        · exact absurd c_46 (by decide)
        · skip
          refine lv_bipush (v := 7) hx hb dX0_seenCell_49 (by decide) ?_
          refine lv_iload_n hx hb dX0_seenCell_51 rfl (lv_at hl 3 rfl) ?_
          refine lv_isub hx hb dX0_seenCell_52 ?_
          refine g_topi (x' := nI (7 - row)) (pk_sub (a := 7) (b := row) (by omega)) ?_
          refine lv_goto (tgt := 57) hx hb dX0_seenCell_53 (by decide) ?_
          refine lv_iload hx hb dX0_seenCell_57 (lv_at hl 0 rfl) ?_
          refine lv_if_eq (tgt := 69) hx hb dX0_seenCell_59 (by decide) (fun c_59 => ?_) (fun c_59 => ?_)
          · exact absurd c_59 (by decide)
          · skip
            refine lv_bipush (v := 7) hx hb dX0_seenCell_62 (by decide) ?_
            refine lv_iload_n hx hb dX0_seenCell_64 rfl (lv_at hl 4 rfl) ?_
            refine lv_isub hx hb dX0_seenCell_65 ?_
            refine g_topi (x' := nI (7 - col)) (pk_sub (a := 7) (b := col) (by omega)) ?_
            refine lv_goto (tgt := 70) hx hb dX0_seenCell_66 (by decide) ?_
            refine g_callSN (As := [.int (nI (7 - row)), .int (nI (7 - col))]) (rest := []) C0 G (c_X4_cellNumber l D cy (W1 := (h, .inr (1, [.long f, .long b, .int (nI v)])) :: R) (row := 7 - row) (col := 7 - col) ) k_X4_cellNumber nm_X0_35 dX0_seenCell_70 rfl rfl hl.1 (Nat.le_of_ble_eq_true rfl) ⟨Nat.le_of_ble_eq_true rfl, Nat.le_of_ble_eq_true rfl⟩ ⟨Nat.le_of_ble_eq_true rfl, Nat.le_of_ble_eq_true rfl⟩ (fun r W2 H locs hp G => ?_)
            obtain ⟨rfl, hw⟩ := hp
            have G := g_wc hw G
            refine W.eq (g2 := F0 m 73 ls [.int (nI (8 * (7 - row) + (7 - col)))]) rfl ?_
            exact g_iret C0 G ⟨by first | rfl | (exfalso; omega) | (simp only [scN, c_5, c_13, c_27, Bool.false_eq_true, ↓reduceIte, eq_self, decide_true, decide_false, not_true_eq_false, not_false_eq_true, Bool.true_and, Bool.false_and, Bool.and_true, Bool.and_false]; done) | (simp [scN, c_5, c_13, c_27]; done) | (simp [scN, c_5, c_13, c_27]; rfl) | (simp [scN, c_5, c_13, c_27]; omega), by first | rfl | (exfalso; omega) | (simp only [scN, c_5, c_13, c_27, Bool.false_eq_true, ↓reduceIte, eq_self, decide_true, decide_false, not_true_eq_false, not_false_eq_true, Bool.true_and, Bool.false_and, Bool.and_true, Bool.and_false]; done) | (simp [scN, c_5, c_13, c_27]; done) | (simp [scN, c_5, c_13, c_27]; rfl) | (simp [scN, c_5, c_13, c_27]; omega)⟩ dX0_seenCell_73
      · skip
        have c_27 : ¬ (v = 1) := fun h => c_27 ((nI_eq (a := v) (b := 1) (by omega) (by omega)).mpr h)
        refine lv_aload_n hx hb dX0_seenCell_30 rfl (lv_at hl 1 rfl) ?_
        refine g_get (q0 := 0) (v := .int (nI v)) C0 G in_X0 rfl rfl 2 (by decide) fl_X0_18 (fun _ h => h) rfl dX0_seenCell_31 ?_
        refine lv_iconst (v := 2) hx hb dX0_seenCell_34 (by decide) ?_
        refine lv_icmp_ne (tgt := 42) hx hb dX0_seenCell_35 (by decide) (fun c_35 => ?_) (fun c_35 => ?_)
        · skip
          have c_35 : ¬ (v = 2) := fun h => c_35 ((nI_eq (a := v) (b := 2) (by omega) (by omega)).mpr h)
          refine lv_iconst (v := 0) hx hb dX0_seenCell_42 (by decide) ?_
          refine lv_istore (lv' := [(4, .int 0), (3, .int 1), (0, .ref h), (1, .int (nI row)), (2, .int (nI col))]) hx hb dX0_seenCell_43 hl (by decide) rfl (fun ls hl => ?_)
          refine lv_iload_n hx hb dX0_seenCell_45 rfl (lv_at hl 1 rfl) ?_
          refine lv_if_eq (tgt := 56) hx hb dX0_seenCell_46 (by decide) (fun c_46 => ?_) (fun c_46 => ?_)
          · exact absurd c_46 (by decide)
          · skip
            refine lv_bipush (v := 7) hx hb dX0_seenCell_49 (by decide) ?_
            refine lv_iload_n hx hb dX0_seenCell_51 rfl (lv_at hl 3 rfl) ?_
            refine lv_isub hx hb dX0_seenCell_52 ?_
            refine g_topi (x' := nI (7 - row)) (pk_sub (a := 7) (b := row) (by omega)) ?_
            refine lv_goto (tgt := 57) hx hb dX0_seenCell_53 (by decide) ?_
            refine lv_iload hx hb dX0_seenCell_57 (lv_at hl 0 rfl) ?_
            refine lv_if_eq (tgt := 69) hx hb dX0_seenCell_59 (by decide) (fun c_59 => ?_) (fun c_59 => ?_)
            · skip
              refine lv_iload_n hx hb dX0_seenCell_69 rfl (lv_at hl 4 rfl) ?_
              refine g_callSN (As := [.int (nI (7 - row)), .int (nI col)]) (rest := []) C0 G (c_X4_cellNumber l D cy (W1 := (h, .inr (1, [.long f, .long b, .int (nI v)])) :: R) (row := 7 - row) (col := col) ) k_X4_cellNumber nm_X0_35 dX0_seenCell_70 rfl rfl hl.1 (Nat.le_of_ble_eq_true rfl) ⟨Nat.le_of_ble_eq_true rfl, Nat.le_of_ble_eq_true rfl⟩ ⟨Nat.le_of_ble_eq_true rfl, Nat.le_of_ble_eq_true rfl⟩ (fun r W2 H locs hp G => ?_)
              obtain ⟨rfl, hw⟩ := hp
              have G := g_wc hw G
              refine W.eq (g2 := F0 m 73 ls [.int (nI (8 * (7 - row) + col))]) rfl ?_
              exact g_iret C0 G ⟨by first | rfl | (exfalso; omega) | (simp only [scN, c_5, c_13, c_27, c_35, Bool.false_eq_true, ↓reduceIte, eq_self, decide_true, decide_false, not_true_eq_false, not_false_eq_true, Bool.true_and, Bool.false_and, Bool.and_true, Bool.and_false]; done) | (simp [scN, c_5, c_13, c_27, c_35]; done) | (simp [scN, c_5, c_13, c_27, c_35]; rfl) | (simp [scN, c_5, c_13, c_27, c_35]; omega), by first | rfl | (exfalso; omega) | (simp only [scN, c_5, c_13, c_27, c_35, Bool.false_eq_true, ↓reduceIte, eq_self, decide_true, decide_false, not_true_eq_false, not_false_eq_true, Bool.true_and, Bool.false_and, Bool.and_true, Bool.and_false]; done) | (simp [scN, c_5, c_13, c_27, c_35]; done) | (simp [scN, c_5, c_13, c_27, c_35]; rfl) | (simp [scN, c_5, c_13, c_27, c_35]; omega)⟩ dX0_seenCell_73
            · exact absurd c_59 (by decide)
        · skip
          have c_35 : v = 2 := (nI_eq (a := v) (b := 2) (by omega) (by omega)).mp c_35
          refine lv_iconst (v := 1) hx hb dX0_seenCell_38 (by decide) ?_
          refine lv_goto (tgt := 43) hx hb dX0_seenCell_39 (by decide) ?_
          refine lv_istore (lv' := [(4, .int 1), (3, .int 1), (0, .ref h), (1, .int (nI row)), (2, .int (nI col))]) hx hb dX0_seenCell_43 hl (by decide) rfl (fun ls hl => ?_)
          refine lv_iload_n hx hb dX0_seenCell_45 rfl (lv_at hl 1 rfl) ?_
          refine lv_if_eq (tgt := 56) hx hb dX0_seenCell_46 (by decide) (fun c_46 => ?_) (fun c_46 => ?_)
          · exact absurd c_46 (by decide)
          · skip
            refine lv_bipush (v := 7) hx hb dX0_seenCell_49 (by decide) ?_
            refine lv_iload_n hx hb dX0_seenCell_51 rfl (lv_at hl 3 rfl) ?_
            refine lv_isub hx hb dX0_seenCell_52 ?_
            refine g_topi (x' := nI (7 - row)) (pk_sub (a := 7) (b := row) (by omega)) ?_
            refine lv_goto (tgt := 57) hx hb dX0_seenCell_53 (by decide) ?_
            refine lv_iload hx hb dX0_seenCell_57 (lv_at hl 0 rfl) ?_
            refine lv_if_eq (tgt := 69) hx hb dX0_seenCell_59 (by decide) (fun c_59 => ?_) (fun c_59 => ?_)
            · exact absurd c_59 (by decide)
            · skip
              refine lv_bipush (v := 7) hx hb dX0_seenCell_62 (by decide) ?_
              refine lv_iload_n hx hb dX0_seenCell_64 rfl (lv_at hl 4 rfl) ?_
              refine lv_isub hx hb dX0_seenCell_65 ?_
              refine g_topi (x' := nI (7 - col)) (pk_sub (a := 7) (b := col) (by omega)) ?_
              refine lv_goto (tgt := 70) hx hb dX0_seenCell_66 (by decide) ?_
              refine g_callSN (As := [.int (nI (7 - row)), .int (nI (7 - col))]) (rest := []) C0 G (c_X4_cellNumber l D cy (W1 := (h, .inr (1, [.long f, .long b, .int (nI v)])) :: R) (row := 7 - row) (col := 7 - col) ) k_X4_cellNumber nm_X0_35 dX0_seenCell_70 rfl rfl hl.1 (Nat.le_of_ble_eq_true rfl) ⟨Nat.le_of_ble_eq_true rfl, Nat.le_of_ble_eq_true rfl⟩ ⟨Nat.le_of_ble_eq_true rfl, Nat.le_of_ble_eq_true rfl⟩ (fun r W2 H locs hp G => ?_)
              obtain ⟨rfl, hw⟩ := hp
              have G := g_wc hw G
              refine W.eq (g2 := F0 m 73 ls [.int (nI (8 * (7 - row) + (7 - col)))]) rfl ?_
              exact g_iret C0 G ⟨by first | rfl | (exfalso; omega) | (simp only [scN, c_5, c_13, c_27, c_35, Bool.false_eq_true, ↓reduceIte, eq_self, decide_true, decide_false, not_true_eq_false, not_false_eq_true, Bool.true_and, Bool.false_and, Bool.and_true, Bool.and_false]; done) | (simp [scN, c_5, c_13, c_27, c_35]; done) | (simp [scN, c_5, c_13, c_27, c_35]; rfl) | (simp [scN, c_5, c_13, c_27, c_35]; omega), by first | rfl | (exfalso; omega) | (simp only [scN, c_5, c_13, c_27, c_35, Bool.false_eq_true, ↓reduceIte, eq_self, decide_true, decide_false, not_true_eq_false, not_false_eq_true, Bool.true_and, Bool.false_and, Bool.and_true, Bool.and_false]; done) | (simp [scN, c_5, c_13, c_27, c_35]; done) | (simp [scN, c_5, c_13, c_27, c_35]; rfl) | (simp [scN, c_5, c_13, c_27, c_35]; omega)⟩ dX0_seenCell_73

set_option maxHeartbeats 4000000 in
set_option maxRecDepth 100000 in
theorem c_X0_showsHole (l : Launch) (D : va_G) (cy : Nat → ClassId) (R : va_W) (h : Nat) (f : Int64) (b : Int64) (v : Nat) (row : Nat) (col : Nat) (h1 : row < 8) (h2 : col < 8) (h3 : v < 4) : GE l D (gts cy) yX0_showsHole cX0_showsHole 3 (some .boolean) 2 0 0 [.ref h, .int (nI row), .int (nI col)] ((h, .inr (1, [.long f, .long b, .int (nI v)])) :: R) (gF (some (.int (bI (shB1 f b v row col)))) ((h, .inr (1, [.long f, .long b, .int (nI v)])) :: R)) := by
  refine g_intro (by decide +kernel) (lv := [(0, .ref h), (1, .int (nI row)), (2, .int (nI col))]) rfl (Nat.le_of_ble_eq_true rfl) ?_
  intro p e s m below meth c C0 G ls hl
  have hx := C0.1
  have hb := C0.2.1
  have hown := C0.2.2.2.2.2.1
  have hts := C0.2.2.2.2.2.2.1
  refine lv_aload_n hx hb dX0_showsHole_0 rfl (lv_at hl 0 rfl) ?_
  refine lv_aload_n hx hb dX0_showsHole_1 rfl (lv_at hl 0 rfl) ?_
  refine g_callV (As := []) (rest := [.ref h]) (q0 := 0) C0 G (c_X0_showsBack l D cy (R := R) (h := h) (f := f) (b := b) (v := v)  (by omega)) k_X0_showsBack ml_X0_72 rfl rfl dX0_showsHole_2 rfl rfl hl.1 (Nat.le_of_ble_eq_true rfl) ⟨Nat.le_of_ble_eq_true rfl, Nat.le_of_ble_eq_true rfl⟩ ⟨Nat.le_of_ble_eq_true rfl, Nat.le_of_ble_eq_true rfl⟩ (fun r W2 H locs hp G => ?_)
  obtain ⟨rfl, hw⟩ := hp
  have G := g_wc hw G
  refine W.eq (g2 := F0 m 5 ls [.int (bI (sbB v)), .ref h]) rfl ?_
  refine lv_aload_n hx hb dX0_showsHole_5 rfl (lv_at hl 0 rfl) ?_
  refine lv_iload_n hx hb dX0_showsHole_6 rfl (lv_at hl 1 rfl) ?_
  refine lv_iload_n hx hb dX0_showsHole_7 rfl (lv_at hl 2 rfl) ?_
  refine g_callV (As := [.int (nI row), .int (nI col)]) (rest := [.int (bI (sbB v)), .ref h]) (q0 := 0) C0 G (c_X0_seenCell l D cy (R := R) (h := h) (f := f) (b := b) (v := v) (row := row) (col := col) (by omega) (by omega) (by omega)) k_X0_seenCell ml_X0_76 rfl rfl dX0_showsHole_8 rfl rfl hl.1 (Nat.le_of_ble_eq_true rfl) ⟨Nat.le_of_ble_eq_true rfl, Nat.le_of_ble_eq_true rfl⟩ ⟨Nat.le_of_ble_eq_true rfl, Nat.le_of_ble_eq_true rfl⟩ (fun r W2 H locs hp G => ?_)
  obtain ⟨rfl, hw⟩ := hp
  have G := g_wc hw G
  refine W.eq (g2 := F0 m 11 ls [.int (nI (scN v row col)), .int (bI (sbB v)), .ref h]) rfl ?_
  refine g_callV (As := [.int (bI (sbB v)), .int (nI (scN v row col))]) (rest := []) (q0 := 0) C0 G (c_X0_hasHole l D cy (R := R) (h := h) (f := f) (b := b) (v := v) (ib := sbB v) (k := scN v row col) (scN_lt h1 h2)) k_X0_hasHole ml_X0_79 rfl rfl dX0_showsHole_11 rfl rfl hl.1 (Nat.le_of_ble_eq_true rfl) ⟨Nat.le_of_ble_eq_true rfl, Nat.le_of_ble_eq_true rfl⟩ ⟨Nat.le_of_ble_eq_true rfl, Nat.le_of_ble_eq_true rfl⟩ (fun r W2 H locs hp G => ?_)
  obtain ⟨rfl, hw⟩ := hp
  have G := g_wc hw G
  refine W.eq (g2 := F0 m 14 ls [.int (bI (hoB f b (sbB v) (scN v row col)))]) rfl ?_
  exact g_zret C0 G (g_nz _) ⟨by first | rfl | (exfalso; omega) | (simp only [Bool.false_eq_true, ↓reduceIte, eq_self, decide_true, decide_false, not_true_eq_false, not_false_eq_true, Bool.true_and, Bool.false_and, Bool.and_true, Bool.and_false]; done) | (simp []; done) | (simp []; rfl) | (simp []; omega), by first | rfl | (exfalso; omega) | (simp only [Bool.false_eq_true, ↓reduceIte, eq_self, decide_true, decide_false, not_true_eq_false, not_false_eq_true, Bool.true_and, Bool.false_and, Bool.and_true, Bool.and_false]; done) | (simp []; done) | (simp []; rfl) | (simp []; omega)⟩ dX0_showsHole_14

set_option maxHeartbeats 4000000 in
set_option maxRecDepth 100000 in
theorem c_X0_rawNumber (l : Launch) (D : va_G) (cy : Nat → ClassId) (R : va_W) (h : Nat) (f : Int64) (b : Int64) (v : Nat) (row : Nat) (h1 : row < 8) (h2 : v < 4) : GE l D (gts cy) yX0_rawNumber cX0_rawNumber 4 (some .int) 3 0 0 [.ref h, .int (nI row)] ((h, .inr (1, [.long f, .long b, .int (nI v)])) :: R) (gF (some (.int (nI (rwN f b v row 8)))) ((h, .inr (1, [.long f, .long b, .int (nI v)])) :: R)) := by
  refine g_intro (by decide +kernel) (lv := [(0, .ref h), (1, .int (nI row))]) rfl (Nat.le_of_ble_eq_true rfl) ?_
  intro p e s m below meth c C0 G ls hl
  have hx := C0.1
  have hb := C0.2.1
  have hown := C0.2.2.2.2.2.1
  have hts := C0.2.2.2.2.2.2.1
  refine lv_iconst (v := 0) hx hb dX0_rawNumber_0 (by decide) ?_
  refine lv_istore_n (lv' := [(2, .int 0), (0, .ref h), (1, .int (nI row))]) hx hb dX0_rawNumber_1 rfl hl (by decide) rfl (fun ls hl => ?_)
  refine lv_iconst (v := 0) hx hb dX0_rawNumber_2 (by decide) ?_
  refine lv_istore_n (lv' := [(3, .int 0), (2, .int 0), (0, .ref h), (1, .int (nI row))]) hx hb dX0_rawNumber_3 rfl hl (by decide) rfl (fun ls hl => ?_)
  have hl := lv_sub hl (l' := [(0, .ref h), (1, .int (nI row)), (2, .int 0), (3, .int 0)]) [2, 3, 1, 0] rfl
  refine g_loop (σ := Nat) (fun i => 8 - i) (fun i => (h, .inr (1, [.long f, .long b, .int (nI v)])) :: R) (fun i => [(0, .ref h), (1, .int (nI row)), (2, .int (nI (rwN f b v row i))), (3, .int (nI i))]) (fun i => i ≤ 8) ?_ 0 (by show _ ≤ _; omega) G hl
  intro i hi_4 ih_4 H locs ls G hl
  have G : gW D ((h, .inr (1, [.long f, .long b, .int (nI v)])) :: R) (va_A ((h, .inr (1, [.long f, .long b, .int (nI v)])) :: R) s.heap.size) s H locs := G
  have hl : lv_has ls 4 [(0, .ref h), (1, .int (nI row)), (2, .int (nI (rwN f b v row i))), (3, .int (nI i))] := hl
  refine lv_iload_n hx hb dX0_rawNumber_4 rfl (lv_at hl 3 rfl) ?_
  refine lv_bipush (v := 8) hx hb dX0_rawNumber_5 (by decide) ?_
  refine lv_icmp_ge (tgt := 35) hx hb dX0_rawNumber_7 (by decide) (fun c_7 => ?_) (fun c_7 => ?_)
  · skip
    have c_7 : 8 ≤ i := (nI_leI (a := 8) (b := i) (by omega) (by omega)).mp c_7
    obtain rfl : i = 8 := by omega
    have G : gW D ((h, .inr (1, [.long f, .long b, .int (nI v)])) :: R) (va_A ((h, .inr (1, [.long f, .long b, .int (nI v)])) :: R) s.heap.size) s _ _ := G
    have hl : lv_has ls 4 [(0, .ref h), (1, .int (nI row)), (2, .int (nI (rwN f b v row 8))), (3, .int (nI 8))] := hl
    refine lv_iload_n hx hb dX0_rawNumber_35 rfl (lv_at hl 2 rfl) ?_
    exact g_iret C0 G ⟨by first | rfl | (exfalso; omega) | (simp only [rwN, c_7, Bool.false_eq_true, ↓reduceIte, eq_self, decide_true, decide_false, not_true_eq_false, not_false_eq_true, Bool.true_and, Bool.false_and, Bool.and_true, Bool.and_false]; done) | (simp [rwN, c_7]; done) | (simp [rwN, c_7]; rfl) | (simp [rwN, c_7]; omega), by first | rfl | (exfalso; omega) | (simp only [rwN, c_7, Bool.false_eq_true, ↓reduceIte, eq_self, decide_true, decide_false, not_true_eq_false, not_false_eq_true, Bool.true_and, Bool.false_and, Bool.and_true, Bool.and_false]; done) | (simp [rwN, c_7]; done) | (simp [rwN, c_7]; rfl) | (simp [rwN, c_7]; omega)⟩ dX0_rawNumber_36
  · skip
    have c_7 : ¬ (8 ≤ i) := fun h => c_7 ((nI_leI (a := 8) (b := i) (by omega) (by omega)).mpr h)
    refine lv_iconst (v := 2) hx hb dX0_rawNumber_10 (by decide) ?_
    refine lv_iload_n hx hb dX0_rawNumber_11 rfl (lv_at hl 2 rfl) ?_
    refine lv_imul hx hb dX0_rawNumber_12 ?_
    refine g_topi (x' := nI (2 * (rwN f b v row i))) (pk_mul 2 (rwN f b v row i)) ?_
    refine lv_aload_n hx hb dX0_rawNumber_13 rfl (lv_at hl 0 rfl) ?_
    refine lv_iload_n hx hb dX0_rawNumber_14 rfl (lv_at hl 1 rfl) ?_
    refine lv_iload_n hx hb dX0_rawNumber_15 rfl (lv_at hl 3 rfl) ?_
    refine g_callV (As := [.int (nI row), .int (nI i)]) (rest := [.int (nI (2 * (rwN f b v row i)))]) (q0 := 0) C0 G (c_X0_showsHole l D cy (R := R) (h := h) (f := f) (b := b) (v := v) (row := row) (col := i) (by omega) (by omega) (by omega)) k_X0_showsHole ml_X0_83 rfl rfl dX0_rawNumber_16 rfl rfl hl.1 (Nat.le_of_ble_eq_true rfl) ⟨Nat.le_of_ble_eq_true rfl, Nat.le_of_ble_eq_true rfl⟩ ⟨Nat.le_of_ble_eq_true rfl, Nat.le_of_ble_eq_true rfl⟩ (fun r W2 H locs hp G => ?_)
    obtain ⟨rfl, hw⟩ := hp
    have G := g_wc hw G
    refine W.eq (g2 := F0 m 19 ls [.int (bI (shB1 f b v row i)), .int (nI (2 * (rwN f b v row i)))]) rfl ?_
    refine lv_if_eq (tgt := 26) hx hb dX0_rawNumber_19 (by decide) (fun c_19 => ?_) (fun c_19 => ?_)
    · skip
      have c_19 : (shB1 f b v row i) = false := bI_f c_19
      refine lv_iconst (v := 0) hx hb dX0_rawNumber_26 (by decide) ?_
      refine lv_iadd hx hb dX0_rawNumber_27 ?_
      refine g_topi (x' := nI ((2 * (rwN f b v row i)) + 0)) (nI_add (2 * (rwN f b v row i)) 0) ?_
      refine g_topi (x' := nI (rwN f b v row (i + 1))) (congrArg nI (by first | rfl | (simp only [rwN, c_7, c_19, Bool.false_eq_true, ↓reduceIte]; done) | (simp [rwN, c_7, c_19]; done))) ?_
      refine lv_istore_n (lv' := [(2, .int (nI (rwN f b v row (i + 1)))), (0, .ref h), (1, .int (nI row)), (3, .int (nI i))]) hx hb dX0_rawNumber_28 rfl hl (by decide) rfl (fun ls hl => ?_)
      refine lv_iinc (v := nI (i + 1)) (lv' := [(3, .int (nI (i + 1))), (2, .int (nI (rwN f b v row (i + 1)))), (0, .ref h), (1, .int (nI row))]) hx hb dX0_rawNumber_29 hl (k := 3) rfl (nI_add i 1) (by decide) rfl (fun ls hl => ?_)
      refine lv_goto (tgt := 4) hx hb dX0_rawNumber_32 (by decide) ?_
      have hl := lv_sub hl (l' := _) [2, 3, 1, 0] rfl
      exact ih_4 (i + 1) (by show _ ≤ _; omega) (by show _ < _; omega) _ _ _ G hl
    · skip
      have c_19 : (shB1 f b v row i) = true := bI_t c_19
      refine lv_iconst (v := 1) hx hb dX0_rawNumber_22 (by decide) ?_
      refine lv_goto (tgt := 27) hx hb dX0_rawNumber_23 (by decide) ?_
      refine lv_iadd hx hb dX0_rawNumber_27 ?_
      refine g_topi (x' := nI ((2 * (rwN f b v row i)) + 1)) (nI_add (2 * (rwN f b v row i)) 1) ?_
      refine g_topi (x' := nI (rwN f b v row (i + 1))) (congrArg nI (by first | rfl | (simp only [rwN, c_7, c_19, Bool.false_eq_true, ↓reduceIte]; done) | (simp [rwN, c_7, c_19]; done))) ?_
      refine lv_istore_n (lv' := [(2, .int (nI (rwN f b v row (i + 1)))), (0, .ref h), (1, .int (nI row)), (3, .int (nI i))]) hx hb dX0_rawNumber_28 rfl hl (by decide) rfl (fun ls hl => ?_)
      refine lv_iinc (v := nI (i + 1)) (lv' := [(3, .int (nI (i + 1))), (2, .int (nI (rwN f b v row (i + 1)))), (0, .ref h), (1, .int (nI row))]) hx hb dX0_rawNumber_29 hl (k := 3) rfl (nI_add i 1) (by decide) rfl (fun ls hl => ?_)
      refine lv_goto (tgt := 4) hx hb dX0_rawNumber_32 (by decide) ?_
      have hl := lv_sub hl (l' := _) [2, 3, 1, 0] rfl
      exact ih_4 (i + 1) (by show _ ≤ _; omega) (by show _ < _; omega) _ _ _ G hl

set_option maxHeartbeats 4000000 in
set_option maxRecDepth 100000 in
theorem c_X3_tellLastOf (l : Launch) (D : va_G) (cy : Nat → ClassId) (R : va_W) (h : Nat) (kn : Int64) (on : Int64) (w : Int64)  : GE l D (gts cy) yX3_tellLastOf cX3_tellLastOf 5 none 2 0 0 [.ref h, .long w] ((h, .inr (4, [.long kn, .long on])) :: R) (gF none ((h, .inr (4, [.long (tlK w kn), .long (tlO w kn on)])) :: R)) := by
  refine g_intro (by decide +kernel) (lv := [(0, .ref h), (1, .long w)]) rfl (Nat.le_of_ble_eq_true rfl) ?_
  intro p e s m below meth c C0 G ls hl
  have hx := C0.1
  have hb := C0.2.1
  have hown := C0.2.2.2.2.2.1
  have hts := C0.2.2.2.2.2.2.1
  have hpl := pc_le (w &&& (kn ^^^ (-1)))
  refine lv_lload_n hx hb dX3_tellLastOf_0 rfl (lv_at hl 1 rfl) ?_
  refine lv_aload_n hx hb dX3_tellLastOf_1 rfl (lv_at hl 0 rfl) ?_
  refine g_get (q0 := 0) (v := .long kn) C0 G in_X3 rfl rfl 0 (by decide) fl_X3_9 (fun _ h => h) rfl dX3_tellLastOf_2 ?_
  refine lv_ldc2 (v := (-1)) hx hb hown (hts _ kl_X3_29) dX3_tellLastOf_5 ?_
  refine lv_lxor hx hb dX3_tellLastOf_8 ?_
  refine lv_land hx hb dX3_tellLastOf_9 ?_
  refine lv_lstore_n (lv' := [(3, .long (w &&& (kn ^^^ ((-1) : Int64)))), (0, .ref h), (1, .long w)]) hx hb dX3_tellLastOf_10 rfl hl (by decide) rfl (fun ls hl => ?_)
  refine lv_lload_n hx hb dX3_tellLastOf_11 rfl (lv_at hl 0 rfl) ?_
  refine g_callS (As := [.long (w &&& (kn ^^^ ((-1) : Int64)))]) (rest := []) C0 G (c_J13_bitCount_95d88 l D cy (W1 := (h, .inr (4, [.long kn, .long on])) :: R) (w := w &&& (kn ^^^ ((-1) : Int64))) ) k_J13_bitCount_95d88 ml_X3_31 dX3_tellLastOf_12 rfl rfl hl.1 (Nat.le_of_ble_eq_true rfl) ⟨Nat.le_of_ble_eq_true rfl, Nat.le_of_ble_eq_true rfl⟩ ⟨Nat.le_of_ble_eq_true rfl, Nat.le_of_ble_eq_true rfl⟩ (fun r W2 H locs hp G => ?_)
  obtain ⟨rfl, hw⟩ := hp
  have G := g_wc hw G
  refine W.eq (g2 := F0 m 15 ls [.int (nI (pc (w &&& (kn ^^^ ((-1) : Int64)))))]) rfl ?_
  refine lv_iconst (v := 1) hx hb dX3_tellLastOf_15 (by decide) ?_
  refine lv_icmp_eq (tgt := 20) hx hb dX3_tellLastOf_16 (by decide) (fun c_16 => ?_) (fun c_16 => ?_)
  · skip
    have c_16 : (pc (w &&& (kn ^^^ ((-1) : Int64)))) = 1 := (nI_eq (a := pc (w &&& (kn ^^^ ((-1) : Int64)))) (b := 1) (by omega) (by omega)).mp c_16
    refine lv_lload_n hx hb dX3_tellLastOf_20 rfl (lv_at hl 2 rfl) ?_
    refine lv_aload_n hx hb dX3_tellLastOf_21 rfl (lv_at hl 1 rfl) ?_
    refine g_get (q0 := 0) (v := .long on) C0 G in_X3 rfl rfl 1 (by decide) fl_X3_15 (fun _ h => h) rfl dX3_tellLastOf_22 ?_
    refine lv_land hx hb dX3_tellLastOf_25 ?_
    refine g_callSN (As := [.long (w &&& on)]) (rest := []) C0 G (c_X4_isOdd l D cy (W1 := (h, .inr (4, [.long kn, .long on])) :: R) (w := w &&& on) ) k_X4_isOdd nm_X3_37 dX3_tellLastOf_26 rfl rfl hl.1 (Nat.le_of_ble_eq_true rfl) ⟨Nat.le_of_ble_eq_true rfl, Nat.le_of_ble_eq_true rfl⟩ ⟨Nat.le_of_ble_eq_true rfl, Nat.le_of_ble_eq_true rfl⟩ (fun r W2 H locs hp G => ?_)
    obtain ⟨rfl, hw⟩ := hp
    have G := g_wc hw G
    refine W.eq (g2 := F0 m 29 ls [.int (bI (od (w &&& on)))]) rfl ?_
    refine lv_if_eq (tgt := 42) hx hb dX3_tellLastOf_29 (by decide) (fun c_29 => ?_) (fun c_29 => ?_)
    · skip
      have c_29 : (od (w &&& on)) = false := bI_f c_29
      refine lv_aload_n hx hb dX3_tellLastOf_42 rfl (lv_at hl 1 rfl) ?_
      refine lv_dup hx hb dX3_tellLastOf_43 rfl ?_
      refine g_get (q0 := 0) (v := .long kn) C0 G in_X3 rfl rfl 0 (by decide) fl_X3_9 (fun _ h => h) rfl dX3_tellLastOf_44 ?_
      refine lv_lload_n hx hb dX3_tellLastOf_47 rfl (lv_at hl 0 rfl) ?_
      refine lv_lor hx hb dX3_tellLastOf_48 ?_
      refine g_put (q0 := 0) (W2 := (h, .inr (4, [.long (kn ||| (w &&& (kn ^^^ ((-1) : Int64)))), .long on])) :: R) C0 G ft_X3 in_X3 rfl rfl 0 (by decide) fl_X3_9 (fun _ h => h) rfl rfl rfl (Nat.le_of_ble_eq_true rfl) rfl dX3_tellLastOf_49 (fun H locs G => ?_)
      exact g_vret C0 G ⟨by first | rfl | (exfalso; omega) | (simp only [tlK, tlO, msW, c_16, c_29, Bool.false_eq_true, ↓reduceIte, eq_self, decide_true, decide_false, not_true_eq_false, not_false_eq_true, Bool.true_and, Bool.false_and, Bool.and_true, Bool.and_false]; done) | (simp [tlK, tlO, msW, c_16, c_29]; done) | (simp [tlK, tlO, msW, c_16, c_29]; rfl) | (simp [tlK, tlO, msW, c_16, c_29]; omega), by first | rfl | (exfalso; omega) | (simp only [tlK, tlO, msW, c_16, c_29, Bool.false_eq_true, ↓reduceIte, eq_self, decide_true, decide_false, not_true_eq_false, not_false_eq_true, Bool.true_and, Bool.false_and, Bool.and_true, Bool.and_false]; done) | (simp [tlK, tlO, msW, c_16, c_29]; done) | (simp [tlK, tlO, msW, c_16, c_29]; rfl) | (simp [tlK, tlO, msW, c_16, c_29]; omega)⟩ dX3_tellLastOf_52
    · skip
      have c_29 : (od (w &&& on)) = true := bI_t c_29
      refine lv_aload_n hx hb dX3_tellLastOf_32 rfl (lv_at hl 1 rfl) ?_
      refine lv_dup hx hb dX3_tellLastOf_33 rfl ?_
      refine g_get (q0 := 0) (v := .long on) C0 G in_X3 rfl rfl 1 (by decide) fl_X3_15 (fun _ h => h) rfl dX3_tellLastOf_34 ?_
      refine lv_lload_n hx hb dX3_tellLastOf_37 rfl (lv_at hl 0 rfl) ?_
      refine lv_lor hx hb dX3_tellLastOf_38 ?_
      refine g_put (q0 := 0) (W2 := (h, .inr (4, [.long kn, .long (on ||| (w &&& (kn ^^^ ((-1) : Int64))))])) :: R) C0 G ft_X3 in_X3 rfl rfl 1 (by decide) fl_X3_15 (fun _ h => h) rfl rfl rfl (Nat.le_of_ble_eq_true rfl) rfl dX3_tellLastOf_39 (fun H locs G => ?_)
      refine lv_aload_n hx hb dX3_tellLastOf_42 rfl (lv_at hl 1 rfl) ?_
      refine lv_dup hx hb dX3_tellLastOf_43 rfl ?_
      refine g_get (q0 := 0) (v := .long kn) C0 G in_X3 rfl rfl 0 (by decide) fl_X3_9 (fun _ h => h) rfl dX3_tellLastOf_44 ?_
      refine lv_lload_n hx hb dX3_tellLastOf_47 rfl (lv_at hl 0 rfl) ?_
      refine lv_lor hx hb dX3_tellLastOf_48 ?_
      refine g_put (q0 := 0) (W2 := (h, .inr (4, [.long (kn ||| (w &&& (kn ^^^ ((-1) : Int64)))), .long (on ||| (w &&& (kn ^^^ ((-1) : Int64))))])) :: R) C0 G ft_X3 in_X3 rfl rfl 0 (by decide) fl_X3_9 (fun _ h => h) rfl rfl rfl (Nat.le_of_ble_eq_true rfl) rfl dX3_tellLastOf_49 (fun H locs G => ?_)
      exact g_vret C0 G ⟨by first | rfl | (exfalso; omega) | (simp only [tlK, tlO, msW, c_16, c_29, Bool.false_eq_true, ↓reduceIte, eq_self, decide_true, decide_false, not_true_eq_false, not_false_eq_true, Bool.true_and, Bool.false_and, Bool.and_true, Bool.and_false]; done) | (simp [tlK, tlO, msW, c_16, c_29]; done) | (simp [tlK, tlO, msW, c_16, c_29]; rfl) | (simp [tlK, tlO, msW, c_16, c_29]; omega), by first | rfl | (exfalso; omega) | (simp only [tlK, tlO, msW, c_16, c_29, Bool.false_eq_true, ↓reduceIte, eq_self, decide_true, decide_false, not_true_eq_false, not_false_eq_true, Bool.true_and, Bool.false_and, Bool.and_true, Bool.and_false]; done) | (simp [tlK, tlO, msW, c_16, c_29]; done) | (simp [tlK, tlO, msW, c_16, c_29]; rfl) | (simp [tlK, tlO, msW, c_16, c_29]; omega)⟩ dX3_tellLastOf_52
  · skip
    have c_16 : ¬ ((pc (w &&& (kn ^^^ ((-1) : Int64)))) = 1) := fun h => c_16 ((nI_eq (a := pc (w &&& (kn ^^^ ((-1) : Int64)))) (b := 1) (by omega) (by omega)).mpr h)
    exact g_vret C0 G ⟨by first | rfl | (exfalso; omega) | (simp only [tlK, tlO, msW, c_16, Bool.false_eq_true, ↓reduceIte, eq_self, decide_true, decide_false, not_true_eq_false, not_false_eq_true, Bool.true_and, Bool.false_and, Bool.and_true, Bool.and_false]; done) | (simp [tlK, tlO, msW, c_16]; done) | (simp [tlK, tlO, msW, c_16]; rfl) | (simp [tlK, tlO, msW, c_16]; omega), by first | rfl | (exfalso; omega) | (simp only [tlK, tlO, msW, c_16, Bool.false_eq_true, ↓reduceIte, eq_self, decide_true, decide_false, not_true_eq_false, not_false_eq_true, Bool.true_and, Bool.false_and, Bool.and_true, Bool.and_false]; done) | (simp [tlK, tlO, msW, c_16]; done) | (simp [tlK, tlO, msW, c_16]; rfl) | (simp [tlK, tlO, msW, c_16]; omega)⟩ dX3_tellLastOf_19

set_option maxHeartbeats 4000000 in
set_option maxRecDepth 100000 in
theorem c_X3_findAll (l : Launch) (D : va_G) (cy : Nat → ClassId) (R : va_W) (h : Nat) (kn : Int64) (on : Int64) (sd : Int64) (so : Int64)  : GE l D (gts cy) yX3_findAll cX3_findAll 9 none 3 0 0 [.ref h, .long sd, .long so] ((h, .inr (4, [.long kn, .long on])) :: R) (gF none ((h, .inr (4, [.long ((fa sd so).1), .long ((fa sd so).2)])) :: R)) := by
  refine g_intro (by decide +kernel) (lv := [(0, .ref h), (1, .long sd), (3, .long so)]) rfl (Nat.le_of_ble_eq_true rfl) ?_
  intro p e s m below meth c C0 G ls hl
  have hx := C0.1
  have hb := C0.2.1
  have hown := C0.2.2.2.2.2.1
  have hts := C0.2.2.2.2.2.2.1
  refine lv_aload_n hx hb dX3_findAll_0 rfl (lv_at hl 0 rfl) ?_
  refine lv_lload_n hx hb dX3_findAll_1 rfl (lv_at hl 1 rfl) ?_
  refine g_put (q0 := 0) (W2 := (h, .inr (4, [.long sd, .long on])) :: R) C0 G ft_X3 in_X3 rfl rfl 0 (by decide) fl_X3_9 (fun _ h => h) rfl rfl rfl (Nat.le_of_ble_eq_true rfl) rfl dX3_findAll_2 (fun H locs G => ?_)
  refine lv_aload_n hx hb dX3_findAll_5 rfl (lv_at hl 0 rfl) ?_
  refine lv_lload_n hx hb dX3_findAll_6 rfl (lv_at hl 2 rfl) ?_
  refine g_put (q0 := 0) (W2 := (h, .inr (4, [.long sd, .long so])) :: R) C0 G ft_X3 in_X3 rfl rfl 1 (by decide) fl_X3_15 (fun _ h => h) rfl rfl rfl (Nat.le_of_ble_eq_true rfl) rfl dX3_findAll_7 (fun H locs G => ?_)
  refine lv_iconst (v := 0) hx hb dX3_findAll_10 (by decide) ?_
  refine lv_istore (lv' := [(5, .int 0), (0, .ref h), (1, .long sd), (3, .long so)]) hx hb dX3_findAll_11 hl (by decide) rfl (fun ls hl => ?_)
  have hl := lv_sub hl (l' := [(0, .ref h), (1, .long sd), (3, .long so), (5, .int 0)]) [1, 2, 3, 0] rfl
  refine g_loop (σ := Nat) (fun i => 66 - i) (fun i => (h, .inr (4, [.long ((rdn (sd, so) i).1), .long ((rdn (sd, so) i).2)])) :: R) (fun i => [(0, .ref h), (1, .long sd), (3, .long so), (5, .int (nI i))]) (fun i => i ≤ 65) ?_ 0 (by show _ ≤ _; omega) G hl
  intro i hi_13 ih_13 H locs ls G hl
  have G : gW D ((h, .inr (4, [.long ((rdn (sd, so) i).1), .long ((rdn (sd, so) i).2)])) :: R) (va_A ((h, .inr (4, [.long kn, .long on])) :: R) s.heap.size) s H locs := G
  have hl : lv_has ls 9 [(0, .ref h), (1, .long sd), (3, .long so), (5, .int (nI i))] := hl
  refine lv_iload hx hb dX3_findAll_13 (lv_at hl 3 rfl) ?_
  refine lv_bipush (v := 64) hx hb dX3_findAll_15 (by decide) ?_
  refine lv_icmp_gt (tgt := 93) hx hb dX3_findAll_17 (by decide) (fun c_17 => ?_) (fun c_17 => ?_)
  · skip
    have c_17 : 64 < i := (nI_ltI (a := 64) (b := i) (by omega) (by omega)).mp c_17
    obtain rfl : i = 65 := by omega
    have G : gW D ((h, .inr (4, [.long ((rdn (sd, so) 65).1), .long ((rdn (sd, so) 65).2)])) :: R) (va_A ((h, .inr (4, [.long kn, .long on])) :: R) s.heap.size) s _ _ := G
    have hl : lv_has ls 9 [(0, .ref h), (1, .long sd), (3, .long so), (5, .int (nI 65))] := hl
    exact g_vret C0 G ⟨by first | rfl | (exfalso; omega) | (simp only [c_17, Bool.false_eq_true, ↓reduceIte, eq_self, decide_true, decide_false, not_true_eq_false, not_false_eq_true, Bool.true_and, Bool.false_and, Bool.and_true, Bool.and_false]; done) | (simp [c_17]; done) | (simp [c_17]; rfl) | (simp [c_17]; omega), by first | rfl | (exfalso; omega) | (simp only [c_17, Bool.false_eq_true, ↓reduceIte, eq_self, decide_true, decide_false, not_true_eq_false, not_false_eq_true, Bool.true_and, Bool.false_and, Bool.and_true, Bool.and_false]; done) | (simp [c_17]; done) | (simp [c_17]; rfl) | (simp [c_17]; omega)⟩ dX3_findAll_93
  · skip
    have c_17 : ¬ (64 < i) := fun h => c_17 ((nI_ltI (a := 64) (b := i) (by omega) (by omega)).mpr h)
    refine lv_aload_n hx hb dX3_findAll_20 rfl (lv_at hl 0 rfl) ?_
    refine g_get (q0 := 0) (v := .long ((rdn (sd, so) i).1)) C0 G in_X3 rfl rfl 0 (by decide) fl_X3_9 (fun _ h => h) rfl dX3_findAll_21 ?_
    refine lv_lstore (lv' := [(6, .long ((rdn (sd, so) i).1)), (0, .ref h), (1, .long sd), (3, .long so), (5, .int (nI i))]) hx hb dX3_findAll_24 hl (by decide) rfl (fun ls hl => ?_)
    refine lv_iconst (v := 0) hx hb dX3_findAll_26 (by decide) ?_
    refine lv_istore (lv' := [(8, .int 0), (6, .long ((rdn (sd, so) i).1)), (0, .ref h), (1, .long sd), (3, .long so), (5, .int (nI i))]) hx hb dX3_findAll_27 hl (by decide) rfl (fun ls hl => ?_)
    have hl := lv_sub hl (l' := [(0, .ref h), (1, .long sd), (3, .long so), (5, .int (nI i)), (6, .long ((rdn (sd, so) i).1)), (8, .int 0)]) [2, 3, 4, 5, 1, 0] rfl
    refine g_loop (σ := Nat) (fun j => 8 - j) (fun j => (h, .inr (4, [.long ((rowsS (rdn (sd, so) i) j).1), .long ((rowsS (rdn (sd, so) i) j).2)])) :: R) (fun j => [(0, .ref h), (1, .long sd), (3, .long so), (5, .int (nI i)), (6, .long ((rdn (sd, so) i).1)), (8, .int (nI j))]) (fun j => j ≤ 8) ?_ 0 (by show _ ≤ _; omega) G hl
    intro j hi_29 ih_29 H locs ls G hl
    have G : gW D ((h, .inr (4, [.long ((rowsS (rdn (sd, so) i) j).1), .long ((rowsS (rdn (sd, so) i) j).2)])) :: R) (va_A ((h, .inr (4, [.long kn, .long on])) :: R) s.heap.size) s H locs := G
    have hl : lv_has ls 9 [(0, .ref h), (1, .long sd), (3, .long so), (5, .int (nI i)), (6, .long ((rdn (sd, so) i).1)), (8, .int (nI j))] := hl
    refine lv_iload hx hb dX3_findAll_29 (lv_at hl 5 rfl) ?_
    refine lv_bipush (v := 8) hx hb dX3_findAll_31 (by decide) ?_
    refine lv_icmp_ge (tgt := 51) hx hb dX3_findAll_33 (by decide) (fun c_33 => ?_) (fun c_33 => ?_)
    · skip
      have c_33 : 8 ≤ j := (nI_leI (a := 8) (b := j) (by omega) (by omega)).mp c_33
      obtain rfl : j = 8 := by omega
      have G : gW D ((h, .inr (4, [.long ((rowsS (rdn (sd, so) i) 8).1), .long ((rowsS (rdn (sd, so) i) 8).2)])) :: R) (va_A ((h, .inr (4, [.long kn, .long on])) :: R) s.heap.size) s _ _ := G
      have hl : lv_has ls 9 [(0, .ref h), (1, .long sd), (3, .long so), (5, .int (nI i)), (6, .long ((rdn (sd, so) i).1)), (8, .int (nI 8))] := hl
      refine lv_iconst (v := 0) hx hb dX3_findAll_51 (by decide) ?_
      refine lv_istore (lv' := [(8, .int 0), (0, .ref h), (1, .long sd), (3, .long so), (5, .int (nI i)), (6, .long ((rdn (sd, so) i).1))]) hx hb dX3_findAll_52 hl (by decide) rfl (fun ls hl => ?_)
      have hl := lv_sub hl (l' := [(0, .ref h), (1, .long sd), (3, .long so), (5, .int (nI i)), (6, .long ((rdn (sd, so) i).1)), (8, .int 0)]) [1, 2, 3, 4, 5, 0] rfl
      refine g_loop (σ := Nat) (fun q => 8 - q) (fun q => (h, .inr (4, [.long ((colsS (rowsS (rdn (sd, so) i) 8) q).1), .long ((colsS (rowsS (rdn (sd, so) i) 8) q).2)])) :: R) (fun q => [(0, .ref h), (1, .long sd), (3, .long so), (5, .int (nI i)), (6, .long ((rdn (sd, so) i).1)), (8, .int (nI q))]) (fun q => q ≤ 8) ?_ 0 (by show _ ≤ _; omega) G hl
      intro q hi_54 ih_54 H locs ls G hl
      have G : gW D ((h, .inr (4, [.long ((colsS (rowsS (rdn (sd, so) i) 8) q).1), .long ((colsS (rowsS (rdn (sd, so) i) 8) q).2)])) :: R) (va_A ((h, .inr (4, [.long kn, .long on])) :: R) s.heap.size) s H locs := G
      have hl : lv_has ls 9 [(0, .ref h), (1, .long sd), (3, .long so), (5, .int (nI i)), (6, .long ((rdn (sd, so) i).1)), (8, .int (nI q))] := hl
      refine lv_iload hx hb dX3_findAll_54 (lv_at hl 5 rfl) ?_
      refine lv_bipush (v := 8) hx hb dX3_findAll_56 (by decide) ?_
      refine lv_icmp_ge (tgt := 76) hx hb dX3_findAll_58 (by decide) (fun c_58 => ?_) (fun c_58 => ?_)
      · skip
        have c_58 : 8 ≤ q := (nI_leI (a := 8) (b := q) (by omega) (by omega)).mp c_58
        obtain rfl : q = 8 := by omega
        have G : gW D ((h, .inr (4, [.long ((colsS (rowsS (rdn (sd, so) i) 8) 8).1), .long ((colsS (rowsS (rdn (sd, so) i) 8) 8).2)])) :: R) (va_A ((h, .inr (4, [.long kn, .long on])) :: R) s.heap.size) s _ _ := G
        have hl : lv_has ls 9 [(0, .ref h), (1, .long sd), (3, .long so), (5, .int (nI i)), (6, .long ((rdn (sd, so) i).1)), (8, .int (nI 8))] := hl
        refine lv_aload_n hx hb dX3_findAll_76 rfl (lv_at hl 0 rfl) ?_
        refine g_get (q0 := 0) (v := .long ((colsS (rowsS (rdn (sd, so) i) 8) 8).1)) C0 G in_X3 rfl rfl 0 (by decide) fl_X3_9 (fun _ h => h) rfl dX3_findAll_77 ?_
        refine lv_lload hx hb dX3_findAll_80 (lv_at hl 4 rfl) ?_
        refine W.lcmp hx hb dX3_findAll_82 ?_
        refine lv_if_ne (tgt := 87) hx hb dX3_findAll_83 (by decide) (fun c_83 => ?_) (fun c_83 => ?_)
        · skip
          have c_83 : ¬ ((colsS (rowsS (rdn (sd, so) i) 8) 8).1) = ((rdn (sd, so) i).1) := fun h => c_83 (lgc_eq.mpr h)
          refine lv_iinc (v := nI (i + 1)) (lv' := [(5, .int (nI (i + 1))), (0, .ref h), (1, .long sd), (3, .long so), (6, .long ((rdn (sd, so) i).1)), (8, .int (nI 8))]) hx hb dX3_findAll_87 hl (k := 3) rfl (nI_add i 1) (by decide) rfl (fun ls hl => ?_)
          refine lv_goto (tgt := 13) hx hb dX3_findAll_90 (by decide) ?_
          have hl := lv_sub hl (l' := _) [1, 2, 3, 0] rfl
          exact ih_13 (i + 1) (by show _ ≤ _; omega) (by show _ < _; omega) _ _ _ G hl
        · skip
          have c_83 : ((colsS (rowsS (rdn (sd, so) i) 8) 8).1) = ((rdn (sd, so) i).1) := lgc_eq.mp c_83
          have c_83 : (rdn (sd, so) (i + 1)).1 = (rdn (sd, so) i).1 := c_83
          have G : gW D ((h, .inr (4, [.long (rdn (sd, so) (i + 1)).1, .long (rdn (sd, so) (i + 1)).2])) :: R) (va_A ((h, .inr (4, [.long kn, .long on])) :: R) s.heap.size) s H locs := G
          rw [fa_stop c_83 (by omega)] at G
          exact g_vret C0 G ⟨by first | rfl | (exfalso; omega) | (simp only [c_17, c_33, c_58, c_83, Bool.false_eq_true, ↓reduceIte, eq_self, decide_true, decide_false, not_true_eq_false, not_false_eq_true, Bool.true_and, Bool.false_and, Bool.and_true, Bool.and_false]; done) | (simp [c_17, c_33, c_58, c_83]; done) | (simp [c_17, c_33, c_58, c_83]; rfl) | (simp [c_17, c_33, c_58, c_83]; omega), by first | rfl | (exfalso; omega) | (simp only [c_17, c_33, c_58, c_83, Bool.false_eq_true, ↓reduceIte, eq_self, decide_true, decide_false, not_true_eq_false, not_false_eq_true, Bool.true_and, Bool.false_and, Bool.and_true, Bool.and_false]; done) | (simp [c_17, c_33, c_58, c_83]; done) | (simp [c_17, c_33, c_58, c_83]; rfl) | (simp [c_17, c_33, c_58, c_83]; omega)⟩ dX3_findAll_86
      · skip
        have c_58 : ¬ (8 ≤ q) := fun h => c_58 ((nI_leI (a := 8) (b := q) (by omega) (by omega)).mpr h)
        refine lv_aload_n hx hb dX3_findAll_61 rfl (lv_at hl 0 rfl) ?_
        refine lv_iload hx hb dX3_findAll_62 (lv_at hl 5 rfl) ?_
        refine g_callSN (As := [.int (nI q)]) (rest := [.ref h]) C0 G (c_X4_columnCells l D cy (W1 := (h, .inr (4, [.long ((colsS (rowsS (rdn (sd, so) i) 8) q).1), .long ((colsS (rowsS (rdn (sd, so) i) 8) q).2)])) :: R) (k := q) ) k_X4_columnCells nm_X3_26 dX3_findAll_64 rfl rfl hl.1 (Nat.le_of_ble_eq_true rfl) ⟨Nat.le_of_ble_eq_true rfl, Nat.le_of_ble_eq_true rfl⟩ ⟨Nat.le_of_ble_eq_true rfl, Nat.le_of_ble_eq_true rfl⟩ (fun r W2 H locs hp G => ?_)
        obtain ⟨rfl, hw⟩ := hp
        have G := g_wc hw G
        refine W.eq (g2 := F0 m 67 ls [.long (colM q), .ref h]) rfl ?_
        refine g_callV (As := [.long (colM q)]) (rest := []) (q0 := 0) C0 G (c_X3_tellLastOf l D cy (R := R) (h := h) (kn := (colsS (rowsS (rdn (sd, so) i) 8) q).1) (on := (colsS (rowsS (rdn (sd, so) i) 8) q).2) (w := colM q) ) k_X3_tellLastOf ml_X3_22 rfl rfl dX3_findAll_67 rfl rfl hl.1 (Nat.le_of_ble_eq_true rfl) ⟨Nat.le_of_ble_eq_true rfl, Nat.le_of_ble_eq_true rfl⟩ ⟨Nat.le_of_ble_eq_true rfl, Nat.le_of_ble_eq_true rfl⟩ (fun r W2 H locs hp G => ?_)
        obtain ⟨rfl, hw⟩ := hp
        have G := g_wc hw G
        refine W.eq (g2 := F0 m 70 ls []) rfl ?_
        refine lv_iinc (v := nI (q + 1)) (lv' := [(8, .int (nI (q + 1))), (0, .ref h), (1, .long sd), (3, .long so), (5, .int (nI i)), (6, .long ((rdn (sd, so) i).1))]) hx hb dX3_findAll_70 hl (k := 5) rfl (nI_add q 1) (by decide) rfl (fun ls hl => ?_)
        refine lv_goto (tgt := 54) hx hb dX3_findAll_73 (by decide) ?_
        have hl := lv_sub hl (l' := _) [1, 2, 3, 4, 5, 0] rfl
        exact ih_54 (q + 1) (by show _ ≤ _; omega) (by show _ < _; omega) _ _ _ G hl
    · skip
      have c_33 : ¬ (8 ≤ j) := fun h => c_33 ((nI_leI (a := 8) (b := j) (by omega) (by omega)).mpr h)
      refine lv_aload_n hx hb dX3_findAll_36 rfl (lv_at hl 0 rfl) ?_
      refine lv_iload hx hb dX3_findAll_37 (lv_at hl 5 rfl) ?_
      refine g_callSN (As := [.int (nI j)]) (rest := [.ref h]) C0 G (c_X4_rowCells l D cy (W1 := (h, .inr (4, [.long ((rowsS (rdn (sd, so) i) j).1), .long ((rowsS (rdn (sd, so) i) j).2)])) :: R) (r := j) ) k_X4_rowCells nm_X3_18 dX3_findAll_39 rfl rfl hl.1 (Nat.le_of_ble_eq_true rfl) ⟨Nat.le_of_ble_eq_true rfl, Nat.le_of_ble_eq_true rfl⟩ ⟨Nat.le_of_ble_eq_true rfl, Nat.le_of_ble_eq_true rfl⟩ (fun r W2 H locs hp G => ?_)
      obtain ⟨rfl, hw⟩ := hp
      have G := g_wc hw G
      refine W.eq (g2 := F0 m 42 ls [.long (rowM j), .ref h]) rfl ?_
      refine g_callV (As := [.long (rowM j)]) (rest := []) (q0 := 0) C0 G (c_X3_tellLastOf l D cy (R := R) (h := h) (kn := (rowsS (rdn (sd, so) i) j).1) (on := (rowsS (rdn (sd, so) i) j).2) (w := rowM j) ) k_X3_tellLastOf ml_X3_22 rfl rfl dX3_findAll_42 rfl rfl hl.1 (Nat.le_of_ble_eq_true rfl) ⟨Nat.le_of_ble_eq_true rfl, Nat.le_of_ble_eq_true rfl⟩ ⟨Nat.le_of_ble_eq_true rfl, Nat.le_of_ble_eq_true rfl⟩ (fun r W2 H locs hp G => ?_)
      obtain ⟨rfl, hw⟩ := hp
      have G := g_wc hw G
      refine W.eq (g2 := F0 m 45 ls []) rfl ?_
      refine lv_iinc (v := nI (j + 1)) (lv' := [(8, .int (nI (j + 1))), (0, .ref h), (1, .long sd), (3, .long so), (5, .int (nI i)), (6, .long ((rdn (sd, so) i).1))]) hx hb dX3_findAll_45 hl (k := 5) rfl (nI_add j 1) (by decide) rfl (fun ls hl => ?_)
      refine lv_goto (tgt := 29) hx hb dX3_findAll_48 (by decide) ?_
      have hl := lv_sub hl (l' := _) [1, 2, 3, 4, 5, 0] rfl
      exact ih_29 (j + 1) (by show _ ≤ _; omega) (by show _ < _; omega) _ _ _ G hl

set_option maxHeartbeats 4000000 in
set_option maxRecDepth 100000 in
theorem c_X3_unknownCells (l : Launch) (D : va_G) (cy : Nat → ClassId) (R : va_W) (h : Nat) (kn : Int64) (on : Int64)   : GE l D (gts cy) yX3_unknownCells cX3_unknownCells 1 (some .int) 1 0 0 [.ref h] ((h, .inr (4, [.long kn, .long on])) :: R) (gF (some (.int (nI (pc (kn ^^^ (-1)))))) ((h, .inr (4, [.long kn, .long on])) :: R)) := by
  refine g_intro (by decide +kernel) (lv := [(0, .ref h)]) rfl (Nat.le_of_ble_eq_true rfl) ?_
  intro p e s m below meth c C0 G ls hl
  have hx := C0.1
  have hb := C0.2.1
  have hown := C0.2.2.2.2.2.1
  have hts := C0.2.2.2.2.2.2.1
  refine lv_aload_n hx hb dX3_unknownCells_0 rfl (lv_at hl 0 rfl) ?_
  refine g_get (q0 := 0) (v := .long kn) C0 G in_X3 rfl rfl 0 (by decide) fl_X3_9 (fun _ h => h) rfl dX3_unknownCells_1 ?_
  refine lv_ldc2 (v := (-1)) hx hb hown (hts _ kl_X3_29) dX3_unknownCells_4 ?_
  refine lv_lxor hx hb dX3_unknownCells_7 ?_
  refine g_callS (As := [.long (kn ^^^ ((-1) : Int64))]) (rest := []) C0 G (c_J13_bitCount_95d88 l D cy (W1 := (h, .inr (4, [.long kn, .long on])) :: R) (w := kn ^^^ ((-1) : Int64)) ) k_J13_bitCount_95d88 ml_X3_31 dX3_unknownCells_8 rfl rfl hl.1 (Nat.le_of_ble_eq_true rfl) ⟨Nat.le_of_ble_eq_true rfl, Nat.le_of_ble_eq_true rfl⟩ ⟨Nat.le_of_ble_eq_true rfl, Nat.le_of_ble_eq_true rfl⟩ (fun r W2 H locs hp G => ?_)
  obtain ⟨rfl, hw⟩ := hp
  have G := g_wc hw G
  refine W.eq (g2 := F0 m 11 ls [.int (nI (pc (kn ^^^ ((-1) : Int64))))]) rfl ?_
  exact g_iret C0 G ⟨by first | rfl | (exfalso; omega) | (simp only [Bool.false_eq_true, ↓reduceIte, eq_self, decide_true, decide_false, not_true_eq_false, not_false_eq_true, Bool.true_and, Bool.false_and, Bool.and_true, Bool.and_false]; done) | (simp []; done) | (simp []; rfl) | (simp []; omega), by first | rfl | (exfalso; omega) | (simp only [Bool.false_eq_true, ↓reduceIte, eq_self, decide_true, decide_false, not_true_eq_false, not_false_eq_true, Bool.true_and, Bool.false_and, Bool.and_true, Bool.and_false]; done) | (simp []; done) | (simp []; rfl) | (simp []; omega)⟩ dX3_unknownCells_11

set_option maxHeartbeats 4000000 in
set_option maxRecDepth 100000 in
theorem c_X3_bitAt (l : Launch) (D : va_G) (cy : Nat → ClassId) (R : va_W) (h : Nat) (kn : Int64) (on : Int64) (k : Nat) (h1 : k < 64) : GE l D (gts cy) yX3_bitAt cX3_bitAt 2 (some .int) 1 0 0 [.ref h, .int (nI k)] ((h, .inr (4, [.long kn, .long on])) :: R) (gF (some (.int (biI kn on k))) ((h, .inr (4, [.long kn, .long on])) :: R)) := by
  refine g_intro (by decide +kernel) (lv := [(0, .ref h), (1, .int (nI k))]) rfl (Nat.le_of_ble_eq_true rfl) ?_
  intro p e s m below meth c C0 G ls hl
  have hx := C0.1
  have hb := C0.2.1
  have hown := C0.2.2.2.2.2.1
  have hts := C0.2.2.2.2.2.2.1
  refine lv_aload_n hx hb dX3_bitAt_0 rfl (lv_at hl 0 rfl) ?_
  refine g_get (q0 := 0) (v := .long kn) C0 G in_X3 rfl rfl 0 (by decide) fl_X3_9 (fun _ h => h) rfl dX3_bitAt_1 ?_
  refine lv_iload_n hx hb dX3_bitAt_4 rfl (lv_at hl 1 rfl) ?_
  refine g_callSN (As := [.long kn, .int (nI k)]) (rest := []) C0 G (c_X4_isIn l D cy (W1 := (h, .inr (4, [.long kn, .long on])) :: R) (w := kn) (k := k) (by omega)) k_X4_isIn nm_X3_41 dX3_bitAt_5 rfl rfl hl.1 (Nat.le_of_ble_eq_true rfl) ⟨Nat.le_of_ble_eq_true rfl, Nat.le_of_ble_eq_true rfl⟩ ⟨Nat.le_of_ble_eq_true rfl, Nat.le_of_ble_eq_true rfl⟩ (fun r W2 H locs hp G => ?_)
  obtain ⟨rfl, hw⟩ := hp
  have G := g_wc hw G
  refine W.eq (g2 := F0 m 8 ls [.int (bI (tb kn k))]) rfl ?_
  refine lv_if_ne (tgt := 13) hx hb dX3_bitAt_8 (by decide) (fun c_8 => ?_) (fun c_8 => ?_)
  · skip
    have c_8 : (tb kn k) = true := bI_t c_8
    refine lv_aload_n hx hb dX3_bitAt_13 rfl (lv_at hl 0 rfl) ?_
    refine g_get (q0 := 0) (v := .long on) C0 G in_X3 rfl rfl 1 (by decide) fl_X3_15 (fun _ h => h) rfl dX3_bitAt_14 ?_
    refine lv_iload_n hx hb dX3_bitAt_17 rfl (lv_at hl 1 rfl) ?_
    refine g_callSN (As := [.long on, .int (nI k)]) (rest := []) C0 G (c_X4_isIn l D cy (W1 := (h, .inr (4, [.long kn, .long on])) :: R) (w := on) (k := k) (by omega)) k_X4_isIn nm_X3_41 dX3_bitAt_18 rfl rfl hl.1 (Nat.le_of_ble_eq_true rfl) ⟨Nat.le_of_ble_eq_true rfl, Nat.le_of_ble_eq_true rfl⟩ ⟨Nat.le_of_ble_eq_true rfl, Nat.le_of_ble_eq_true rfl⟩ (fun r W2 H locs hp G => ?_)
    obtain ⟨rfl, hw⟩ := hp
    have G := g_wc hw G
    refine W.eq (g2 := F0 m 21 ls [.int (bI (tb on k))]) rfl ?_
    refine lv_if_eq (tgt := 28) hx hb dX3_bitAt_21 (by decide) (fun c_21 => ?_) (fun c_21 => ?_)
    · skip
      have c_21 : (tb on k) = false := bI_f c_21
      refine lv_iconst (v := 0) hx hb dX3_bitAt_28 (by decide) ?_
      exact g_iret C0 G ⟨by first | rfl | (exfalso; omega) | (simp only [biI, c_8, c_21, Bool.false_eq_true, ↓reduceIte, eq_self, decide_true, decide_false, not_true_eq_false, not_false_eq_true, Bool.true_and, Bool.false_and, Bool.and_true, Bool.and_false]; done) | (simp [biI, c_8, c_21]; done) | (simp [biI, c_8, c_21]; rfl) | (simp [biI, c_8, c_21]; omega), by first | rfl | (exfalso; omega) | (simp only [biI, c_8, c_21, Bool.false_eq_true, ↓reduceIte, eq_self, decide_true, decide_false, not_true_eq_false, not_false_eq_true, Bool.true_and, Bool.false_and, Bool.and_true, Bool.and_false]; done) | (simp [biI, c_8, c_21]; done) | (simp [biI, c_8, c_21]; rfl) | (simp [biI, c_8, c_21]; omega)⟩ dX3_bitAt_29
    · skip
      have c_21 : (tb on k) = true := bI_t c_21
      refine lv_iconst (v := 1) hx hb dX3_bitAt_24 (by decide) ?_
      refine lv_goto (tgt := 29) hx hb dX3_bitAt_25 (by decide) ?_
      exact g_iret C0 G ⟨by first | rfl | (exfalso; omega) | (simp only [biI, c_8, c_21, Bool.false_eq_true, ↓reduceIte, eq_self, decide_true, decide_false, not_true_eq_false, not_false_eq_true, Bool.true_and, Bool.false_and, Bool.and_true, Bool.and_false]; done) | (simp [biI, c_8, c_21]; done) | (simp [biI, c_8, c_21]; rfl) | (simp [biI, c_8, c_21]; omega), by first | rfl | (exfalso; omega) | (simp only [biI, c_8, c_21, Bool.false_eq_true, ↓reduceIte, eq_self, decide_true, decide_false, not_true_eq_false, not_false_eq_true, Bool.true_and, Bool.false_and, Bool.and_true, Bool.and_false]; done) | (simp [biI, c_8, c_21]; done) | (simp [biI, c_8, c_21]; rfl) | (simp [biI, c_8, c_21]; omega)⟩ dX3_bitAt_29
  · skip
    have c_8 : (tb kn k) = false := bI_f c_8
    refine lv_iconst (v := (-1)) hx hb dX3_bitAt_11 (by decide) ?_
    exact g_iret C0 G ⟨by first | rfl | (exfalso; omega) | (simp only [biI, c_8, Bool.false_eq_true, ↓reduceIte, eq_self, decide_true, decide_false, not_true_eq_false, not_false_eq_true, Bool.true_and, Bool.false_and, Bool.and_true, Bool.and_false]; done) | (simp [biI, c_8]; done) | (simp [biI, c_8]; rfl) | (simp [biI, c_8]; omega), by first | rfl | (exfalso; omega) | (simp only [biI, c_8, Bool.false_eq_true, ↓reduceIte, eq_self, decide_true, decide_false, not_true_eq_false, not_false_eq_true, Bool.true_and, Bool.false_and, Bool.and_true, Bool.and_false]; done) | (simp [biI, c_8]; done) | (simp [biI, c_8]; rfl) | (simp [biI, c_8]; omega)⟩ dX3_bitAt_12

set_option maxHeartbeats 4000000 in
set_option maxRecDepth 100000 in
theorem c_X3_disagrees (l : Launch) (D : va_G) (cy : Nat → ClassId) (R : va_W) (h : Nat) (kn : Int64) (on : Int64) (line : Nat) (h1 : line < 16) : GE l D (gts cy) yX3_disagrees cX3_disagrees 4 (some .boolean) 2 0 0 [.ref h, .int (nI line)] ((h, .inr (4, [.long kn, .long on])) :: R) (gF (some (.int (bI (dgB kn on line)))) ((h, .inr (4, [.long kn, .long on])) :: R)) := by
  refine g_intro (by decide +kernel) (lv := [(0, .ref h), (1, .int (nI line))]) rfl (Nat.le_of_ble_eq_true rfl) ?_
  intro p e s m below meth c C0 G ls hl
  have hx := C0.1
  have hb := C0.2.1
  have hown := C0.2.2.2.2.2.1
  have hts := C0.2.2.2.2.2.2.1
  refine lv_iload_n hx hb dX3_disagrees_0 rfl (lv_at hl 1 rfl) ?_
  refine lv_bipush (v := 8) hx hb dX3_disagrees_1 (by decide) ?_
  refine lv_icmp_ge (tgt := 13) hx hb dX3_disagrees_3 (by decide) (fun c_3 => ?_) (fun c_3 => ?_)
  · skip
    have c_3 : 8 ≤ line := (nI_leI (a := 8) (b := line) (by omega) (by omega)).mp c_3
    have e_l : lineM line = colM (line - 8) := lineM_hi (by omega)
    refine lv_iload_n hx hb dX3_disagrees_13 rfl (lv_at hl 1 rfl) ?_
    refine lv_bipush (v := 8) hx hb dX3_disagrees_14 (by decide) ?_
    refine lv_isub hx hb dX3_disagrees_16 ?_
    refine g_topi (x' := nI (line - 8)) (pk_sub (a := line) (b := 8) (by omega)) ?_
    refine g_callSN (As := [.int (nI (line - 8))]) (rest := []) C0 G (c_X4_columnCells l D cy (W1 := (h, .inr (4, [.long kn, .long on])) :: R) (k := line - 8) ) k_X4_columnCells nm_X3_26 dX3_disagrees_17 rfl rfl hl.1 (Nat.le_of_ble_eq_true rfl) ⟨Nat.le_of_ble_eq_true rfl, Nat.le_of_ble_eq_true rfl⟩ ⟨Nat.le_of_ble_eq_true rfl, Nat.le_of_ble_eq_true rfl⟩ (fun r W2 H locs hp G => ?_)
    obtain ⟨rfl, hw⟩ := hp
    have G := g_wc hw G
    refine W.eq (g2 := F0 m 20 ls [.long (colM (line - 8))]) rfl ?_
    refine lv_lstore_n (lv' := [(2, .long (colM (line - 8))), (0, .ref h), (1, .int (nI line))]) hx hb dX3_disagrees_20 rfl hl (by decide) rfl (fun ls hl => ?_)
    refine lv_lload_n hx hb dX3_disagrees_21 rfl (lv_at hl 0 rfl) ?_
    refine lv_aload_n hx hb dX3_disagrees_22 rfl (lv_at hl 1 rfl) ?_
    refine g_get (q0 := 0) (v := .long kn) C0 G in_X3 rfl rfl 0 (by decide) fl_X3_9 (fun _ h => h) rfl dX3_disagrees_23 ?_
    refine lv_ldc2 (v := (-1)) hx hb hown (hts _ kl_X3_29) dX3_disagrees_26 ?_
    refine lv_lxor hx hb dX3_disagrees_29 ?_
    refine lv_land hx hb dX3_disagrees_30 ?_
    refine lv_lconst (v := 0) hx hb dX3_disagrees_31 (by decide) ?_
    refine W.lcmp hx hb dX3_disagrees_32 ?_
    refine lv_if_ne (tgt := 52) hx hb dX3_disagrees_33 (by decide) (fun c_33 => ?_) (fun c_33 => ?_)
    · skip
      have c_33 : ¬ ((colM (line - 8)) &&& (kn ^^^ ((-1) : Int64))) = (0 : Int64) := fun h => c_33 (lgc_eq.mpr h)
      refine lv_iconst (v := 0) hx hb dX3_disagrees_52 (by decide) ?_
      exact g_zret C0 G rfl ⟨by first | rfl | (exfalso; omega) | (simp only [dgB, e_l, bI, c_3, c_33, Bool.false_eq_true, ↓reduceIte, eq_self, decide_true, decide_false, not_true_eq_false, not_false_eq_true, Bool.true_and, Bool.false_and, Bool.and_true, Bool.and_false]; done) | (simp [dgB, e_l, bI, c_3, c_33]; done) | (simp [dgB, e_l, bI, c_3, c_33]; rfl) | (simp [dgB, e_l, bI, c_3, c_33]; omega), by first | rfl | (exfalso; omega) | (simp only [dgB, e_l, bI, c_3, c_33, Bool.false_eq_true, ↓reduceIte, eq_self, decide_true, decide_false, not_true_eq_false, not_false_eq_true, Bool.true_and, Bool.false_and, Bool.and_true, Bool.and_false]; done) | (simp [dgB, e_l, bI, c_3, c_33]; done) | (simp [dgB, e_l, bI, c_3, c_33]; rfl) | (simp [dgB, e_l, bI, c_3, c_33]; omega)⟩ dX3_disagrees_53
    · skip
      have c_33 : ((colM (line - 8)) &&& (kn ^^^ ((-1) : Int64))) = (0 : Int64) := lgc_eq.mp c_33
      refine lv_lload_n hx hb dX3_disagrees_36 rfl (lv_at hl 0 rfl) ?_
      refine lv_aload_n hx hb dX3_disagrees_37 rfl (lv_at hl 1 rfl) ?_
      refine g_get (q0 := 0) (v := .long on) C0 G in_X3 rfl rfl 1 (by decide) fl_X3_15 (fun _ h => h) rfl dX3_disagrees_38 ?_
      refine lv_land hx hb dX3_disagrees_41 ?_
      refine g_callSN (As := [.long ((colM (line - 8)) &&& on)]) (rest := []) C0 G (c_X4_isOdd l D cy (W1 := (h, .inr (4, [.long kn, .long on])) :: R) (w := (colM (line - 8)) &&& on) ) k_X4_isOdd nm_X3_37 dX3_disagrees_42 rfl rfl hl.1 (Nat.le_of_ble_eq_true rfl) ⟨Nat.le_of_ble_eq_true rfl, Nat.le_of_ble_eq_true rfl⟩ ⟨Nat.le_of_ble_eq_true rfl, Nat.le_of_ble_eq_true rfl⟩ (fun r W2 H locs hp G => ?_)
      obtain ⟨rfl, hw⟩ := hp
      have G := g_wc hw G
      refine W.eq (g2 := F0 m 45 ls [.int (bI (od ((colM (line - 8)) &&& on)))]) rfl ?_
      refine lv_if_eq (tgt := 52) hx hb dX3_disagrees_45 (by decide) (fun c_45 => ?_) (fun c_45 => ?_)
      · skip
        have c_45 : (od ((colM (line - 8)) &&& on)) = false := bI_f c_45
        refine lv_iconst (v := 0) hx hb dX3_disagrees_52 (by decide) ?_
        exact g_zret C0 G rfl ⟨by first | rfl | (exfalso; omega) | (simp only [dgB, e_l, bI, c_3, c_33, c_45, Bool.false_eq_true, ↓reduceIte, eq_self, decide_true, decide_false, not_true_eq_false, not_false_eq_true, Bool.true_and, Bool.false_and, Bool.and_true, Bool.and_false]; done) | (simp [dgB, e_l, bI, c_3, c_33, c_45]; done) | (simp [dgB, e_l, bI, c_3, c_33, c_45]; rfl) | (simp [dgB, e_l, bI, c_3, c_33, c_45]; omega), by first | rfl | (exfalso; omega) | (simp only [dgB, e_l, bI, c_3, c_33, c_45, Bool.false_eq_true, ↓reduceIte, eq_self, decide_true, decide_false, not_true_eq_false, not_false_eq_true, Bool.true_and, Bool.false_and, Bool.and_true, Bool.and_false]; done) | (simp [dgB, e_l, bI, c_3, c_33, c_45]; done) | (simp [dgB, e_l, bI, c_3, c_33, c_45]; rfl) | (simp [dgB, e_l, bI, c_3, c_33, c_45]; omega)⟩ dX3_disagrees_53
      · skip
        have c_45 : (od ((colM (line - 8)) &&& on)) = true := bI_t c_45
        refine lv_iconst (v := 1) hx hb dX3_disagrees_48 (by decide) ?_
        refine lv_goto (tgt := 53) hx hb dX3_disagrees_49 (by decide) ?_
        exact g_zret C0 G rfl ⟨by first | rfl | (exfalso; omega) | (simp only [dgB, e_l, bI, c_3, c_33, c_45, Bool.false_eq_true, ↓reduceIte, eq_self, decide_true, decide_false, not_true_eq_false, not_false_eq_true, Bool.true_and, Bool.false_and, Bool.and_true, Bool.and_false]; done) | (simp [dgB, e_l, bI, c_3, c_33, c_45]; done) | (simp [dgB, e_l, bI, c_3, c_33, c_45]; rfl) | (simp [dgB, e_l, bI, c_3, c_33, c_45]; omega), by first | rfl | (exfalso; omega) | (simp only [dgB, e_l, bI, c_3, c_33, c_45, Bool.false_eq_true, ↓reduceIte, eq_self, decide_true, decide_false, not_true_eq_false, not_false_eq_true, Bool.true_and, Bool.false_and, Bool.and_true, Bool.and_false]; done) | (simp [dgB, e_l, bI, c_3, c_33, c_45]; done) | (simp [dgB, e_l, bI, c_3, c_33, c_45]; rfl) | (simp [dgB, e_l, bI, c_3, c_33, c_45]; omega)⟩ dX3_disagrees_53
  · skip
    have c_3 : ¬ (8 ≤ line) := fun h => c_3 ((nI_leI (a := 8) (b := line) (by omega) (by omega)).mpr h)
    have e_l : lineM line = rowM line := lineM_lo (by omega)
    refine lv_iload_n hx hb dX3_disagrees_6 rfl (lv_at hl 1 rfl) ?_
    refine g_callSN (As := [.int (nI line)]) (rest := []) C0 G (c_X4_rowCells l D cy (W1 := (h, .inr (4, [.long kn, .long on])) :: R) (r := line) ) k_X4_rowCells nm_X3_18 dX3_disagrees_7 rfl rfl hl.1 (Nat.le_of_ble_eq_true rfl) ⟨Nat.le_of_ble_eq_true rfl, Nat.le_of_ble_eq_true rfl⟩ ⟨Nat.le_of_ble_eq_true rfl, Nat.le_of_ble_eq_true rfl⟩ (fun r W2 H locs hp G => ?_)
    obtain ⟨rfl, hw⟩ := hp
    have G := g_wc hw G
    refine W.eq (g2 := F0 m 10 ls [.long (rowM line)]) rfl ?_
    refine lv_goto (tgt := 20) hx hb dX3_disagrees_10 (by decide) ?_
    refine lv_lstore_n (lv' := [(2, .long (rowM line)), (0, .ref h), (1, .int (nI line))]) hx hb dX3_disagrees_20 rfl hl (by decide) rfl (fun ls hl => ?_)
    refine lv_lload_n hx hb dX3_disagrees_21 rfl (lv_at hl 0 rfl) ?_
    refine lv_aload_n hx hb dX3_disagrees_22 rfl (lv_at hl 1 rfl) ?_
    refine g_get (q0 := 0) (v := .long kn) C0 G in_X3 rfl rfl 0 (by decide) fl_X3_9 (fun _ h => h) rfl dX3_disagrees_23 ?_
    refine lv_ldc2 (v := (-1)) hx hb hown (hts _ kl_X3_29) dX3_disagrees_26 ?_
    refine lv_lxor hx hb dX3_disagrees_29 ?_
    refine lv_land hx hb dX3_disagrees_30 ?_
    refine lv_lconst (v := 0) hx hb dX3_disagrees_31 (by decide) ?_
    refine W.lcmp hx hb dX3_disagrees_32 ?_
    refine lv_if_ne (tgt := 52) hx hb dX3_disagrees_33 (by decide) (fun c_33 => ?_) (fun c_33 => ?_)
    · skip
      have c_33 : ¬ ((rowM line) &&& (kn ^^^ ((-1) : Int64))) = (0 : Int64) := fun h => c_33 (lgc_eq.mpr h)
      refine lv_iconst (v := 0) hx hb dX3_disagrees_52 (by decide) ?_
      exact g_zret C0 G rfl ⟨by first | rfl | (exfalso; omega) | (simp only [dgB, e_l, bI, c_3, c_33, Bool.false_eq_true, ↓reduceIte, eq_self, decide_true, decide_false, not_true_eq_false, not_false_eq_true, Bool.true_and, Bool.false_and, Bool.and_true, Bool.and_false]; done) | (simp [dgB, e_l, bI, c_3, c_33]; done) | (simp [dgB, e_l, bI, c_3, c_33]; rfl) | (simp [dgB, e_l, bI, c_3, c_33]; omega), by first | rfl | (exfalso; omega) | (simp only [dgB, e_l, bI, c_3, c_33, Bool.false_eq_true, ↓reduceIte, eq_self, decide_true, decide_false, not_true_eq_false, not_false_eq_true, Bool.true_and, Bool.false_and, Bool.and_true, Bool.and_false]; done) | (simp [dgB, e_l, bI, c_3, c_33]; done) | (simp [dgB, e_l, bI, c_3, c_33]; rfl) | (simp [dgB, e_l, bI, c_3, c_33]; omega)⟩ dX3_disagrees_53
    · skip
      have c_33 : ((rowM line) &&& (kn ^^^ ((-1) : Int64))) = (0 : Int64) := lgc_eq.mp c_33
      refine lv_lload_n hx hb dX3_disagrees_36 rfl (lv_at hl 0 rfl) ?_
      refine lv_aload_n hx hb dX3_disagrees_37 rfl (lv_at hl 1 rfl) ?_
      refine g_get (q0 := 0) (v := .long on) C0 G in_X3 rfl rfl 1 (by decide) fl_X3_15 (fun _ h => h) rfl dX3_disagrees_38 ?_
      refine lv_land hx hb dX3_disagrees_41 ?_
      refine g_callSN (As := [.long ((rowM line) &&& on)]) (rest := []) C0 G (c_X4_isOdd l D cy (W1 := (h, .inr (4, [.long kn, .long on])) :: R) (w := (rowM line) &&& on) ) k_X4_isOdd nm_X3_37 dX3_disagrees_42 rfl rfl hl.1 (Nat.le_of_ble_eq_true rfl) ⟨Nat.le_of_ble_eq_true rfl, Nat.le_of_ble_eq_true rfl⟩ ⟨Nat.le_of_ble_eq_true rfl, Nat.le_of_ble_eq_true rfl⟩ (fun r W2 H locs hp G => ?_)
      obtain ⟨rfl, hw⟩ := hp
      have G := g_wc hw G
      refine W.eq (g2 := F0 m 45 ls [.int (bI (od ((rowM line) &&& on)))]) rfl ?_
      refine lv_if_eq (tgt := 52) hx hb dX3_disagrees_45 (by decide) (fun c_45 => ?_) (fun c_45 => ?_)
      · skip
        have c_45 : (od ((rowM line) &&& on)) = false := bI_f c_45
        refine lv_iconst (v := 0) hx hb dX3_disagrees_52 (by decide) ?_
        exact g_zret C0 G rfl ⟨by first | rfl | (exfalso; omega) | (simp only [dgB, e_l, bI, c_3, c_33, c_45, Bool.false_eq_true, ↓reduceIte, eq_self, decide_true, decide_false, not_true_eq_false, not_false_eq_true, Bool.true_and, Bool.false_and, Bool.and_true, Bool.and_false]; done) | (simp [dgB, e_l, bI, c_3, c_33, c_45]; done) | (simp [dgB, e_l, bI, c_3, c_33, c_45]; rfl) | (simp [dgB, e_l, bI, c_3, c_33, c_45]; omega), by first | rfl | (exfalso; omega) | (simp only [dgB, e_l, bI, c_3, c_33, c_45, Bool.false_eq_true, ↓reduceIte, eq_self, decide_true, decide_false, not_true_eq_false, not_false_eq_true, Bool.true_and, Bool.false_and, Bool.and_true, Bool.and_false]; done) | (simp [dgB, e_l, bI, c_3, c_33, c_45]; done) | (simp [dgB, e_l, bI, c_3, c_33, c_45]; rfl) | (simp [dgB, e_l, bI, c_3, c_33, c_45]; omega)⟩ dX3_disagrees_53
      · skip
        have c_45 : (od ((rowM line) &&& on)) = true := bI_t c_45
        refine lv_iconst (v := 1) hx hb dX3_disagrees_48 (by decide) ?_
        refine lv_goto (tgt := 53) hx hb dX3_disagrees_49 (by decide) ?_
        exact g_zret C0 G rfl ⟨by first | rfl | (exfalso; omega) | (simp only [dgB, e_l, bI, c_3, c_33, c_45, Bool.false_eq_true, ↓reduceIte, eq_self, decide_true, decide_false, not_true_eq_false, not_false_eq_true, Bool.true_and, Bool.false_and, Bool.and_true, Bool.and_false]; done) | (simp [dgB, e_l, bI, c_3, c_33, c_45]; done) | (simp [dgB, e_l, bI, c_3, c_33, c_45]; rfl) | (simp [dgB, e_l, bI, c_3, c_33, c_45]; omega), by first | rfl | (exfalso; omega) | (simp only [dgB, e_l, bI, c_3, c_33, c_45, Bool.false_eq_true, ↓reduceIte, eq_self, decide_true, decide_false, not_true_eq_false, not_false_eq_true, Bool.true_and, Bool.false_and, Bool.and_true, Bool.and_false]; done) | (simp [dgB, e_l, bI, c_3, c_33, c_45]; done) | (simp [dgB, e_l, bI, c_3, c_33, c_45]; rfl) | (simp [dgB, e_l, bI, c_3, c_33, c_45]; omega)⟩ dX3_disagrees_53

set_option maxHeartbeats 4000000 in
set_option maxRecDepth 100000 in
theorem c_X3_disagreeingLines (l : Launch) (D : va_G) (cy : Nat → ClassId) (R : va_W) (h : Nat) (kn : Int64) (on : Int64)   : GE l D (gts cy) yX3_disagreeingLines cX3_disagreeingLines 3 (some .int) 3 0 0 [.ref h] ((h, .inr (4, [.long kn, .long on])) :: R) (gF (some (.int (nI (cnt (dgB kn on) 16)))) ((h, .inr (4, [.long kn, .long on])) :: R)) := by
  refine g_intro (by decide +kernel) (lv := [(0, .ref h)]) rfl (Nat.le_of_ble_eq_true rfl) ?_
  intro p e s m below meth c C0 G ls hl
  have hx := C0.1
  have hb := C0.2.1
  have hown := C0.2.2.2.2.2.1
  have hts := C0.2.2.2.2.2.2.1
  refine lv_iconst (v := 0) hx hb dX3_disagreeingLines_0 (by decide) ?_
  refine lv_istore_n (lv' := [(1, .int 0), (0, .ref h)]) hx hb dX3_disagreeingLines_1 rfl hl (by decide) rfl (fun ls hl => ?_)
  refine lv_iconst (v := 0) hx hb dX3_disagreeingLines_2 (by decide) ?_
  refine lv_istore_n (lv' := [(2, .int 0), (1, .int 0), (0, .ref h)]) hx hb dX3_disagreeingLines_3 rfl hl (by decide) rfl (fun ls hl => ?_)
  have hl := lv_sub hl (l' := [(0, .ref h), (1, .int 0), (2, .int 0)]) [2, 1, 0] rfl
  refine g_loop (σ := Nat) (fun i => 16 - i) (fun i => (h, .inr (4, [.long kn, .long on])) :: R) (fun i => [(0, .ref h), (1, .int (nI (cnt (dgB kn on) i))), (2, .int (nI i))]) (fun i => i ≤ 16) ?_ 0 (by show _ ≤ _; omega) G hl
  intro i hi_4 ih_4 H locs ls G hl
  have G : gW D ((h, .inr (4, [.long kn, .long on])) :: R) (va_A ((h, .inr (4, [.long kn, .long on])) :: R) s.heap.size) s H locs := G
  have hl : lv_has ls 3 [(0, .ref h), (1, .int (nI (cnt (dgB kn on) i))), (2, .int (nI i))] := hl
  refine lv_iload_n hx hb dX3_disagreeingLines_4 rfl (lv_at hl 2 rfl) ?_
  refine lv_bipush (v := 16) hx hb dX3_disagreeingLines_5 (by decide) ?_
  refine lv_icmp_ge (tgt := 27) hx hb dX3_disagreeingLines_7 (by decide) (fun c_7 => ?_) (fun c_7 => ?_)
  · skip
    have c_7 : 16 ≤ i := (nI_leI (a := 16) (b := i) (by omega) (by omega)).mp c_7
    obtain rfl : i = 16 := by omega
    have G : gW D ((h, .inr (4, [.long kn, .long on])) :: R) (va_A ((h, .inr (4, [.long kn, .long on])) :: R) s.heap.size) s _ _ := G
    have hl : lv_has ls 3 [(0, .ref h), (1, .int (nI (cnt (dgB kn on) 16))), (2, .int (nI 16))] := hl
    refine lv_iload_n hx hb dX3_disagreeingLines_27 rfl (lv_at hl 1 rfl) ?_
    exact g_iret C0 G ⟨by first | rfl | (exfalso; omega) | (simp only [cnt, c_7, Bool.false_eq_true, ↓reduceIte, eq_self, decide_true, decide_false, not_true_eq_false, not_false_eq_true, Bool.true_and, Bool.false_and, Bool.and_true, Bool.and_false]; done) | (simp [cnt, c_7]; done) | (simp [cnt, c_7]; rfl) | (simp [cnt, c_7]; omega), by first | rfl | (exfalso; omega) | (simp only [cnt, c_7, Bool.false_eq_true, ↓reduceIte, eq_self, decide_true, decide_false, not_true_eq_false, not_false_eq_true, Bool.true_and, Bool.false_and, Bool.and_true, Bool.and_false]; done) | (simp [cnt, c_7]; done) | (simp [cnt, c_7]; rfl) | (simp [cnt, c_7]; omega)⟩ dX3_disagreeingLines_28
  · skip
    have c_7 : ¬ (16 ≤ i) := fun h => c_7 ((nI_leI (a := 16) (b := i) (by omega) (by omega)).mpr h)
    refine lv_aload_n hx hb dX3_disagreeingLines_10 rfl (lv_at hl 0 rfl) ?_
    refine lv_iload_n hx hb dX3_disagreeingLines_11 rfl (lv_at hl 2 rfl) ?_
    refine g_callV (As := [.int (nI i)]) (rest := []) (q0 := 0) C0 G (c_X3_disagrees l D cy (R := R) (h := h) (kn := kn) (on := on) (line := i) (by omega)) k_X3_disagrees ml_X3_45 rfl rfl dX3_disagreeingLines_12 rfl rfl hl.1 (Nat.le_of_ble_eq_true rfl) ⟨Nat.le_of_ble_eq_true rfl, Nat.le_of_ble_eq_true rfl⟩ ⟨Nat.le_of_ble_eq_true rfl, Nat.le_of_ble_eq_true rfl⟩ (fun r W2 H locs hp G => ?_)
    obtain ⟨rfl, hw⟩ := hp
    have G := g_wc hw G
    refine W.eq (g2 := F0 m 15 ls [.int (bI (dgB kn on i))]) rfl ?_
    refine lv_if_eq (tgt := 21) hx hb dX3_disagreeingLines_15 (by decide) (fun c_15 => ?_) (fun c_15 => ?_)
    · skip
      have c_15 : (dgB kn on i) = false := bI_f c_15
      refine lv_iinc (v := nI (i + 1)) (lv' := [(2, .int (nI (i + 1))), (0, .ref h), (1, .int (nI (cnt (dgB kn on) i)))]) hx hb dX3_disagreeingLines_21 hl (k := 2) rfl (nI_add i 1) (by decide) rfl (fun ls hl => ?_)
      refine lv_goto (tgt := 4) hx hb dX3_disagreeingLines_24 (by decide) ?_
      have hl := lv_sub hl (l' := _) [1, 2, 0] rfl
      exact ih_4 (i + 1) (by show _ ≤ _; omega) (by show _ < _; omega) _ _ _ G (by first | exact hl | (rw [show cnt (dgB kn on) (i + 1) = cnt (dgB kn on) i from by simp [cnt, c_7, c_15]]; exact hl))
    · skip
      have c_15 : (dgB kn on i) = true := bI_t c_15
      refine lv_iinc (v := nI (cnt (dgB kn on) (i + 1))) (lv' := [(1, .int (nI (cnt (dgB kn on) (i + 1)))), (0, .ref h), (2, .int (nI i))]) hx hb dX3_disagreeingLines_18 hl (k := 1) rfl ((nI_add (cnt (dgB kn on) i) 1).trans (congrArg nI (by first | rfl | (simp only [cnt, c_7, c_15, Bool.false_eq_true, ↓reduceIte]; done) | (simp [cnt, c_7, c_15]; done)))) (by decide) rfl (fun ls hl => ?_)
      refine lv_iinc (v := nI (i + 1)) (lv' := [(2, .int (nI (i + 1))), (1, .int (nI (cnt (dgB kn on) (i + 1)))), (0, .ref h)]) hx hb dX3_disagreeingLines_21 hl (k := 2) rfl (nI_add i 1) (by decide) rfl (fun ls hl => ?_)
      refine lv_goto (tgt := 4) hx hb dX3_disagreeingLines_24 (by decide) ?_
      have hl := lv_sub hl (l' := _) [2, 1, 0] rfl
      exact ih_4 (i + 1) (by show _ ≤ _; omega) (by show _ < _; omega) _ _ _ G (by first | exact hl | (rw [show cnt (dgB kn on) (i + 1) = cnt (dgB kn on) i from by simp [cnt, c_7, c_15]]; exact hl))

set_option maxHeartbeats 4000000 in
set_option maxRecDepth 100000 in
theorem c_X3_disagreeingLine (l : Launch) (D : va_G) (cy : Nat → ClassId) (R : va_W) (h : Nat) (kn : Int64) (on : Int64) (idx : Nat) (h1 : idx < 2147483648) : GE l D (gts cy) yX3_disagreeingLine cX3_disagreeingLine 4 (some .int) 3 0 0 [.ref h, .int (nI idx)] ((h, .inr (4, [.long kn, .long on])) :: R) (gF (some (.int (dlI (dgB kn on) idx))) ((h, .inr (4, [.long kn, .long on])) :: R)) := by
  refine g_intro (by decide +kernel) (lv := [(0, .ref h), (1, .int (nI idx))]) rfl (Nat.le_of_ble_eq_true rfl) ?_
  intro p e s m below meth c C0 G ls hl
  have hx := C0.1
  have hb := C0.2.1
  have hown := C0.2.2.2.2.2.1
  have hts := C0.2.2.2.2.2.2.1
  refine lv_iconst (v := 0) hx hb dX3_disagreeingLine_0 (by decide) ?_
  refine lv_istore_n (lv' := [(2, .int 0), (0, .ref h), (1, .int (nI idx))]) hx hb dX3_disagreeingLine_1 rfl hl (by decide) rfl (fun ls hl => ?_)
  refine lv_iconst (v := 0) hx hb dX3_disagreeingLine_2 (by decide) ?_
  refine lv_istore_n (lv' := [(3, .int 0), (2, .int 0), (0, .ref h), (1, .int (nI idx))]) hx hb dX3_disagreeingLine_3 rfl hl (by decide) rfl (fun ls hl => ?_)
  have hl := lv_sub hl (l' := [(0, .ref h), (1, .int (nI idx)), (2, .int 0), (3, .int 0)]) [2, 3, 1, 0] rfl
  refine g_loop (σ := Nat) (fun i => 16 - i) (fun i => (h, .inr (4, [.long kn, .long on])) :: R) (fun i => [(0, .ref h), (1, .int (nI idx)), (2, .int (nI (cnt (dgB kn on) i))), (3, .int (nI i))]) (fun i => i ≤ 16 ∧ dlS (dgB kn on) idx i = none) ?_ 0 ⟨by omega, rfl⟩ G hl
  intro i hi_4 ih_4 H locs ls G hl
  have hcl := cnt_le (dgB kn on) i
  obtain ⟨hi_4a, hi_4b⟩ := hi_4
  have G : gW D ((h, .inr (4, [.long kn, .long on])) :: R) (va_A ((h, .inr (4, [.long kn, .long on])) :: R) s.heap.size) s H locs := G
  have hl : lv_has ls 4 [(0, .ref h), (1, .int (nI idx)), (2, .int (nI (cnt (dgB kn on) i))), (3, .int (nI i))] := hl
  refine lv_iload_n hx hb dX3_disagreeingLine_4 rfl (lv_at hl 3 rfl) ?_
  refine lv_bipush (v := 16) hx hb dX3_disagreeingLine_5 (by decide) ?_
  refine lv_icmp_ge (tgt := 34) hx hb dX3_disagreeingLine_7 (by decide) (fun c_7 => ?_) (fun c_7 => ?_)
  · skip
    have c_7 : 16 ≤ i := (nI_leI (a := 16) (b := i) (by omega) (by omega)).mp c_7
    obtain rfl : i = 16 := by omega
    have G : gW D ((h, .inr (4, [.long kn, .long on])) :: R) (va_A ((h, .inr (4, [.long kn, .long on])) :: R) s.heap.size) s _ _ := G
    have hl : lv_has ls 4 [(0, .ref h), (1, .int (nI idx)), (2, .int (nI (cnt (dgB kn on) 16))), (3, .int (nI 16))] := hl
    refine lv_iconst (v := (-1)) hx hb dX3_disagreeingLine_34 (by decide) ?_
    exact g_iret C0 G ⟨by (first | rw [dl_hit hi_4b c_15 c_20 (by omega)] | rw [dl_none hi_4b]), by first | rfl | (exfalso; omega) | (simp only [cnt, c_7, Bool.false_eq_true, ↓reduceIte, eq_self, decide_true, decide_false, not_true_eq_false, not_false_eq_true, Bool.true_and, Bool.false_and, Bool.and_true, Bool.and_false]; done) | (simp [cnt, c_7]; done) | (simp [cnt, c_7]; rfl) | (simp [cnt, c_7]; omega)⟩ dX3_disagreeingLine_35
  · skip
    have c_7 : ¬ (16 ≤ i) := fun h => c_7 ((nI_leI (a := 16) (b := i) (by omega) (by omega)).mpr h)
    refine lv_aload_n hx hb dX3_disagreeingLine_10 rfl (lv_at hl 0 rfl) ?_
    refine lv_iload_n hx hb dX3_disagreeingLine_11 rfl (lv_at hl 3 rfl) ?_
    refine g_callV (As := [.int (nI i)]) (rest := []) (q0 := 0) C0 G (c_X3_disagrees l D cy (R := R) (h := h) (kn := kn) (on := on) (line := i) (by omega)) k_X3_disagrees ml_X3_45 rfl rfl dX3_disagreeingLine_12 rfl rfl hl.1 (Nat.le_of_ble_eq_true rfl) ⟨Nat.le_of_ble_eq_true rfl, Nat.le_of_ble_eq_true rfl⟩ ⟨Nat.le_of_ble_eq_true rfl, Nat.le_of_ble_eq_true rfl⟩ (fun r W2 H locs hp G => ?_)
    obtain ⟨rfl, hw⟩ := hp
    have G := g_wc hw G
    refine W.eq (g2 := F0 m 15 ls [.int (bI (dgB kn on i))]) rfl ?_
    refine lv_if_eq (tgt := 28) hx hb dX3_disagreeingLine_15 (by decide) (fun c_15 => ?_) (fun c_15 => ?_)
    · skip
      have c_15 : (dgB kn on i) = false := bI_f c_15
      refine lv_iinc (v := nI (i + 1)) (lv' := [(3, .int (nI (i + 1))), (0, .ref h), (1, .int (nI idx)), (2, .int (nI (cnt (dgB kn on) i)))]) hx hb dX3_disagreeingLine_28 hl (k := 3) rfl (nI_add i 1) (by decide) rfl (fun ls hl => ?_)
      refine lv_goto (tgt := 4) hx hb dX3_disagreeingLine_31 (by decide) ?_
      have hl := lv_sub hl (l' := _) [1, 2, 3, 0] rfl
      exact ih_4 (i + 1) ⟨by omega, dl_no hi_4b (by simp [cnt, c_7, c_15])⟩ (by show _ < _; omega) _ _ _ G (by first | exact hl | (rw [show cnt (dgB kn on) (i + 1) = cnt (dgB kn on) i from by simp [cnt, c_7, c_15]]; exact hl))
    · skip
      have c_15 : (dgB kn on i) = true := bI_t c_15
      refine lv_iload_n hx hb dX3_disagreeingLine_18 rfl (lv_at hl 2 rfl) ?_
      refine lv_iload_n hx hb dX3_disagreeingLine_19 rfl (lv_at hl 1 rfl) ?_
      refine lv_icmp_ne (tgt := 25) hx hb dX3_disagreeingLine_20 (by decide) (fun c_20 => ?_) (fun c_20 => ?_)
      · skip
        have c_20 : ¬ ((cnt (dgB kn on) i) = idx) := fun h => c_20 ((nI_eq (a := cnt (dgB kn on) i) (b := idx) (by omega) (by omega)).mpr h)
        refine lv_iinc (v := nI (cnt (dgB kn on) (i + 1))) (lv' := [(2, .int (nI (cnt (dgB kn on) (i + 1)))), (0, .ref h), (1, .int (nI idx)), (3, .int (nI i))]) hx hb dX3_disagreeingLine_25 hl (k := 2) rfl ((nI_add (cnt (dgB kn on) i) 1).trans (congrArg nI (by first | rfl | (simp only [cnt, c_7, c_15, c_20, Bool.false_eq_true, ↓reduceIte]; done) | (simp [cnt, c_7, c_15, c_20]; done)))) (by decide) rfl (fun ls hl => ?_)
        refine lv_iinc (v := nI (i + 1)) (lv' := [(3, .int (nI (i + 1))), (2, .int (nI (cnt (dgB kn on) (i + 1)))), (0, .ref h), (1, .int (nI idx))]) hx hb dX3_disagreeingLine_28 hl (k := 3) rfl (nI_add i 1) (by decide) rfl (fun ls hl => ?_)
        refine lv_goto (tgt := 4) hx hb dX3_disagreeingLine_31 (by decide) ?_
        have hl := lv_sub hl (l' := _) [2, 3, 1, 0] rfl
        exact ih_4 (i + 1) ⟨by omega, dl_no hi_4b (by simp [cnt, c_7, c_15, c_20])⟩ (by show _ < _; omega) _ _ _ G (by first | exact hl | (rw [show cnt (dgB kn on) (i + 1) = cnt (dgB kn on) i from by simp [cnt, c_7, c_15, c_20]]; exact hl))
      · skip
        have c_20 : (cnt (dgB kn on) i) = idx := (nI_eq (a := cnt (dgB kn on) i) (b := idx) (by omega) (by omega)).mp c_20
        refine lv_iload_n hx hb dX3_disagreeingLine_23 rfl (lv_at hl 3 rfl) ?_
        exact g_iret C0 G ⟨by (first | rw [dl_hit hi_4b c_15 c_20 (by omega)] | rw [dl_none hi_4b]), by first | rfl | (exfalso; omega) | (simp only [cnt, c_7, c_15, c_20, Bool.false_eq_true, ↓reduceIte, eq_self, decide_true, decide_false, not_true_eq_false, not_false_eq_true, Bool.true_and, Bool.false_and, Bool.and_true, Bool.and_false]; done) | (simp [cnt, c_7, c_15, c_20]; done) | (simp [cnt, c_7, c_15, c_20]; rfl) | (simp [cnt, c_7, c_15, c_20]; omega)⟩ dX3_disagreeingLine_24
