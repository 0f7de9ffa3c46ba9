def nlN (a b c : Nat) : Nat := a + (if c ≤ b then b else c)
theorem nl_b (a b c : Nat) : nlN a b c ≤ a + b + c ∧ a + b ≤ nlN a b c ∧ a + c ≤ nlN a b c := by
  unfold nlN; split <;> omega
theorem shl0 (x : Int32) : x <<< ((0 : Int32) &&& 31) = x := by
  rw [show ((0 : Int32) &&& 31) = 0 from by decide]
  exact Int32.shiftLeft_zero
set_option maxHeartbeats 4000000 in
set_option maxRecDepth 100000 in
theorem c_X4_firstError (l : Launch) (D : va_G) (cy : Nat → ClassId) (ad : Nat → Nat) (fr : Nat → Int64) (bk : Nat → Int64) (vw : Nat → Nat) (tk : Int64) (to : Int64) (fk : Int64) (fo : Int64) (kp : Nat) (sp : Nat) (lt : Nat) (ib : Bool) (rw : Nat) (cl : Nat) (nu : Nat) (tv : Nat) (tm : Nat) (ta : Nat → Int32) (ml : Int32) (tn : Nat) (R : va_W) (tx : Nat → Nat) (h1 : tn ≤ tm) (h2 : tm < 2147483648) (htx : ∀ j, j < tn → ta j = nI (tx j) ∧ tx j < 128) (hq : rsOk (0, lt, ib, rw, cl, nu)) : GE l D (gts cy) yX4_firstError cX4_firstError 1 (some .int) 5 0 0 [.ref (ad 0)] (wC ad cy fr bk vw tk to fk fo kp sp lt ib rw cl nu tv tm ta ml tn R) (gF (some (.int (nI (ldN (rdOk tx (0, lt, ib, rw, cl, nu)) tn)))) (wC ad cy fr bk vw tk to fk fo kp ((rdS tx (0, lt, ib, rw, cl, nu) (rdE (rdOk tx (0, lt, ib, rw, cl, nu)) tn)).1) ((rdS tx (0, lt, ib, rw, cl, nu) (rdE (rdOk tx (0, lt, ib, rw, cl, nu)) tn)).2.1) ((rdS tx (0, lt, ib, rw, cl, nu) (rdE (rdOk tx (0, lt, ib, rw, cl, nu)) tn)).2.2.1) ((rdS tx (0, lt, ib, rw, cl, nu) (rdE (rdOk tx (0, lt, ib, rw, cl, nu)) tn)).2.2.2.1) ((rdS tx (0, lt, ib, rw, cl, nu) (rdE (rdOk tx (0, lt, ib, rw, cl, nu)) tn)).2.2.2.2.1) ((rdS tx (0, lt, ib, rw, cl, nu) (rdE (rdOk tx (0, lt, ib, rw, cl, nu)) tn)).2.2.2.2.2) tv tm ta ml tn R)) := by
  refine g_intro (by decide +kernel) (lv := [(0, .ref (ad 0))]) rfl (Nat.le_of_ble_eq_true rfl) ?_
  intro p e s m below meth c C0 G ls hl
  have hx := C0.1
  have hb := C0.2.1
  have hown := C0.2.2.2.2.2.1
  have hts := C0.2.2.2.2.2.2.1
  refine lv_aload_n hx hb dX4_firstError_0 rfl (lv_at hl 0 rfl) ?_
  refine g_callV (As := []) (rest := []) (q0 := 0) C0 G (c_X4_readText l D cy (ad := ad) (fr := fr) (bk := bk) (vw := vw) (tk := tk) (to := to) (fk := fk) (fo := fo) (kp := kp) (sp := sp) (lt := lt) (ib := ib) (rw := rw) (cl := cl) (nu := nu) (tv := tv) (tm := tm) (ta := ta) (ml := ml) (tn := tn) (R := R) (tx := tx) (by omega) (by omega) htx hq) k_X4_readText ml_X4_224 rfl rfl dX4_firstError_1 rfl rfl hl.1 (Nat.le_of_ble_eq_true rfl) ⟨Nat.le_of_ble_eq_true rfl, Nat.le_of_ble_eq_true rfl⟩ ⟨Nat.le_of_ble_eq_true rfl, Nat.le_of_ble_eq_true rfl⟩ (fun r W2 H locs hp G => ?_)
  obtain ⟨rfl, hw⟩ := hp
  have G := g_wc hw G
  refine W.eq (g2 := F0 m 4 ls [.int (nI (ldN (rdOk tx (0, lt, ib, rw, cl, nu)) tn))]) rfl ?_
  exact g_iret C0 G ⟨by first | rfl | (exfalso; omega) | (simp only [Bool.false_eq_true, ↓reduceIte, eq_self, decide_true, decide_false, not_true_eq_false, not_false_eq_true, Bool.true_and, Bool.false_and, Bool.and_true, Bool.and_false]; done) | (simp []; done) | (simp []; rfl) | (simp []; omega), by first | rfl | (exfalso; omega) | (simp only [Bool.false_eq_true, ↓reduceIte, eq_self, decide_true, decide_false, not_true_eq_false, not_false_eq_true, Bool.true_and, Bool.false_and, Bool.and_true, Bool.and_false]; done) | (simp []; done) | (simp []; rfl) | (simp []; omega)⟩ dX4_firstError_4

set_option maxHeartbeats 4000000 in
set_option maxRecDepth 100000 in
theorem c_J8_newLength_cabcc (l : Launch) (D : va_G) (cy : Nat → ClassId) (W1 : va_W) (a1 : Nat) (b1 : Nat) (c1 : Nat) (h1 : 0 < a1) (h2 : a1 < 1000) (h3 : b1 < 1000) (h4 : c1 < 1000) : GE l D (gts cy) yJ8_newLength_cabcc cJ8_newLength_cabcc 4 (some .int) 0 0 0 [.int (nI a1), .int (nI b1), .int (nI c1)] (W1) (gF (some (.int (nI (nlN a1 b1 c1)))) (W1)) := by
  refine g_intro (by decide +kernel) (lv := [(0, .int (nI a1)), (1, .int (nI b1)), (2, .int (nI c1))]) rfl (Nat.le_of_ble_eq_true rfl) ?_
  intro p e s m below meth c C0 G ls hl
  have hx := C0.1
  have hb := C0.2.1
  have hown := C0.2.2.2.2.2.1
  have hts := C0.2.2.2.2.2.2.1
  refine lv_iload_n hx hb dJ8_newLength_cabcc_0 rfl (lv_at hl 0 rfl) ?_
  refine lv_iload_n hx hb dJ8_newLength_cabcc_1 rfl (lv_at hl 1 rfl) ?_
  refine lv_iload_n hx hb dJ8_newLength_cabcc_2 rfl (lv_at hl 2 rfl) ?_
  refine g_max (x1 := b1) (x2 := c1) C0 (by omega) (by omega) ml_J8_194 hl.1 (Nat.le_of_ble_eq_true rfl) ⟨Nat.le_of_ble_eq_true rfl, Nat.le_of_ble_eq_true rfl⟩ ⟨Nat.le_of_ble_eq_true rfl, Nat.le_of_ble_eq_true rfl⟩ dJ8_newLength_cabcc_3 ?_
  refine lv_iadd hx hb dJ8_newLength_cabcc_6 ?_
  refine g_topi (x' := nI (a1 + (if c1 ≤ b1 then b1 else c1))) (nI_add a1 (if c1 ≤ b1 then b1 else c1)) ?_
  refine g_topi (x' := nI (nlN a1 b1 c1)) (congrArg nI (by rfl)) ?_
  have hnl := nl_b a1 b1 c1
  refine lv_istore_n (lv' := [(3, .int (nI (nlN a1 b1 c1))), (0, .int (nI a1)), (1, .int (nI b1)), (2, .int (nI c1))]) hx hb dJ8_newLength_cabcc_7 rfl hl (by decide) rfl (fun ls hl => ?_)
  refine lv_iconst (v := 0) hx hb dJ8_newLength_cabcc_8 (by decide) ?_
  refine lv_iload_n hx hb dJ8_newLength_cabcc_9 rfl (lv_at hl 0 rfl) ?_
  refine lv_icmp_ge (tgt := 21) hx hb dJ8_newLength_cabcc_10 (by decide) (fun c_10 => ?_) (fun c_10 => ?_)
  · skip
    have c_10 : (nlN a1 b1 c1) ≤ 0 := (nI_leI (a := nlN a1 b1 c1) (b := 0) (by omega) (by omega)).mp c_10
    exact absurd c_10 (by omega)
  · skip
    have c_10 : ¬ ((nlN a1 b1 c1) ≤ 0) := fun h => c_10 ((nI_leI (a := nlN a1 b1 c1) (b := 0) (by omega) (by omega)).mpr h)
    refine lv_iload_n hx hb dJ8_newLength_cabcc_13 rfl (lv_at hl 0 rfl) ?_
    refine lv_ldc (v := (2147483639)) hx hb hown (hts _ ki_J8_200) dJ8_newLength_cabcc_14 ?_
    refine lv_icmp_gt (tgt := 21) hx hb dJ8_newLength_cabcc_16 (by decide) (fun c_16 => ?_) (fun c_16 => ?_)
    · skip
      have c_16 : 2147483639 < (nlN a1 b1 c1) := (nI_ltI (a := 2147483639) (b := nlN a1 b1 c1) (by omega) (by omega)).mp c_16
      exact absurd c_16 (by omega)
    · skip
      have c_16 : ¬ (2147483639 < (nlN a1 b1 c1)) := fun h => c_16 ((nI_ltI (a := 2147483639) (b := nlN a1 b1 c1) (by omega) (by omega)).mpr h)
      refine lv_iload_n hx hb dJ8_newLength_cabcc_19 rfl (lv_at hl 0 rfl) ?_
      exact g_iret C0 G ⟨by first | rfl | (exfalso; omega) | (simp only [c_10, c_16, Bool.false_eq_true, ↓reduceIte, eq_self, decide_true, decide_false, not_true_eq_false, not_false_eq_true, Bool.true_and, Bool.false_and, Bool.and_true, Bool.and_false]; done) | (simp [c_10, c_16]; done) | (simp [c_10, c_16]; rfl) | (simp [c_10, c_16]; omega), by first | rfl | (exfalso; omega) | (simp only [c_10, c_16, Bool.false_eq_true, ↓reduceIte, eq_self, decide_true, decide_false, not_true_eq_false, not_false_eq_true, Bool.true_and, Bool.false_and, Bool.and_true, Bool.and_false]; done) | (simp [c_10, c_16]; done) | (simp [c_10, c_16]; rfl) | (simp [c_10, c_16]; omega)⟩ dJ8_newLength_cabcc_20

set_option maxHeartbeats 4000000 in
set_option maxRecDepth 100000 in
theorem c_J5_newCapacity_0f7a4 (l : Launch) (D : va_G) (cy : Nat → ClassId) (ad : Nat → Nat) (fr : Nat → Int64) (bk : Nat → Int64) (vw : Nat → Nat) (tk : Int64) (to : Int64) (fk : Int64) (fo : Int64) (kp : Nat) (sp : Nat) (lt : Nat) (ib : Bool) (rw : Nat) (cl : Nat) (nu : Nat) (tv : Nat) (tm : Nat) (ta : Nat → Int32) (ml : Int32) (tn : Nat) (R : va_W) (a1 : Nat) (h1 : 0 < tm) (h2 : tm < a1) (h3 : a1 < 500) : GE l D (gts cy) yJ5_newCapacity_0f7a4 cJ5_newCapacity_0f7a4 6 (some .int) 1 0 0 [.ref (ad 7), .int (nI a1)] (wC ad cy fr bk vw tk to fk fo kp sp lt ib rw cl nu tv tm ta ml tn R) (gF (some (.int (nI (nlN tm (a1 - tm) (tm + 2))))) (wC ad cy fr bk vw tk to fk fo kp sp lt ib rw cl nu tv tm ta ml tn R)) := by
  refine g_intro (by decide +kernel) (lv := [(0, .ref (ad 7)), (1, .int (nI a1))]) rfl (Nat.le_of_ble_eq_true rfl) ?_
  intro p e s m below meth c C0 G ls hl
  have hx := C0.1
  have hb := C0.2.1
  have hown := C0.2.2.2.2.2.1
  have hts := C0.2.2.2.2.2.2.1
  refine lv_aload_n hx hb dJ5_newCapacity_0f7a4_0 rfl (lv_at hl 0 rfl) ?_
  refine g_get (q0 := 7) (v := .ref tv) C0 G in_J4 rfl rfl 0 (by decide) fl_J5_15 (fun _ h => h) rfl dJ5_newCapacity_0f7a4_1 ?_
  refine g_alen (q0 := 8) (v := nI tm) C0 G rfl 0 rfl rfl dJ5_newCapacity_0f7a4_4 ?_
  refine lv_istore_n (lv' := [(2, .int (nI tm)), (0, .ref (ad 7)), (1, .int (nI a1))]) hx hb dJ5_newCapacity_0f7a4_5 rfl hl (by decide) rfl (fun ls hl => ?_)
  refine lv_iload_n hx hb dJ5_newCapacity_0f7a4_6 rfl (lv_at hl 2 rfl) ?_
  refine lv_aload_n hx hb dJ5_newCapacity_0f7a4_7 rfl (lv_at hl 1 rfl) ?_
  refine g_get (q0 := 7) (v := .int 0) C0 G in_J4 rfl rfl 1 (by decide) fl_J5_22 (fun _ h => h) rfl dJ5_newCapacity_0f7a4_8 ?_
  refine lv_ishl hx hb dJ5_newCapacity_0f7a4_11 ?_
  refine g_topi (x' := nI a1) (shl0 _) ?_
  refine lv_istore_n (lv' := [(3, .int (nI a1)), (2, .int (nI tm)), (0, .ref (ad 7)), (1, .int (nI a1))]) hx hb dJ5_newCapacity_0f7a4_12 rfl hl (by decide) rfl (fun ls hl => ?_)
  refine lv_iload_n hx hb dJ5_newCapacity_0f7a4_13 rfl (lv_at hl 0 rfl) ?_
  refine lv_iload_n hx hb dJ5_newCapacity_0f7a4_14 rfl (lv_at hl 1 rfl) ?_
  refine lv_isub hx hb dJ5_newCapacity_0f7a4_15 ?_
  refine g_topi (x' := nI (a1 - tm)) (pk_sub (a := a1) (b := tm) (by omega)) ?_
  refine lv_istore (lv' := [(4, .int (nI (a1 - tm))), (3, .int (nI a1)), (2, .int (nI tm)), (0, .ref (ad 7)), (1, .int (nI a1))]) hx hb dJ5_newCapacity_0f7a4_16 hl (by decide) rfl (fun ls hl => ?_)
  refine lv_iload_n hx hb dJ5_newCapacity_0f7a4_18 rfl (lv_at hl 2 rfl) ?_
  refine lv_iload hx hb dJ5_newCapacity_0f7a4_19 (lv_at hl 0 rfl) ?_
  refine lv_iload_n hx hb dJ5_newCapacity_0f7a4_21 rfl (lv_at hl 2 rfl) ?_
  refine lv_iconst (v := 2) hx hb dJ5_newCapacity_0f7a4_22 (by decide) ?_
  refine lv_aload_n hx hb dJ5_newCapacity_0f7a4_23 rfl (lv_at hl 3 rfl) ?_
  refine g_get (q0 := 7) (v := .int 0) C0 G in_J4 rfl rfl 1 (by decide) fl_J5_22 (fun _ h => h) rfl dJ5_newCapacity_0f7a4_24 ?_
  refine lv_ishl hx hb dJ5_newCapacity_0f7a4_27 ?_
  refine g_topi (x' := nI 2) (shl0 2) ?_
  refine lv_iadd hx hb dJ5_newCapacity_0f7a4_28 ?_
  refine g_topi (x' := nI (tm + 2)) (nI_add tm 2) ?_
  refine g_callS (As := [.int (nI tm), .int (nI (a1 - tm)), .int (nI (tm + 2))]) (rest := []) C0 G (c_J8_newLength_cabcc l D cy (W1 := wC ad cy fr bk vw tk to fk fo kp sp lt ib rw cl nu tv tm ta ml tn R) (a1 := tm) (b1 := a1 - tm) (c1 := tm + 2) (by omega) (by omega) (by omega) (by omega)) k_J8_newLength_cabcc ml_J5_114 dJ5_newCapacity_0f7a4_29 rfl rfl hl.1 (Nat.le_of_ble_eq_true rfl) ⟨Nat.le_of_ble_eq_true rfl, Nat.le_of_ble_eq_true rfl⟩ ⟨Nat.le_of_ble_eq_true rfl, Nat.le_of_ble_eq_true rfl⟩ (fun r W2 H locs hp G => ?_)
  obtain ⟨rfl, hw⟩ := hp
  have G := g_wc hw G
  refine W.eq (g2 := F0 m 32 ls [.int (nI (nlN tm (a1 - tm) (tm + 2)))]) rfl ?_
  refine lv_istore (lv' := [(5, .int (nI (nlN tm (a1 - tm) (tm + 2)))), (4, .int (nI (a1 - tm))), (3, .int (nI a1)), (2, .int (nI tm)), (0, .ref (ad 7)), (1, .int (nI a1))]) hx hb dJ5_newCapacity_0f7a4_32 hl (by decide) rfl (fun ls hl => ?_)
  have hnl := nl_b tm (a1 - tm) (tm + 2)
  refine lv_iload hx hb dJ5_newCapacity_0f7a4_34 (lv_at hl 0 rfl) ?_
  refine lv_ldc (v := (2147483647)) hx hb hown (hts _ ki_J5_39) dJ5_newCapacity_0f7a4_36 ?_
  refine lv_icmp_ne (tgt := 51) hx hb dJ5_newCapacity_0f7a4_38 (by decide) (fun c_38 => ?_) (fun c_38 => ?_)
  · skip
    have c_38 : ¬ ((nlN tm (a1 - tm) (tm + 2)) = 2147483647) := fun h => c_38 ((nI_eq (a := nlN tm (a1 - tm) (tm + 2)) (b := 2147483647) (by omega) (by omega)).mpr h)
    refine lv_iload hx hb dJ5_newCapacity_0f7a4_51 (lv_at hl 0 rfl) ?_
    refine lv_aload_n hx hb dJ5_newCapacity_0f7a4_53 rfl (lv_at hl 4 rfl) ?_
    refine g_get (q0 := 7) (v := .int 0) C0 G in_J4 rfl rfl 1 (by decide) fl_J5_22 (fun _ h => h) rfl dJ5_newCapacity_0f7a4_54 ?_
    refine lv_ishr hx hb dJ5_newCapacity_0f7a4_57 ?_
    refine g_topi (x' := nI ((nlN tm (a1 - tm) (tm + 2)) / 2 ^ 0)) (shrN (a := nlN tm (a1 - tm) (tm + 2)) (n := 0) (by omega) (by omega)) ?_
    refine g_topi (x' := nI (nlN tm (a1 - tm) (tm + 2))) (congrArg nI (by omega)) ?_
    exact g_iret C0 G ⟨by first | rfl | (exfalso; omega) | (simp only [c_38, Bool.false_eq_true, ↓reduceIte, eq_self, decide_true, decide_false, not_true_eq_false, not_false_eq_true, Bool.true_and, Bool.false_and, Bool.and_true, Bool.and_false]; done) | (simp [c_38]; done) | (simp [c_38]; rfl) | (simp [c_38]; omega), by first | rfl | (exfalso; omega) | (simp only [c_38, Bool.false_eq_true, ↓reduceIte, eq_self, decide_true, decide_false, not_true_eq_false, not_false_eq_true, Bool.true_and, Bool.false_and, Bool.and_true, Bool.and_false]; done) | (simp [c_38]; done) | (simp [c_38]; rfl) | (simp [c_38]; omega)⟩ dJ5_newCapacity_0f7a4_58
  · skip
    have c_38 : (nlN tm (a1 - tm) (tm + 2)) = 2147483647 := (nI_eq (a := nlN tm (a1 - tm) (tm + 2)) (b := 2147483647) (by omega) (by omega)).mp c_38
    exact absurd c_38 (by omega)
