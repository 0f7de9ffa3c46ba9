set_option maxHeartbeats 4000000 in
set_option maxRecDepth 100000 in
theorem c_X0_become (l : Launch) (D : va_G) (cy : Nat → ClassId) (ad : Nat → Nat) (fr : Nat → Int64) (bk : Nat → Int64) (vw : Nat → Nat) (tk : Int64) (to : Int64) (fk : Int64) (fo : Int64) (kp : Nat) (sp : Nat) (lt : Nat) (ib : Bool) (rw : Nat) (cl : Nat) (nu : Nat) (tv : Nat) (tm : Nat) (ta : Nat → Int32) (ml : Int32) (tn : Nat) (R : va_W) (k : Nat) (o : Nat) (h1 : k < 21) (h2 : o < 21) : GE l D (gts cy) yX0_become cX0_become 2 none 0 0 0 [.ref (ad (10 + k)), .ref (ad (10 + o))] (wC ad cy fr bk vw tk to fk fo kp sp lt ib rw cl nu tv tm ta ml tn R) (gF none (wC ad cy (va_up fr k (fr o)) (va_up bk k (bk o)) (va_up vw k (vw o)) tk to fk fo kp sp lt ib rw cl nu tv tm ta ml tn R)) := by
  refine g_intro (by decide +kernel) (lv := [(0, .ref (ad (10 + k))), (1, .ref (ad (10 + o)))]) rfl (Nat.le_of_ble_eq_true rfl) ?_
  intro p e s m below meth c C0 G ls hl
  have hx := C0.1
  have hb := C0.2.1
  have hown := C0.2.2.2.2.2.1
  have hts := C0.2.2.2.2.2.2.1
  refine lv_aload_n hx hb dX0_become_0 rfl (lv_at hl 0 rfl) ?_
  refine lv_aload_n hx hb dX0_become_1 rfl (lv_at hl 1 rfl) ?_
  refine g_get (q0 := o + 9) (v := .long (fr o)) C0 G in_X0 (wC_at (k := o) (by omega)) rfl 0 (by decide) fl_X0_9 (fun _ h => h) rfl dX0_become_2 ?_
  refine g_put (q0 := k + 9) (W2 := wC ad cy (va_up fr k (fr o)) bk vw tk to fk fo kp sp lt ib rw cl nu tv tm ta ml tn R) C0 G ft_X0 in_X0 (wC_at (k := k) (by omega)) rfl 0 (by decide) fl_X0_9 (fun _ h => h) rfl rfl rfl (Nat.le_of_ble_eq_true rfl) (wC_set (k := k) (by omega) rfl (va_up_s _ _) (va_up_s _ _)) dX0_become_5 (fun H locs G => ?_)
  refine lv_aload_n hx hb dX0_become_8 rfl (lv_at hl 0 rfl) ?_
  refine lv_aload_n hx hb dX0_become_9 rfl (lv_at hl 1 rfl) ?_
  refine g_get (q0 := o + 9) (v := .long (bk o)) C0 G in_X0 (wC_at (k := o) (by omega)) rfl 1 (by decide) fl_X0_15 (fun _ h => h) rfl dX0_become_10 ?_
  refine g_put (q0 := k + 9) (W2 := wC ad cy (va_up fr k (fr o)) (va_up bk k (bk o)) vw tk to fk fo kp sp lt ib rw cl nu tv tm ta ml tn R) C0 G ft_X0 in_X0 (wC_at (k := k) (by omega)) rfl 1 (by decide) fl_X0_15 (fun _ h => h) rfl rfl rfl (Nat.le_of_ble_eq_true rfl) (wC_set (k := k) (by omega) (va_up_s _ _) rfl (va_up_s _ _)) dX0_become_13 (fun H locs G => ?_)
  refine lv_aload_n hx hb dX0_become_16 rfl (lv_at hl 0 rfl) ?_
  refine lv_aload_n hx hb dX0_become_17 rfl (lv_at hl 1 rfl) ?_
  refine g_get (q0 := o + 9) (v := .int (nI (vw o))) C0 G in_X0 (wC_at (k := o) (by omega)) rfl 2 (by decide) fl_X0_18 (fun _ h => h) rfl dX0_become_18 ?_
  refine g_put (q0 := k + 9) (W2 := wC ad cy (va_up fr k (fr o)) (va_up bk k (bk o)) (va_up vw k (vw o)) tk to fk fo kp sp lt ib rw cl nu tv tm ta ml tn R) C0 G ft_X0 in_X0 (wC_at (k := k) (by omega)) rfl 2 (by decide) fl_X0_18 (fun _ h => h) rfl rfl rfl (Nat.le_of_ble_eq_true rfl) (wC_set (k := k) (by omega) (va_up_s _ _) (va_up_s _ _) rfl) dX0_become_21 (fun H locs G => ?_)
  exact g_vret C0 G ⟨by first | rfl | (exfalso; omega) | (simp only [Bool.false_eq_true, ↓reduceIte, eq_self, decide_true, decide_false, not_true_eq_false, not_false_eq_true, Bool.true_and, Bool.false_and, Bool.and_true, Bool.and_false]; done) | (simp []; done) | (simp []; rfl) | (simp []; omega), by first | rfl | (exfalso; omega) | (simp only [Bool.false_eq_true, ↓reduceIte, eq_self, decide_true, decide_false, not_true_eq_false, not_false_eq_true, Bool.true_and, Bool.false_and, Bool.and_true, Bool.and_false]; done) | (simp []; done) | (simp []; rfl) | (simp []; omega)⟩ dX0_become_24

set_option maxHeartbeats 4000000 in
set_option maxRecDepth 100000 in
theorem c_X1_discardOldest (l : Launch) (D : va_G) (cy : Nat → ClassId) (ad : Nat → Nat) (fr : Nat → Int64) (bk : Nat → Int64) (vw : Nat → Nat) (tk : Int64) (to : Int64) (fk : Int64) (fo : Int64) (kp : Nat) (sp : Nat) (lt : Nat) (ib : Bool) (rw : Nat) (cl : Nat) (nu : Nat) (tv : Nat) (tm : Nat) (ta : Nat → Int32) (ml : Int32) (tn : Nat) (R : va_W)  (h1 : 0 < kp) : GE l D (gts cy) yX1_discardOldest cX1_discardOldest 2 none 1 0 0 [.ref (ad 4)] (wC ad cy fr bk vw tk to fk fo kp sp lt ib rw cl nu tv tm ta ml tn R) (gF none (wC ad cy (dcU fr 15) (dcU bk 15) (dcU vw 15) tk to fk fo (kp - 1) sp lt ib rw cl nu tv tm ta ml tn R)) := by
  refine g_intro (by decide +kernel) (lv := [(0, .ref (ad 4))]) rfl (Nat.le_of_ble_eq_true rfl) ?_
  intro p e s m below meth c C0 G ls hl
  have hx := C0.1
  have hb := C0.2.1
  have hown := C0.2.2.2.2.2.1
  have hts := C0.2.2.2.2.2.2.1
  refine lv_iconst (v := 0) hx hb dX1_discardOldest_0 (by decide) ?_
  refine lv_istore_n (lv' := [(1, .int 0), (0, .ref (ad 4))]) hx hb dX1_discardOldest_1 rfl hl (by decide) rfl (fun ls hl => ?_)
  have hl := lv_sub hl (l' := [(0, .ref (ad 4)), (1, .int 0)]) [1, 0] rfl
  refine g_loop (σ := Nat) (fun i => 15 - i) (fun i => wC ad cy (dcU fr i) (dcU bk i) (dcU vw i) tk to fk fo kp sp lt ib rw cl nu tv tm ta ml tn R) (fun i => [(0, .ref (ad 4)), (1, .int (nI i))]) (fun i => i ≤ 15) ?_ 0 (by show _ ≤ _; omega) G hl
  intro i hi_2 ih_2 H locs ls G hl
  have G : gW D (wC ad cy (dcU fr i) (dcU bk i) (dcU vw i) tk to fk fo kp sp lt ib rw cl nu tv tm ta ml tn R) (va_A (wC ad cy fr bk vw tk to fk fo kp sp lt ib rw cl nu tv tm ta ml tn R) s.heap.size) s H locs := G
  have hl : lv_has ls 2 [(0, .ref (ad 4)), (1, .int (nI i))] := hl
  refine lv_iload_n hx hb dX1_discardOldest_2 rfl (lv_at hl 1 rfl) ?_
  refine lv_iconst (v := 3) hx hb dX1_discardOldest_3 (by decide) ?_
  refine lv_iadd hx hb dX1_discardOldest_4 ?_
  refine g_topi (x' := nI (i + 3)) (nI_add i 3) ?_
  refine lv_aload_n hx hb dX1_discardOldest_5 rfl (lv_at hl 0 rfl) ?_
  refine g_get (q0 := 4) (v := .ref (ad 5)) C0 G in_X1 rfl rfl 0 (by decide) fl_X1_11 (fun _ h => h) rfl dX1_discardOldest_6 ?_
  refine g_alen (q0 := 5) (v := 18) C0 G rfl 1 rfl rfl dX1_discardOldest_9 ?_
  refine lv_icmp_ge (tgt := 36) hx hb dX1_discardOldest_10 (by decide) (fun c_10 => ?_) (fun c_10 => ?_)
  · skip
    have c_10 : 18 ≤ (i + 3) := (nI_leI (a := 18) (b := i + 3) (by omega) (by omega)).mp c_10
    obtain rfl : i = 15 := by omega
    have G : gW D (wC ad cy (dcU fr 15) (dcU bk 15) (dcU vw 15) tk to fk fo kp sp lt ib rw cl nu tv tm ta ml tn R) (va_A (wC ad cy fr bk vw tk to fk fo kp sp lt ib rw cl nu tv tm ta ml tn R) s.heap.size) s _ _ := G
    have hl : lv_has ls 2 [(0, .ref (ad 4)), (1, .int (nI 15))] := hl
    refine lv_aload_n hx hb dX1_discardOldest_36 rfl (lv_at hl 0 rfl) ?_
    refine lv_dup hx hb dX1_discardOldest_37 rfl ?_
    refine g_get (q0 := 4) (v := .int (nI kp)) C0 G in_X1 rfl rfl 1 (by decide) fl_X1_18 (fun _ h => h) rfl dX1_discardOldest_38 ?_
    refine lv_iconst (v := 1) hx hb dX1_discardOldest_41 (by decide) ?_
    refine lv_isub hx hb dX1_discardOldest_42 ?_
    refine g_topi (x' := nI (kp - 1)) (pk_sub (a := kp) (b := 1) (by omega)) ?_
    refine g_put (q0 := 4) (W2 := wC ad cy (dcU fr 15) (dcU bk 15) (dcU vw 15) tk to fk fo (kp - 1) sp lt ib rw cl nu tv tm ta ml tn R) C0 G ft_X1 in_X1 rfl rfl 1 (by decide) fl_X1_18 (fun _ h => h) rfl rfl rfl (Nat.le_of_ble_eq_true rfl) rfl dX1_discardOldest_43 (fun H locs G => ?_)
    exact g_vret C0 G ⟨by first | rfl | (exfalso; omega) | (simp only [c_10, Bool.false_eq_true, ↓reduceIte, eq_self, decide_true, decide_false, not_true_eq_false, not_false_eq_true, Bool.true_and, Bool.false_and, Bool.and_true, Bool.and_false]; done) | (simp [c_10]; done) | (simp [c_10]; rfl) | (simp [c_10]; omega), by first | rfl | (exfalso; omega) | (simp only [c_10, Bool.false_eq_true, ↓reduceIte, eq_self, decide_true, decide_false, not_true_eq_false, not_false_eq_true, Bool.true_and, Bool.false_and, Bool.and_true, Bool.and_false]; done) | (simp [c_10]; done) | (simp [c_10]; rfl) | (simp [c_10]; omega)⟩ dX1_discardOldest_46
  · skip
    have c_10 : ¬ (18 ≤ (i + 3)) := fun h => c_10 ((nI_leI (a := 18) (b := i + 3) (by omega) (by omega)).mpr h)
    refine lv_aload_n hx hb dX1_discardOldest_13 rfl (lv_at hl 0 rfl) ?_
    refine g_get (q0 := 4) (v := .ref (ad 5)) C0 G in_X1 rfl rfl 0 (by decide) fl_X1_11 (fun _ h => h) rfl dX1_discardOldest_14 ?_
    refine lv_iload_n hx hb dX1_discardOldest_17 rfl (lv_at hl 1 rfl) ?_
    refine g_aldq (q0 := 5) (n := 18) C0 G rfl 1 rfl (vp_in_nI (n := i) (by omega) (by decide)) dX1_discardOldest_18 ?_
    refine g_topv (x' := .ref (ad (10 + (3 + i)))) (congrArg (fun z => va_rf ((fun j => some (ad (10 + (3 + j)))) z)) (nI_clamp (n := i) (by omega))) ?_
    refine lv_aload_n hx hb dX1_discardOldest_19 rfl (lv_at hl 0 rfl) ?_
    refine g_get (q0 := 4) (v := .ref (ad 5)) C0 G in_X1 rfl rfl 0 (by decide) fl_X1_11 (fun _ h => h) rfl dX1_discardOldest_20 ?_
    refine lv_iload_n hx hb dX1_discardOldest_23 rfl (lv_at hl 1 rfl) ?_
    refine lv_iconst (v := 3) hx hb dX1_discardOldest_24 (by decide) ?_
    refine lv_iadd hx hb dX1_discardOldest_25 ?_
    refine g_topi (x' := nI (i + 3)) (nI_add i 3) ?_
    refine g_aldq (q0 := 5) (n := 18) C0 G rfl 1 rfl (vp_in_nI (n := i + 3) (by omega) (by decide)) dX1_discardOldest_26 ?_
    refine g_topv (x' := .ref (ad (10 + (3 + (i + 3))))) (congrArg (fun z => va_rf ((fun j => some (ad (10 + (3 + j)))) z)) (nI_clamp (n := i + 3) (by omega))) ?_
    refine g_callVN (As := [.ref (ad (10 + (3 + (i + 3))))]) (rest := []) (q0 := (3 + i) + 9) C0 G (c_X0_become l D cy (ad := ad) (fr := dcU fr i) (bk := dcU bk i) (vw := dcU vw i) (tk := tk) (to := to) (fk := fk) (fo := fo) (kp := kp) (sp := sp) (lt := lt) (ib := ib) (rw := rw) (cl := cl) (nu := nu) (tv := tv) (tm := tm) (ta := ta) (ml := ml) (tn := tn) (R := R) (k := (3 + i)) (o := (3 + (i + 3))) (by omega) (by omega)) k_X0_become nm_X1_25 (wC_at (k := (3 + i)) (by omega)) rfl dX1_discardOldest_27 rfl rfl hl.1 (Nat.le_of_ble_eq_true rfl) ⟨Nat.le_of_ble_eq_true rfl, Nat.le_of_ble_eq_true rfl⟩ ⟨Nat.le_of_ble_eq_true rfl, Nat.le_of_ble_eq_true rfl⟩ (fun r W2 H locs hp G => ?_)
    obtain ⟨rfl, hw⟩ := hp
    have G := g_wc hw G
    refine W.eq (g2 := F0 m 30 ls []) rfl ?_
    refine lv_iinc (v := nI (i + 1)) (lv' := [(1, .int (nI (i + 1))), (0, .ref (ad 4))]) hx hb dX1_discardOldest_30 hl (k := 1) rfl (nI_add i 1) (by decide) rfl (fun ls hl => ?_)
    refine lv_goto (tgt := 2) hx hb dX1_discardOldest_33 (by decide) ?_
    have hl := lv_sub hl (l' := _) [1, 0] rfl
    exact ih_2 (i + 1) (by show _ ≤ _; omega) (by show _ < _; omega) _ _ _ G hl

set_option maxHeartbeats 4000000 in
set_option maxRecDepth 100000 in
theorem c_X1_save (l : Launch) (D : va_G) (cy : Nat → ClassId) (ad : Nat → Nat) (fr : Nat → Int64) (bk : Nat → Int64) (vw : Nat → Nat) (tk : Int64) (to : Int64) (fk : Int64) (fo : Int64) (kp : Nat) (sp : Nat) (lt : Nat) (ib : Bool) (rw : Nat) (cl : Nat) (nu : Nat) (tv : Nat) (tm : Nat) (ta : Nat → Int32) (ml : Int32) (tn : Nat) (R : va_W)  (h1 : kp ≤ 6) : GE l D (gts cy) yX1_save cX1_save 4 none 2 0 0 [.ref (ad 4), .ref (ad 1)] (wC ad cy fr bk vw tk to fk fo kp sp lt ib rw cl nu tv tm ta ml tn R) (gF none (wC ad cy (saU fr kp) (saU bk kp) (saU vw kp) tk to fk fo (saK kp) sp lt ib rw cl nu tv tm ta ml tn R)) := by
  refine g_intro (by decide +kernel) (lv := [(0, .ref (ad 4)), (1, .ref (ad 1))]) rfl (Nat.le_of_ble_eq_true rfl) ?_
  intro p e s m below meth c C0 G ls hl
  have hx := C0.1
  have hb := C0.2.1
  have hown := C0.2.2.2.2.2.1
  have hts := C0.2.2.2.2.2.2.1
  refine lv_aload_n hx hb dX1_save_0 rfl (lv_at hl 0 rfl) ?_
  refine g_get (q0 := 4) (v := .int (nI kp)) C0 G in_X1 rfl rfl 1 (by decide) fl_X1_18 (fun _ h => h) rfl dX1_save_1 ?_
  refine lv_bipush (v := 6) hx hb dX1_save_4 (by decide) ?_
  refine lv_icmp_lt (tgt := 13) hx hb dX1_save_6 (by decide) (fun c_6 => ?_) (fun c_6 => ?_)
  · skip
    have c_6 : kp < 6 := (nI_ltI (a := kp) (b := 6) (by omega) (by omega)).mp c_6
    refine lv_aload_n hx hb dX1_save_13 rfl (lv_at hl 0 rfl) ?_
    refine g_get (q0 := 4) (v := .int (nI kp)) C0 G in_X1 rfl rfl 1 (by decide) fl_X1_18 (fun _ h => h) rfl dX1_save_14 ?_
    refine lv_iconst (v := 3) hx hb dX1_save_17 (by decide) ?_
    refine lv_imul hx hb dX1_save_18 ?_
    refine g_topi (x' := nI (kp * 3)) (pk_mul kp 3) ?_
    refine lv_istore_n (lv' := [(2, .int (nI (kp * 3))), (0, .ref (ad 4)), (1, .ref (ad 1))]) hx hb dX1_save_19 rfl hl (by decide) rfl (fun ls hl => ?_)
    refine lv_iconst (v := 0) hx hb dX1_save_20 (by decide) ?_
    refine lv_istore_n (lv' := [(3, .int 0), (2, .int (nI (kp * 3))), (0, .ref (ad 4)), (1, .ref (ad 1))]) hx hb dX1_save_21 rfl hl (by decide) rfl (fun ls hl => ?_)
    have hl := lv_sub hl (l' := [(0, .ref (ad 4)), (1, .ref (ad 1)), (2, .int (nI (kp * 3))), (3, .int 0)]) [2, 3, 1, 0] rfl
    refine g_loop (σ := Nat) (fun i => 3 - i) (fun i => wC ad cy (svU fr (kp * 3) i) (svU bk (kp * 3) i) (svU vw (kp * 3) i) tk to fk fo kp sp lt ib rw cl nu tv tm ta ml tn R) (fun i => [(0, .ref (ad 4)), (1, .ref (ad 1)), (2, .int (nI (kp * 3))), (3, .int (nI i))]) (fun i => i ≤ 3) ?_ 0 (by show _ ≤ _; omega) G hl
    intro i hi_22 ih_22 H locs ls G hl
    have G : gW D (wC ad cy (svU fr (kp * 3) i) (svU bk (kp * 3) i) (svU vw (kp * 3) i) tk to fk fo kp sp lt ib rw cl nu tv tm ta ml tn R) (va_A (wC ad cy fr bk vw tk to fk fo kp sp lt ib rw cl nu tv tm ta ml tn R) s.heap.size) s H locs := G
    have hl : lv_has ls 4 [(0, .ref (ad 4)), (1, .ref (ad 1)), (2, .int (nI (kp * 3))), (3, .int (nI i))] := hl
    refine lv_iload_n hx hb dX1_save_22 rfl (lv_at hl 3 rfl) ?_
    refine lv_aload_n hx hb dX1_save_23 rfl (lv_at hl 1 rfl) ?_
    refine g_alen (q0 := 1) (v := 3) C0 G rfl 1 rfl rfl dX1_save_24 ?_
    refine lv_icmp_ge (tgt := 59) hx hb dX1_save_25 (by decide) (fun c_25 => ?_) (fun c_25 => ?_)
    · skip
      have c_25 : 3 ≤ i := (nI_leI (a := 3) (b := i) (by omega) (by omega)).mp c_25
      obtain rfl : i = 3 := by omega
      have G : gW D (wC ad cy (svU fr (kp * 3) 3) (svU bk (kp * 3) 3) (svU vw (kp * 3) 3) tk to fk fo kp sp lt ib rw cl nu tv tm ta ml tn R) (va_A (wC ad cy fr bk vw tk to fk fo kp sp lt ib rw cl nu tv tm ta ml tn R) s.heap.size) s _ _ := G
      have hl : lv_has ls 4 [(0, .ref (ad 4)), (1, .ref (ad 1)), (2, .int (nI (kp * 3))), (3, .int (nI 3))] := hl
      refine lv_aload_n hx hb dX1_save_59 rfl (lv_at hl 0 rfl) ?_
      refine lv_dup hx hb dX1_save_60 rfl ?_
      refine g_get (q0 := 4) (v := .int (nI kp)) C0 G in_X1 rfl rfl 1 (by decide) fl_X1_18 (fun _ h => h) rfl dX1_save_61 ?_
      refine lv_iconst (v := 1) hx hb dX1_save_64 (by decide) ?_
      refine lv_iadd hx hb dX1_save_65 ?_
      refine g_topi (x' := nI (kp + 1)) (nI_add kp 1) ?_
      refine g_put (q0 := 4) (W2 := wC ad cy (svU fr (kp * 3) 3) (svU bk (kp * 3) 3) (svU vw (kp * 3) 3) tk to fk fo (kp + 1) sp lt ib rw cl nu tv tm ta ml tn R) C0 G ft_X1 in_X1 rfl rfl 1 (by decide) fl_X1_18 (fun _ h => h) rfl rfl rfl (Nat.le_of_ble_eq_true rfl) rfl dX1_save_66 (fun H locs G => ?_)
      exact g_vret C0 G ⟨by first | rfl | (exfalso; omega) | (simp only [saU, saK, c_6, c_25, Bool.false_eq_true, ↓reduceIte, eq_self, decide_true, decide_false, not_true_eq_false, not_false_eq_true, Bool.true_and, Bool.false_and, Bool.and_true, Bool.and_false]; done) | (simp [saU, saK, c_6, c_25]; done) | (simp [saU, saK, c_6, c_25]; rfl) | (simp [saU, saK, c_6, c_25]; omega), by first | rfl | (exfalso; omega) | (simp only [saU, saK, c_6, c_25, Bool.false_eq_true, ↓reduceIte, eq_self, decide_true, decide_false, not_true_eq_false, not_false_eq_true, Bool.true_and, Bool.false_and, Bool.and_true, Bool.and_false]; done) | (simp [saU, saK, c_6, c_25]; done) | (simp [saU, saK, c_6, c_25]; rfl) | (simp [saU, saK, c_6, c_25]; omega)⟩ dX1_save_69
    · skip
      have c_25 : ¬ (3 ≤ i) := fun h => c_25 ((nI_leI (a := 3) (b := i) (by omega) (by omega)).mpr h)
      refine lv_iload_n hx hb dX1_save_28 rfl (lv_at hl 2 rfl) ?_
      refine lv_iload_n hx hb dX1_save_29 rfl (lv_at hl 3 rfl) ?_
      refine lv_iadd hx hb dX1_save_30 ?_
      refine g_topi (x' := nI ((kp * 3) + i)) (nI_add (kp * 3) i) ?_
      refine lv_aload_n hx hb dX1_save_31 rfl (lv_at hl 0 rfl) ?_
      refine g_get (q0 := 4) (v := .ref (ad 5)) C0 G in_X1 rfl rfl 0 (by decide) fl_X1_11 (fun _ h => h) rfl dX1_save_32 ?_
      refine g_alen (q0 := 5) (v := 18) C0 G rfl 1 rfl rfl dX1_save_35 ?_
      refine lv_icmp_ge (tgt := 59) hx hb dX1_save_36 (by decide) (fun c_36 => ?_) (fun c_36 => ?_)
      · skip
        have c_36 : 18 ≤ ((kp * 3) + i) := (nI_leI (a := 18) (b := (kp * 3) + i) (by omega) (by omega)).mp c_36
        exact absurd c_36 (by omega)
      · skip
        have c_36 : ¬ (18 ≤ ((kp * 3) + i)) := fun h => c_36 ((nI_leI (a := 18) (b := (kp * 3) + i) (by omega) (by omega)).mpr h)
        refine lv_aload_n hx hb dX1_save_39 rfl (lv_at hl 0 rfl) ?_
        refine g_get (q0 := 4) (v := .ref (ad 5)) C0 G in_X1 rfl rfl 0 (by decide) fl_X1_11 (fun _ h => h) rfl dX1_save_40 ?_
        refine lv_iload_n hx hb dX1_save_43 rfl (lv_at hl 2 rfl) ?_
        refine lv_iload_n hx hb dX1_save_44 rfl (lv_at hl 3 rfl) ?_
        refine lv_iadd hx hb dX1_save_45 ?_
        refine g_topi (x' := nI ((kp * 3) + i)) (nI_add (kp * 3) i) ?_
        refine g_aldq (q0 := 5) (n := 18) C0 G rfl 1 rfl (vp_in_nI (n := (kp * 3) + i) (by omega) (by decide)) dX1_save_46 ?_
        refine g_topv (x' := .ref (ad (10 + (3 + ((kp * 3) + i))))) (congrArg (fun z => va_rf ((fun j => some (ad (10 + (3 + j)))) z)) (nI_clamp (n := (kp * 3) + i) (by omega))) ?_
        refine lv_aload_n hx hb dX1_save_47 rfl (lv_at hl 1 rfl) ?_
        refine lv_iload_n hx hb dX1_save_48 rfl (lv_at hl 3 rfl) ?_
        refine g_aldq (q0 := 1) (n := 3) C0 G rfl 1 rfl (vp_in_nI (n := i) (by omega) (by decide)) dX1_save_49 ?_
        refine g_topv (x' := .ref (ad (10 + i))) (congrArg (fun z => va_rf ((fun j => some (ad (10 + j))) z)) (nI_clamp (n := i) (by omega))) ?_
        refine g_callVN (As := [.ref (ad (10 + i))]) (rest := []) (q0 := (3 + ((kp * 3) + i)) + 9) C0 G (c_X0_become l D cy (ad := ad) (fr := svU fr (kp * 3) i) (bk := svU bk (kp * 3) i) (vw := svU vw (kp * 3) i) (tk := tk) (to := to) (fk := fk) (fo := fo) (kp := kp) (sp := sp) (lt := lt) (ib := ib) (rw := rw) (cl := cl) (nu := nu) (tv := tv) (tm := tm) (ta := ta) (ml := ml) (tn := tn) (R := R) (k := (3 + ((kp * 3) + i))) (o := i) (by omega) (by omega)) k_X0_become nm_X1_25 (wC_at (k := (3 + ((kp * 3) + i))) (by omega)) rfl dX1_save_50 rfl rfl hl.1 (Nat.le_of_ble_eq_true rfl) ⟨Nat.le_of_ble_eq_true rfl, Nat.le_of_ble_eq_true rfl⟩ ⟨Nat.le_of_ble_eq_true rfl, Nat.le_of_ble_eq_true rfl⟩ (fun r W2 H locs hp G => ?_)
        obtain ⟨rfl, hw⟩ := hp
        have G := g_wc hw G
        refine W.eq (g2 := F0 m 53 ls []) rfl ?_
        refine lv_iinc (v := nI (i + 1)) (lv' := [(3, .int (nI (i + 1))), (0, .ref (ad 4)), (1, .ref (ad 1)), (2, .int (nI (kp * 3)))]) hx hb dX1_save_53 hl (k := 3) rfl (nI_add i 1) (by decide) rfl (fun ls hl => ?_)
        refine lv_goto (tgt := 22) hx hb dX1_save_56 (by decide) ?_
        have hl := lv_sub hl (l' := _) [1, 2, 3, 0] rfl
        exact ih_22 (i + 1) (by show _ ≤ _; omega) (by show _ < _; omega) _ _ _ G hl
  · skip
    have c_6 : ¬ (kp < 6) := fun h => c_6 ((nI_ltI (a := kp) (b := 6) (by omega) (by omega)).mpr h)
    obtain rfl : kp = 6 := by omega
    have G : gW D (wC ad cy fr bk vw tk to fk fo 6 sp lt ib rw cl nu tv tm ta ml tn R) (va_A (wC ad cy fr bk vw tk to fk fo 6 sp lt ib rw cl nu tv tm ta ml tn R) s.heap.size) s _ _ := G
    have hl : lv_has ls 4 [(0, .ref (ad 4)), (1, .ref (ad 1))] := hl
    refine lv_aload_n hx hb dX1_save_9 rfl (lv_at hl 0 rfl) ?_
    refine g_callV (As := []) (rest := []) (q0 := 4) C0 G (c_X1_discardOldest l D cy (ad := ad) (fr := fr) (bk := bk) (vw := vw) (tk := tk) (to := to) (fk := fk) (fo := fo) (kp := 6) (sp := sp) (lt := lt) (ib := ib) (rw := rw) (cl := cl) (nu := nu) (tv := tv) (tm := tm) (ta := ta) (ml := ml) (tn := tn) (R := R)  (by omega)) k_X1_discardOldest ml_X1_22 rfl rfl dX1_save_10 rfl rfl hl.1 (Nat.le_of_ble_eq_true rfl) ⟨Nat.le_of_ble_eq_true rfl, Nat.le_of_ble_eq_true rfl⟩ ⟨Nat.le_of_ble_eq_true rfl, Nat.le_of_ble_eq_true rfl⟩ (fun r W2 H locs hp G => ?_)
    obtain ⟨rfl, hw⟩ := hp
    have G := g_wc hw G
    refine W.eq (g2 := F0 m 13 ls []) rfl ?_
    refine lv_aload_n hx hb dX1_save_13 rfl (lv_at hl 0 rfl) ?_
    refine g_get (q0 := 4) (v := .int (nI (6 - 1))) C0 G in_X1 rfl rfl 1 (by decide) fl_X1_18 (fun _ h => h) rfl dX1_save_14 ?_
    refine lv_iconst (v := 3) hx hb dX1_save_17 (by decide) ?_
    refine lv_imul hx hb dX1_save_18 ?_
    refine g_topi (x' := nI ((6 - 1) * 3)) (pk_mul (6 - 1) 3) ?_
    refine lv_istore_n (lv' := [(2, .int (nI ((6 - 1) * 3))), (0, .ref (ad 4)), (1, .ref (ad 1))]) hx hb dX1_save_19 rfl hl (by decide) rfl (fun ls hl => ?_)
    refine lv_iconst (v := 0) hx hb dX1_save_20 (by decide) ?_
    refine lv_istore_n (lv' := [(3, .int 0), (2, .int (nI ((6 - 1) * 3))), (0, .ref (ad 4)), (1, .ref (ad 1))]) hx hb dX1_save_21 rfl hl (by decide) rfl (fun ls hl => ?_)
    have hl := lv_sub hl (l' := [(0, .ref (ad 4)), (1, .ref (ad 1)), (2, .int (nI ((6 - 1) * 3))), (3, .int 0)]) [2, 3, 1, 0] rfl
    refine g_loop (σ := Nat) (fun i => 3 - i) (fun i => wC ad cy (svU (dcU fr 15) ((6 - 1) * 3) i) (svU (dcU bk 15) ((6 - 1) * 3) i) (svU (dcU vw 15) ((6 - 1) * 3) i) tk to fk fo (6 - 1) sp lt ib rw cl nu tv tm ta ml tn R) (fun i => [(0, .ref (ad 4)), (1, .ref (ad 1)), (2, .int (nI ((6 - 1) * 3))), (3, .int (nI i))]) (fun i => i ≤ 3) ?_ 0 (by show _ ≤ _; omega) G hl
    intro i hi_22 ih_22 H locs ls G hl
    have G : gW D (wC ad cy (svU (dcU fr 15) ((6 - 1) * 3) i) (svU (dcU bk 15) ((6 - 1) * 3) i) (svU (dcU vw 15) ((6 - 1) * 3) i) tk to fk fo (6 - 1) sp lt ib rw cl nu tv tm ta ml tn R) (va_A (wC ad cy fr bk vw tk to fk fo 6 sp lt ib rw cl nu tv tm ta ml tn R) s.heap.size) s H locs := G
    have hl : lv_has ls 4 [(0, .ref (ad 4)), (1, .ref (ad 1)), (2, .int (nI ((6 - 1) * 3))), (3, .int (nI i))] := hl
    refine lv_iload_n hx hb dX1_save_22 rfl (lv_at hl 3 rfl) ?_
    refine lv_aload_n hx hb dX1_save_23 rfl (lv_at hl 1 rfl) ?_
    refine g_alen (q0 := 1) (v := 3) C0 G rfl 1 rfl rfl dX1_save_24 ?_
    refine lv_icmp_ge (tgt := 59) hx hb dX1_save_25 (by decide) (fun c_25 => ?_) (fun c_25 => ?_)
    · skip
      have c_25 : 3 ≤ i := (nI_leI (a := 3) (b := i) (by omega) (by omega)).mp c_25
      obtain rfl : i = 3 := by omega
      have G : gW D (wC ad cy (svU (dcU fr 15) ((6 - 1) * 3) 3) (svU (dcU bk 15) ((6 - 1) * 3) 3) (svU (dcU vw 15) ((6 - 1) * 3) 3) tk to fk fo (6 - 1) sp lt ib rw cl nu tv tm ta ml tn R) (va_A (wC ad cy fr bk vw tk to fk fo 6 sp lt ib rw cl nu tv tm ta ml tn R) s.heap.size) s _ _ := G
      have hl : lv_has ls 4 [(0, .ref (ad 4)), (1, .ref (ad 1)), (2, .int (nI ((6 - 1) * 3))), (3, .int (nI 3))] := hl
      refine lv_aload_n hx hb dX1_save_59 rfl (lv_at hl 0 rfl) ?_
      refine lv_dup hx hb dX1_save_60 rfl ?_
      refine g_get (q0 := 4) (v := .int (nI (6 - 1))) C0 G in_X1 rfl rfl 1 (by decide) fl_X1_18 (fun _ h => h) rfl dX1_save_61 ?_
      refine lv_iconst (v := 1) hx hb dX1_save_64 (by decide) ?_
      refine lv_iadd hx hb dX1_save_65 ?_
      refine g_topi (x' := nI ((6 - 1) + 1)) (nI_add (6 - 1) 1) ?_
      refine g_put (q0 := 4) (W2 := wC ad cy (svU (dcU fr 15) ((6 - 1) * 3) 3) (svU (dcU bk 15) ((6 - 1) * 3) 3) (svU (dcU vw 15) ((6 - 1) * 3) 3) tk to fk fo ((6 - 1) + 1) sp lt ib rw cl nu tv tm ta ml tn R) C0 G ft_X1 in_X1 rfl rfl 1 (by decide) fl_X1_18 (fun _ h => h) rfl rfl rfl (Nat.le_of_ble_eq_true rfl) rfl dX1_save_66 (fun H locs G => ?_)
      exact g_vret C0 G ⟨by first | rfl | (exfalso; omega) | (simp only [saU, saK, c_6, c_25, Bool.false_eq_true, ↓reduceIte, eq_self, decide_true, decide_false, not_true_eq_false, not_false_eq_true, Bool.true_and, Bool.false_and, Bool.and_true, Bool.and_false]; done) | (simp [saU, saK, c_6, c_25]; done) | (simp [saU, saK, c_6, c_25]; rfl) | (simp [saU, saK, c_6, c_25]; omega), by first | rfl | (exfalso; omega) | (simp only [saU, saK, c_6, c_25, Bool.false_eq_true, ↓reduceIte, eq_self, decide_true, decide_false, not_true_eq_false, not_false_eq_true, Bool.true_and, Bool.false_and, Bool.and_true, Bool.and_false]; done) | (simp [saU, saK, c_6, c_25]; done) | (simp [saU, saK, c_6, c_25]; rfl) | (simp [saU, saK, c_6, c_25]; omega)⟩ dX1_save_69
    · skip
      have c_25 : ¬ (3 ≤ i) := fun h => c_25 ((nI_leI (a := 3) (b := i) (by omega) (by omega)).mpr h)
      refine lv_iload_n hx hb dX1_save_28 rfl (lv_at hl 2 rfl) ?_
      refine lv_iload_n hx hb dX1_save_29 rfl (lv_at hl 3 rfl) ?_
      refine lv_iadd hx hb dX1_save_30 ?_
      refine g_topi (x' := nI (((6 - 1) * 3) + i)) (nI_add ((6 - 1) * 3) i) ?_
      refine lv_aload_n hx hb dX1_save_31 rfl (lv_at hl 0 rfl) ?_
      refine g_get (q0 := 4) (v := .ref (ad 5)) C0 G in_X1 rfl rfl 0 (by decide) fl_X1_11 (fun _ h => h) rfl dX1_save_32 ?_
      refine g_alen (q0 := 5) (v := 18) C0 G rfl 1 rfl rfl dX1_save_35 ?_
      refine lv_icmp_ge (tgt := 59) hx hb dX1_save_36 (by decide) (fun c_36 => ?_) (fun c_36 => ?_)
      · skip
        have c_36 : 18 ≤ (((6 - 1) * 3) + i) := (nI_leI (a := 18) (b := ((6 - 1) * 3) + i) (by omega) (by omega)).mp c_36
        exact absurd c_36 (by omega)
      · skip
        have c_36 : ¬ (18 ≤ (((6 - 1) * 3) + i)) := fun h => c_36 ((nI_leI (a := 18) (b := ((6 - 1) * 3) + i) (by omega) (by omega)).mpr h)
        refine lv_aload_n hx hb dX1_save_39 rfl (lv_at hl 0 rfl) ?_
        refine g_get (q0 := 4) (v := .ref (ad 5)) C0 G in_X1 rfl rfl 0 (by decide) fl_X1_11 (fun _ h => h) rfl dX1_save_40 ?_
        refine lv_iload_n hx hb dX1_save_43 rfl (lv_at hl 2 rfl) ?_
        refine lv_iload_n hx hb dX1_save_44 rfl (lv_at hl 3 rfl) ?_
        refine lv_iadd hx hb dX1_save_45 ?_
        refine g_topi (x' := nI (((6 - 1) * 3) + i)) (nI_add ((6 - 1) * 3) i) ?_
        refine g_aldq (q0 := 5) (n := 18) C0 G rfl 1 rfl (vp_in_nI (n := ((6 - 1) * 3) + i) (by omega) (by decide)) dX1_save_46 ?_
        refine g_topv (x' := .ref (ad (10 + (3 + (((6 - 1) * 3) + i))))) (congrArg (fun z => va_rf ((fun j => some (ad (10 + (3 + j)))) z)) (nI_clamp (n := ((6 - 1) * 3) + i) (by omega))) ?_
        refine lv_aload_n hx hb dX1_save_47 rfl (lv_at hl 1 rfl) ?_
        refine lv_iload_n hx hb dX1_save_48 rfl (lv_at hl 3 rfl) ?_
        refine g_aldq (q0 := 1) (n := 3) C0 G rfl 1 rfl (vp_in_nI (n := i) (by omega) (by decide)) dX1_save_49 ?_
        refine g_topv (x' := .ref (ad (10 + i))) (congrArg (fun z => va_rf ((fun j => some (ad (10 + j))) z)) (nI_clamp (n := i) (by omega))) ?_
        refine g_callVN (As := [.ref (ad (10 + i))]) (rest := []) (q0 := (3 + (((6 - 1) * 3) + i)) + 9) C0 G (c_X0_become l D cy (ad := ad) (fr := svU (dcU fr 15) ((6 - 1) * 3) i) (bk := svU (dcU bk 15) ((6 - 1) * 3) i) (vw := svU (dcU vw 15) ((6 - 1) * 3) i) (tk := tk) (to := to) (fk := fk) (fo := fo) (kp := 6 - 1) (sp := sp) (lt := lt) (ib := ib) (rw := rw) (cl := cl) (nu := nu) (tv := tv) (tm := tm) (ta := ta) (ml := ml) (tn := tn) (R := R) (k := (3 + (((6 - 1) * 3) + i))) (o := i) (by omega) (by omega)) k_X0_become nm_X1_25 (wC_at (k := (3 + (((6 - 1) * 3) + i))) (by omega)) rfl dX1_save_50 rfl rfl hl.1 (Nat.le_of_ble_eq_true rfl) ⟨Nat.le_of_ble_eq_true rfl, Nat.le_of_ble_eq_true rfl⟩ ⟨Nat.le_of_ble_eq_true rfl, Nat.le_of_ble_eq_true rfl⟩ (fun r W2 H locs hp G => ?_)
        obtain ⟨rfl, hw⟩ := hp
        have G := g_wc hw G
        refine W.eq (g2 := F0 m 53 ls []) rfl ?_
        refine lv_iinc (v := nI (i + 1)) (lv' := [(3, .int (nI (i + 1))), (0, .ref (ad 4)), (1, .ref (ad 1)), (2, .int (nI ((6 - 1) * 3)))]) hx hb dX1_save_53 hl (k := 3) rfl (nI_add i 1) (by decide) rfl (fun ls hl => ?_)
        refine lv_goto (tgt := 22) hx hb dX1_save_56 (by decide) ?_
        have hl := lv_sub hl (l' := _) [1, 2, 3, 0] rfl
        exact ih_22 (i + 1) (by show _ ≤ _; omega) (by show _ < _; omega) _ _ _ G hl

set_option maxHeartbeats 4000000 in
set_option maxRecDepth 100000 in
theorem c_X1_restores (l : Launch) (D : va_G) (cy : Nat → ClassId) (ad : Nat → Nat) (fr : Nat → Int64) (bk : Nat → Int64) (vw : Nat → Nat) (tk : Int64) (to : Int64) (fk : Int64) (fo : Int64) (kp : Nat) (sp : Nat) (lt : Nat) (ib : Bool) (rw : Nat) (cl : Nat) (nu : Nat) (tv : Nat) (tm : Nat) (ta : Nat → Int32) (ml : Int32) (tn : Nat) (R : va_W)  (h1 : kp ≤ 6) : GE l D (gts cy) yX1_restores cX1_restores 4 (some .boolean) 1 0 0 [.ref (ad 4), .ref (ad 1)] (wC ad cy fr bk vw tk to fk fo kp sp lt ib rw cl nu tv tm ta ml tn R) (gF (some (.int (bI (decide (0 < kp))))) (wC ad cy (if 0 < kp then rsU fr ((kp - 1) * 3) 3 else fr) (if 0 < kp then rsU bk ((kp - 1) * 3) 3 else bk) (if 0 < kp then rsU vw ((kp - 1) * 3) 3 else vw) tk to fk fo (kp - 1) sp lt ib rw cl nu tv tm ta ml tn R)) := by
  refine g_intro (by decide +kernel) (lv := [(0, .ref (ad 4)), (1, .ref (ad 1))]) rfl (Nat.le_of_ble_eq_true rfl) ?_
  intro p e s m below meth c C0 G ls hl
  have hx := C0.1
  have hb := C0.2.1
  have hown := C0.2.2.2.2.2.1
  have hts := C0.2.2.2.2.2.2.1
  refine lv_aload_n hx hb dX1_restores_0 rfl (lv_at hl 0 rfl) ?_
  refine g_get (q0 := 4) (v := .int (nI kp)) C0 G in_X1 rfl rfl 1 (by decide) fl_X1_18 (fun _ h => h) rfl dX1_restores_1 ?_
  refine lv_if_gt (tgt := 9) hx hb dX1_restores_4 (by decide) (fun c_4 => ?_) (fun c_4 => ?_)
  · skip
    have c_4 : 0 < kp := (nI_ltI (a := 0) (b := kp) (by omega) (by omega)).mp c_4
    refine lv_aload_n hx hb dX1_restores_9 rfl (lv_at hl 0 rfl) ?_
    refine lv_dup hx hb dX1_restores_10 rfl ?_
    refine g_get (q0 := 4) (v := .int (nI kp)) C0 G in_X1 rfl rfl 1 (by decide) fl_X1_18 (fun _ h => h) rfl dX1_restores_11 ?_
    refine lv_iconst (v := 1) hx hb dX1_restores_14 (by decide) ?_
    refine lv_isub hx hb dX1_restores_15 ?_
    refine g_topi (x' := nI (kp - 1)) (pk_sub (a := kp) (b := 1) (by omega)) ?_
    refine g_put (q0 := 4) (W2 := wC ad cy fr bk vw tk to fk fo (kp - 1) sp lt ib rw cl nu tv tm ta ml tn R) C0 G ft_X1 in_X1 rfl rfl 1 (by decide) fl_X1_18 (fun _ h => h) rfl rfl rfl (Nat.le_of_ble_eq_true rfl) rfl dX1_restores_16 (fun H locs G => ?_)
    refine lv_aload_n hx hb dX1_restores_19 rfl (lv_at hl 0 rfl) ?_
    refine g_get (q0 := 4) (v := .int (nI (kp - 1))) C0 G in_X1 rfl rfl 1 (by decide) fl_X1_18 (fun _ h => h) rfl dX1_restores_20 ?_
    refine lv_iconst (v := 3) hx hb dX1_restores_23 (by decide) ?_
    refine lv_imul hx hb dX1_restores_24 ?_
    refine g_topi (x' := nI ((kp - 1) * 3)) (pk_mul (kp - 1) 3) ?_
    refine lv_istore_n (lv' := [(2, .int (nI ((kp - 1) * 3))), (0, .ref (ad 4)), (1, .ref (ad 1))]) hx hb dX1_restores_25 rfl hl (by decide) rfl (fun ls hl => ?_)
    refine lv_iconst (v := 0) hx hb dX1_restores_26 (by decide) ?_
    refine lv_istore_n (lv' := [(3, .int 0), (2, .int (nI ((kp - 1) * 3))), (0, .ref (ad 4)), (1, .ref (ad 1))]) hx hb dX1_restores_27 rfl hl (by decide) rfl (fun ls hl => ?_)
    have hl := lv_sub hl (l' := [(0, .ref (ad 4)), (1, .ref (ad 1)), (2, .int (nI ((kp - 1) * 3))), (3, .int 0)]) [2, 3, 1, 0] rfl
    refine g_loop (σ := Nat) (fun i => 3 - i) (fun i => wC ad cy (rsU fr ((kp - 1) * 3) i) (rsU bk ((kp - 1) * 3) i) (rsU vw ((kp - 1) * 3) i) tk to fk fo (kp - 1) sp lt ib rw cl nu tv tm ta ml tn R) (fun i => [(0, .ref (ad 4)), (1, .ref (ad 1)), (2, .int (nI ((kp - 1) * 3))), (3, .int (nI i))]) (fun i => i ≤ 3) ?_ 0 (by show _ ≤ _; omega) G hl
    intro i hi_28 ih_28 H locs ls G hl
    have G : gW D (wC ad cy (rsU fr ((kp - 1) * 3) i) (rsU bk ((kp - 1) * 3) i) (rsU vw ((kp - 1) * 3) i) tk to fk fo (kp - 1) sp lt ib rw cl nu tv tm ta ml tn R) (va_A (wC ad cy fr bk vw tk to fk fo kp sp lt ib rw cl nu tv tm ta ml tn R) s.heap.size) s H locs := G
    have hl : lv_has ls 4 [(0, .ref (ad 4)), (1, .ref (ad 1)), (2, .int (nI ((kp - 1) * 3))), (3, .int (nI i))] := hl
    refine lv_iload_n hx hb dX1_restores_28 rfl (lv_at hl 3 rfl) ?_
    refine lv_aload_n hx hb dX1_restores_29 rfl (lv_at hl 1 rfl) ?_
    refine g_alen (q0 := 1) (v := 3) C0 G rfl 1 rfl rfl dX1_restores_30 ?_
    refine lv_icmp_ge (tgt := 65) hx hb dX1_restores_31 (by decide) (fun c_31 => ?_) (fun c_31 => ?_)
    · skip
      have c_31 : 3 ≤ i := (nI_leI (a := 3) (b := i) (by omega) (by omega)).mp c_31
      obtain rfl : i = 3 := by omega
      have G : gW D (wC ad cy (rsU fr ((kp - 1) * 3) 3) (rsU bk ((kp - 1) * 3) 3) (rsU vw ((kp - 1) * 3) 3) tk to fk fo (kp - 1) sp lt ib rw cl nu tv tm ta ml tn R) (va_A (wC ad cy fr bk vw tk to fk fo kp sp lt ib rw cl nu tv tm ta ml tn R) s.heap.size) s _ _ := G
      have hl : lv_has ls 4 [(0, .ref (ad 4)), (1, .ref (ad 1)), (2, .int (nI ((kp - 1) * 3))), (3, .int (nI 3))] := hl
      refine lv_iconst (v := 1) hx hb dX1_restores_65 (by decide) ?_
      exact g_zret C0 G rfl ⟨by first | rfl | (exfalso; omega) | (simp only [bI, c_4, c_31, Bool.false_eq_true, ↓reduceIte, eq_self, decide_true, decide_false, not_true_eq_false, not_false_eq_true, Bool.true_and, Bool.false_and, Bool.and_true, Bool.and_false]; done) | (simp [bI, c_4, c_31]; done) | (simp [bI, c_4, c_31]; rfl) | (simp [bI, c_4, c_31]; omega), by first | rfl | (exfalso; omega) | (simp only [bI, c_4, c_31, Bool.false_eq_true, ↓reduceIte, eq_self, decide_true, decide_false, not_true_eq_false, not_false_eq_true, Bool.true_and, Bool.false_and, Bool.and_true, Bool.and_false]; done) | (simp [bI, c_4, c_31]; done) | (simp [bI, c_4, c_31]; rfl) | (simp [bI, c_4, c_31]; omega)⟩ dX1_restores_66
    · skip
      have c_31 : ¬ (3 ≤ i) := fun h => c_31 ((nI_leI (a := 3) (b := i) (by omega) (by omega)).mpr h)
      refine lv_iload_n hx hb dX1_restores_34 rfl (lv_at hl 2 rfl) ?_
      refine lv_iload_n hx hb dX1_restores_35 rfl (lv_at hl 3 rfl) ?_
      refine lv_iadd hx hb dX1_restores_36 ?_
      refine g_topi (x' := nI (((kp - 1) * 3) + i)) (nI_add ((kp - 1) * 3) i) ?_
      refine lv_aload_n hx hb dX1_restores_37 rfl (lv_at hl 0 rfl) ?_
      refine g_get (q0 := 4) (v := .ref (ad 5)) C0 G in_X1 rfl rfl 0 (by decide) fl_X1_11 (fun _ h => h) rfl dX1_restores_38 ?_
      refine g_alen (q0 := 5) (v := 18) C0 G rfl 1 rfl rfl dX1_restores_41 ?_
      refine lv_icmp_ge (tgt := 65) hx hb dX1_restores_42 (by decide) (fun c_42 => ?_) (fun c_42 => ?_)
      · skip
        have c_42 : 18 ≤ (((kp - 1) * 3) + i) := (nI_leI (a := 18) (b := ((kp - 1) * 3) + i) (by omega) (by omega)).mp c_42
        exact absurd c_42 (by omega)
      · skip
        have c_42 : ¬ (18 ≤ (((kp - 1) * 3) + i)) := fun h => c_42 ((nI_leI (a := 18) (b := ((kp - 1) * 3) + i) (by omega) (by omega)).mpr h)
        refine lv_aload_n hx hb dX1_restores_45 rfl (lv_at hl 1 rfl) ?_
        refine lv_iload_n hx hb dX1_restores_46 rfl (lv_at hl 3 rfl) ?_
        refine g_aldq (q0 := 1) (n := 3) C0 G rfl 1 rfl (vp_in_nI (n := i) (by omega) (by decide)) dX1_restores_47 ?_
        refine g_topv (x' := .ref (ad (10 + i))) (congrArg (fun z => va_rf ((fun j => some (ad (10 + j))) z)) (nI_clamp (n := i) (by omega))) ?_
        refine lv_aload_n hx hb dX1_restores_48 rfl (lv_at hl 0 rfl) ?_
        refine g_get (q0 := 4) (v := .ref (ad 5)) C0 G in_X1 rfl rfl 0 (by decide) fl_X1_11 (fun _ h => h) rfl dX1_restores_49 ?_
        refine lv_iload_n hx hb dX1_restores_52 rfl (lv_at hl 2 rfl) ?_
        refine lv_iload_n hx hb dX1_restores_53 rfl (lv_at hl 3 rfl) ?_
        refine lv_iadd hx hb dX1_restores_54 ?_
        refine g_topi (x' := nI (((kp - 1) * 3) + i)) (nI_add ((kp - 1) * 3) i) ?_
        refine g_aldq (q0 := 5) (n := 18) C0 G rfl 1 rfl (vp_in_nI (n := ((kp - 1) * 3) + i) (by omega) (by decide)) dX1_restores_55 ?_
        refine g_topv (x' := .ref (ad (10 + (3 + (((kp - 1) * 3) + i))))) (congrArg (fun z => va_rf ((fun j => some (ad (10 + (3 + j)))) z)) (nI_clamp (n := ((kp - 1) * 3) + i) (by omega))) ?_
        refine g_callVN (As := [.ref (ad (10 + (3 + (((kp - 1) * 3) + i))))]) (rest := []) (q0 := i + 9) C0 G (c_X0_become l D cy (ad := ad) (fr := rsU fr ((kp - 1) * 3) i) (bk := rsU bk ((kp - 1) * 3) i) (vw := rsU vw ((kp - 1) * 3) i) (tk := tk) (to := to) (fk := fk) (fo := fo) (kp := kp - 1) (sp := sp) (lt := lt) (ib := ib) (rw := rw) (cl := cl) (nu := nu) (tv := tv) (tm := tm) (ta := ta) (ml := ml) (tn := tn) (R := R) (k := i) (o := (3 + (((kp - 1) * 3) + i))) (by omega) (by omega)) k_X0_become nm_X1_25 (wC_at (k := i) (by omega)) rfl dX1_restores_56 rfl rfl hl.1 (Nat.le_of_ble_eq_true rfl) ⟨Nat.le_of_ble_eq_true rfl, Nat.le_of_ble_eq_true rfl⟩ ⟨Nat.le_of_ble_eq_true rfl, Nat.le_of_ble_eq_true rfl⟩ (fun r W2 H locs hp G => ?_)
        obtain ⟨rfl, hw⟩ := hp
        have G := g_wc hw G
        refine W.eq (g2 := F0 m 59 ls []) rfl ?_
        refine lv_iinc (v := nI (i + 1)) (lv' := [(3, .int (nI (i + 1))), (0, .ref (ad 4)), (1, .ref (ad 1)), (2, .int (nI ((kp - 1) * 3)))]) hx hb dX1_restores_59 hl (k := 3) rfl (nI_add i 1) (by decide) rfl (fun ls hl => ?_)
        refine lv_goto (tgt := 28) hx hb dX1_restores_62 (by decide) ?_
        have hl := lv_sub hl (l' := _) [1, 2, 3, 0] rfl
        exact ih_28 (i + 1) (by show _ ≤ _; omega) (by show _ < _; omega) _ _ _ G hl
  · skip
    have c_4 : ¬ (0 < kp) := fun h => c_4 ((nI_ltI (a := 0) (b := kp) (by omega) (by omega)).mpr h)
    obtain rfl : kp = 0 := by omega
    have G : gW D (wC ad cy fr bk vw tk to fk fo 0 sp lt ib rw cl nu tv tm ta ml tn R) (va_A (wC ad cy fr bk vw tk to fk fo 0 sp lt ib rw cl nu tv tm ta ml tn R) s.heap.size) s _ _ := G
    have hl : lv_has ls 4 [(0, .ref (ad 4)), (1, .ref (ad 1))] := hl
    refine lv_iconst (v := 0) hx hb dX1_restores_7 (by decide) ?_
    exact g_zret C0 G rfl ⟨by first | rfl | (exfalso; omega) | (simp only [bI, c_4, Bool.false_eq_true, ↓reduceIte, eq_self, decide_true, decide_false, not_true_eq_false, not_false_eq_true, Bool.true_and, Bool.false_and, Bool.and_true, Bool.and_false]; done) | (simp [bI, c_4]; done) | (simp [bI, c_4]; rfl) | (simp [bI, c_4]; omega), by first | rfl | (exfalso; omega) | (simp only [bI, c_4, Bool.false_eq_true, ↓reduceIte, eq_self, decide_true, decide_false, not_true_eq_false, not_false_eq_true, Bool.true_and, Bool.false_and, Bool.and_true, Bool.and_false]; done) | (simp [bI, c_4]; done) | (simp [bI, c_4]; rfl) | (simp [bI, c_4]; omega)⟩ dX1_restores_8

set_option maxHeartbeats 4000000 in
set_option maxRecDepth 100000 in
theorem c_X4_rowValue (l : Launch) (D : va_G) (cy : Nat → ClassId) (W1 : va_W) (kn : Int64) (on : Int64) (row : Nat) (h1 : row < 8) : GE l D (gts cy) yX4_rowValue cX4_rowValue 8 (some .int) 1 0 0 [.long kn, .long on, .int (nI row)] (W1) (gF (some (.int (rvI kn on row))) (W1)) := by
  refine g_intro (by decide +kernel) (lv := [(0, .long kn), (2, .long on), (4, .int (nI row))]) rfl (Nat.le_of_ble_eq_true rfl) ?_
  intro p e s m below meth c C0 G ls hl
  have hx := C0.1
  have hb := C0.2.1
  have hown := C0.2.2.2.2.2.1
  have hts := C0.2.2.2.2.2.2.1
  refine lv_iconst (v := 0) hx hb dX4_rowValue_0 (by decide) ?_
  refine lv_istore (lv' := [(5, .int 0), (0, .long kn), (2, .long on), (4, .int (nI row))]) hx hb dX4_rowValue_1 hl (by decide) rfl (fun ls hl => ?_)
  refine lv_iconst (v := 0) hx hb dX4_rowValue_3 (by decide) ?_
  refine lv_istore (lv' := [(6, .int 0), (5, .int 0), (0, .long kn), (2, .long on), (4, .int (nI row))]) hx hb dX4_rowValue_4 hl (by decide) rfl (fun ls hl => ?_)
  have hl := lv_sub hl (l' := [(0, .long kn), (2, .long on), (4, .int (nI row)), (5, .int 0), (6, .int 0)]) [2, 3, 4, 1, 0] rfl
  refine g_loop (σ := Nat) (fun i => 7 - i) (fun i => W1) (fun i => [(0, .long kn), (2, .long on), (4, .int (nI row)), (5, .int (nI (rvN on row i))), (6, .int (nI i))]) (fun i => i ≤ 7 ∧ allB (fun j => tb kn (8 * row + j)) i = true) ?_ 0 ⟨by omega, rfl⟩ G hl
  intro i hi_6 ih_6 H locs ls G hl
  obtain ⟨hi_6a, hi_6b⟩ := hi_6
  have G : gW D (W1) (va_A (W1) s.heap.size) s H locs := G
  have hl : lv_has ls 8 [(0, .long kn), (2, .long on), (4, .int (nI row)), (5, .int (nI (rvN on row i))), (6, .int (nI i))] := hl
  refine lv_iload hx hb dX4_rowValue_6 (lv_at hl 4 rfl) ?_
  refine lv_bipush (v := 7) hx hb dX4_rowValue_8 (by decide) ?_
  refine lv_icmp_ge (tgt := 60) hx hb dX4_rowValue_10 (by decide) (fun c_10 => ?_) (fun c_10 => ?_)
  · skip
    have c_10 : 7 ≤ i := (nI_leI (a := 7) (b := i) (by omega) (by omega)).mp c_10
    obtain rfl : i = 7 := by omega
    have G : gW D (W1) (va_A (W1) s.heap.size) s _ _ := G
    have hl : lv_has ls 8 [(0, .long kn), (2, .long on), (4, .int (nI row)), (5, .int (nI (rvN on row 7))), (6, .int (nI 7))] := hl
    refine lv_iload hx hb dX4_rowValue_60 (lv_at hl 3 rfl) ?_
    exact g_iret C0 G ⟨by first | (rw [show rvI kn on row = -1 from if_neg (by rw [allB_no (p := fun j => tb kn (8 * row + j)) (i := i) c_28 (by omega)]; decide)]; done) | (rw [show rvI kn on row = nI (rvN on row 7) from if_pos hi_6b]), by first | rfl | (exfalso; omega) | (simp only [rvN, c_10, Bool.false_eq_true, ↓reduceIte, eq_self, decide_true, decide_false, not_true_eq_false, not_false_eq_true, Bool.true_and, Bool.false_and, Bool.and_true, Bool.and_false]; done) | (simp [rvN, c_10]; done) | (simp [rvN, c_10]; rfl) | (simp [rvN, c_10]; omega)⟩ dX4_rowValue_62
  · skip
    have c_10 : ¬ (7 ≤ i) := fun h => c_10 ((nI_leI (a := 7) (b := i) (by omega) (by omega)).mpr h)
    refine lv_iload hx hb dX4_rowValue_13 (lv_at hl 2 rfl) ?_
    refine lv_iload hx hb dX4_rowValue_15 (lv_at hl 4 rfl) ?_
    refine g_callS (As := [.int (nI row), .int (nI i)]) (rest := []) C0 G (c_X4_cellNumber l D cy (W1 := W1) (row := row) (col := i) ) k_X4_cellNumber ml_X4_165 dX4_rowValue_17 rfl rfl hl.1 (Nat.le_of_ble_eq_true rfl) ⟨Nat.le_of_ble_eq_true rfl, Nat.le_of_ble_eq_true rfl⟩ ⟨Nat.le_of_ble_eq_true rfl, Nat.le_of_ble_eq_true rfl⟩ (fun r W2 H locs hp G => ?_)
    obtain ⟨rfl, hw⟩ := hp
    have G := g_wc hw G
    refine W.eq (g2 := F0 m 20 ls [.int (nI (8 * row + i))]) rfl ?_
    refine lv_istore (lv' := [(7, .int (nI (8 * row + i))), (0, .long kn), (2, .long on), (4, .int (nI row)), (5, .int (nI (rvN on row i))), (6, .int (nI i))]) hx hb dX4_rowValue_20 hl (by decide) rfl (fun ls hl => ?_)
    refine lv_lload_n hx hb dX4_rowValue_22 rfl (lv_at hl 1 rfl) ?_
    refine lv_iload hx hb dX4_rowValue_23 (lv_at hl 0 rfl) ?_
    refine g_callS (As := [.long kn, .int (nI (8 * row + i))]) (rest := []) C0 G (c_X4_isIn l D cy (W1 := W1) (w := kn) (k := 8 * row + i) (by omega)) k_X4_isIn ml_X4_277 dX4_rowValue_25 rfl rfl hl.1 (Nat.le_of_ble_eq_true rfl) ⟨Nat.le_of_ble_eq_true rfl, Nat.le_of_ble_eq_true rfl⟩ ⟨Nat.le_of_ble_eq_true rfl, Nat.le_of_ble_eq_true rfl⟩ (fun r W2 H locs hp G => ?_)
    obtain ⟨rfl, hw⟩ := hp
    have G := g_wc hw G
    refine W.eq (g2 := F0 m 28 ls [.int (bI (tb kn (8 * row + i)))]) rfl ?_
    refine lv_if_ne (tgt := 33) hx hb dX4_rowValue_28 (by decide) (fun c_28 => ?_) (fun c_28 => ?_)
    · skip
      have c_28 : (tb kn (8 * row + i)) = true := bI_t c_28
      refine lv_iconst (v := 2) hx hb dX4_rowValue_33 (by decide) ?_
      refine lv_iload hx hb dX4_rowValue_34 (lv_at hl 4 rfl) ?_
      refine lv_imul hx hb dX4_rowValue_36 ?_
      refine g_topi (x' := nI (2 * (rvN on row i))) (pk_mul 2 (rvN on row i)) ?_
      refine lv_lload_n hx hb dX4_rowValue_37 rfl (lv_at hl 2 rfl) ?_
      refine lv_iload hx hb dX4_rowValue_38 (lv_at hl 0 rfl) ?_
      refine g_callS (As := [.long on, .int (nI (8 * row + i))]) (rest := [.int (nI (2 * (rvN on row i)))]) C0 G (c_X4_isIn l D cy (W1 := W1) (w := on) (k := 8 * row + i) (by omega)) k_X4_isIn ml_X4_277 dX4_rowValue_40 rfl rfl hl.1 (Nat.le_of_ble_eq_true rfl) ⟨Nat.le_of_ble_eq_true rfl, Nat.le_of_ble_eq_true rfl⟩ ⟨Nat.le_of_ble_eq_true rfl, Nat.le_of_ble_eq_true rfl⟩ (fun r W2 H locs hp G => ?_)
      obtain ⟨rfl, hw⟩ := hp
      have G := g_wc hw G
      refine W.eq (g2 := F0 m 43 ls [.int (bI (tb on (8 * row + i))), .int (nI (2 * (rvN on row i)))]) rfl ?_
      refine lv_if_eq (tgt := 50) hx hb dX4_rowValue_43 (by decide) (fun c_43 => ?_) (fun c_43 => ?_)
      · skip
        have c_43 : (tb on (8 * row + i)) = false := bI_f c_43
        refine lv_iconst (v := 0) hx hb dX4_rowValue_50 (by decide) ?_
        refine lv_iadd hx hb dX4_rowValue_51 ?_
        refine g_topi (x' := nI ((2 * (rvN on row i)) + 0)) (nI_add (2 * (rvN on row i)) 0) ?_
        refine g_topi (x' := nI (rvN on row (i + 1))) (congrArg nI (by first | rfl | (simp only [rvN, c_10, c_28, c_43, Bool.false_eq_true, ↓reduceIte]; done) | (simp [rvN, c_10, c_28, c_43]; done))) ?_
        refine lv_istore (lv' := [(5, .int (nI (rvN on row (i + 1)))), (7, .int (nI (8 * row + i))), (0, .long kn), (2, .long on), (4, .int (nI row)), (6, .int (nI i))]) hx hb dX4_rowValue_52 hl (by decide) rfl (fun ls hl => ?_)
        refine lv_iinc (v := nI (i + 1)) (lv' := [(6, .int (nI (i + 1))), (5, .int (nI (rvN on row (i + 1)))), (7, .int (nI (8 * row + i))), (0, .long kn), (2, .long on), (4, .int (nI row))]) hx hb dX4_rowValue_54 hl (k := 5) rfl (nI_add i 1) (by decide) rfl (fun ls hl => ?_)
        refine lv_goto (tgt := 6) hx hb dX4_rowValue_57 (by decide) ?_
        have hl := lv_sub hl (l' := _) [3, 4, 5, 1, 0] rfl
        exact ih_6 (i + 1) ⟨by omega, by simp only [allB, hi_6b, c_28, Bool.true_and]⟩ (by show _ < _; omega) _ _ _ G hl
      · skip
        have c_43 : (tb on (8 * row + i)) = true := bI_t c_43
        refine lv_iconst (v := 1) hx hb dX4_rowValue_46 (by decide) ?_
        refine lv_goto (tgt := 51) hx hb dX4_rowValue_47 (by decide) ?_
        refine lv_iadd hx hb dX4_rowValue_51 ?_
        refine g_topi (x' := nI ((2 * (rvN on row i)) + 1)) (nI_add (2 * (rvN on row i)) 1) ?_
        refine g_topi (x' := nI (rvN on row (i + 1))) (congrArg nI (by first | rfl | (simp only [rvN, c_10, c_28, c_43, Bool.false_eq_true, ↓reduceIte]; done) | (simp [rvN, c_10, c_28, c_43]; done))) ?_
        refine lv_istore (lv' := [(5, .int (nI (rvN on row (i + 1)))), (7, .int (nI (8 * row + i))), (0, .long kn), (2, .long on), (4, .int (nI row)), (6, .int (nI i))]) hx hb dX4_rowValue_52 hl (by decide) rfl (fun ls hl => ?_)
        refine lv_iinc (v := nI (i + 1)) (lv' := [(6, .int (nI (i + 1))), (5, .int (nI (rvN on row (i + 1)))), (7, .int (nI (8 * row + i))), (0, .long kn), (2, .long on), (4, .int (nI row))]) hx hb dX4_rowValue_54 hl (k := 5) rfl (nI_add i 1) (by decide) rfl (fun ls hl => ?_)
        refine lv_goto (tgt := 6) hx hb dX4_rowValue_57 (by decide) ?_
        have hl := lv_sub hl (l' := _) [3, 4, 5, 1, 0] rfl
        exact ih_6 (i + 1) ⟨by omega, by simp only [allB, hi_6b, c_28, Bool.true_and]⟩ (by show _ < _; omega) _ _ _ G hl
    · skip
      have c_28 : (tb kn (8 * row + i)) = false := bI_f c_28
      refine lv_iconst (v := (-1)) hx hb dX4_rowValue_31 (by decide) ?_
      exact g_iret C0 G ⟨by first | (rw [show rvI kn on row = -1 from if_neg (by rw [allB_no (p := fun j => tb kn (8 * row + j)) (i := i) c_28 (by omega)]; decide)]; done) | (rw [show rvI kn on row = nI (rvN on row 7) from if_pos hi_6b]), by first | rfl | (exfalso; omega) | (simp only [rvN, c_10, c_28, Bool.false_eq_true, ↓reduceIte, eq_self, decide_true, decide_false, not_true_eq_false, not_false_eq_true, Bool.true_and, Bool.false_and, Bool.and_true, Bool.and_false]; done) | (simp [rvN, c_10, c_28]; done) | (simp [rvN, c_10, c_28]; rfl) | (simp [rvN, c_10, c_28]; omega)⟩ dX4_rowValue_32

set_option maxHeartbeats 4000000 in
set_option maxRecDepth 100000 in
theorem c_X4_tellingOf (l : Launch) (D : va_G) (cy : Nat → ClassId) (ad : Nat → Nat) (fr : Nat → Int64) (bk : Nat → Int64) (vw : Nat → Nat) (tk : Int64) (to : Int64) (fk : Int64) (fo : Int64) (kp : Nat) (sp : Nat) (lt : Nat) (ib : Bool) (rw : Nat) (cl : Nat) (nu : Nat) (tv : Nat) (tm : Nat) (ta : Nat → Int32) (ml : Int32) (tn : Nat) (R : va_W) (k : Nat) (h1 : k < 21) : GE l D (gts cy) yX4_tellingOf cX4_tellingOf 2 (some (.object "MirrorCards$Telling")) 4 0 0 [.ref (ad 0), .ref (ad (10 + k))] (wC ad cy fr bk vw tk to fk fo kp sp lt ib rw cl nu tv tm ta ml tn R) (gF (some (.ref (ad 2))) (wC ad cy fr bk vw ((fa (sdW (fr k) (bk k)) (onW (fr k) (bk k))).1) ((fa (sdW (fr k) (bk k)) (onW (fr k) (bk k))).2) fk fo kp sp lt ib rw cl nu tv tm ta ml tn R)) := by
  refine g_intro (by decide +kernel) (lv := [(0, .ref (ad 0)), (1, .ref (ad (10 + k)))]) rfl (Nat.le_of_ble_eq_true rfl) ?_
  intro p e s m below meth c C0 G ls hl
  have hx := C0.1
  have hb := C0.2.1
  have hown := C0.2.2.2.2.2.1
  have hts := C0.2.2.2.2.2.2.1
  refine lv_aload_n hx hb dX4_tellingOf_0 rfl (lv_at hl 0 rfl) ?_
  refine g_get (q0 := 0) (v := .ref (ad 2)) C0 G in_X4 rfl rfl 1 (by decide) fl_X4_19 (fun _ h => h) rfl dX4_tellingOf_1 ?_
  refine lv_aload_n hx hb dX4_tellingOf_4 rfl (lv_at hl 1 rfl) ?_
  refine g_callVN (As := []) (rest := [.ref (ad 2)]) (q0 := k + 9) C0 G (GE.at (i := k + 9) (wC_at (k := k) (by omega)) (fun R => (c_X0_sound l D cy (R := R) (h := ad (10 + k)) (f := fr k) (b := bk k) (v := vw k)  ))) k_X0_sound nm_X4_180 (wC_at (k := k) (by omega)) rfl dX4_tellingOf_5 rfl rfl hl.1 (Nat.le_of_ble_eq_true rfl) ⟨Nat.le_of_ble_eq_true rfl, Nat.le_of_ble_eq_true rfl⟩ ⟨Nat.le_of_ble_eq_true rfl, Nat.le_of_ble_eq_true rfl⟩ (fun r W2 H locs hp G => ?_)
  obtain ⟨rfl, hw⟩ := hp
  have G : gW D (wC ad cy fr bk vw tk to fk fo kp sp lt ib rw cl nu tv tm ta ml tn R) (va_A (wC ad cy fr bk vw tk to fk fo kp sp lt ib rw cl nu tv tm ta ml tn R) s.heap.size) s H locs := g_wc (hw.trans (wC_set (k := k) (by omega) (va_up_s _ _) (va_up_s _ _) (va_up_s _ _))) G
  refine W.eq (g2 := F0 m 8 ls [.long (sdW (fr k) (bk k)), .ref (ad 2)]) rfl ?_
  refine lv_aload_n hx hb dX4_tellingOf_8 rfl (lv_at hl 1 rfl) ?_
  refine g_callVN (As := []) (rest := [.long (sdW (fr k) (bk k)), .ref (ad 2)]) (q0 := k + 9) C0 G (GE.at (i := k + 9) (wC_at (k := k) (by omega)) (fun R => (c_X0_ones l D cy (R := R) (h := ad (10 + k)) (f := fr k) (b := bk k) (v := vw k)  ))) k_X0_ones nm_X4_183 (wC_at (k := k) (by omega)) rfl dX4_tellingOf_9 rfl rfl hl.1 (Nat.le_of_ble_eq_true rfl) ⟨Nat.le_of_ble_eq_true rfl, Nat.le_of_ble_eq_true rfl⟩ ⟨Nat.le_of_ble_eq_true rfl, Nat.le_of_ble_eq_true rfl⟩ (fun r W2 H locs hp G => ?_)
  obtain ⟨rfl, hw⟩ := hp
  have G : gW D (wC ad cy fr bk vw tk to fk fo kp sp lt ib rw cl nu tv tm ta ml tn R) (va_A (wC ad cy fr bk vw tk to fk fo kp sp lt ib rw cl nu tv tm ta ml tn R) s.heap.size) s H locs := g_wc (hw.trans (wC_set (k := k) (by omega) (va_up_s _ _) (va_up_s _ _) (va_up_s _ _))) G
  refine W.eq (g2 := F0 m 12 ls [.long (onW (fr k) (bk k)), .long (sdW (fr k) (bk k)), .ref (ad 2)]) rfl ?_
  refine g_callVN (As := [.long (sdW (fr k) (bk k)), .long (onW (fr k) (bk k))]) (rest := []) (q0 := 2) C0 G (GE.at (i := 2) rfl (fun R => (c_X3_findAll l D cy (R := R) (h := ad 2) (kn := tk) (on := to) (sd := sdW (fr k) (bk k)) (so := onW (fr k) (bk k)) ))) k_X3_findAll nm_X4_265 rfl rfl dX4_tellingOf_12 rfl rfl hl.1 (Nat.le_of_ble_eq_true rfl) ⟨Nat.le_of_ble_eq_true rfl, Nat.le_of_ble_eq_true rfl⟩ ⟨Nat.le_of_ble_eq_true rfl, Nat.le_of_ble_eq_true rfl⟩ (fun r W2 H locs hp G => ?_)
  obtain ⟨rfl, hw⟩ := hp
  have G : gW D (wC ad cy fr bk vw ((fa (sdW (fr k) (bk k)) (onW (fr k) (bk k))).1) ((fa (sdW (fr k) (bk k)) (onW (fr k) (bk k))).2) fk fo kp sp lt ib rw cl nu tv tm ta ml tn R) (va_A (wC ad cy fr bk vw tk to fk fo kp sp lt ib rw cl nu tv tm ta ml tn R) s.heap.size) s H locs := g_wc (hw.trans (by rfl)) G
  refine W.eq (g2 := F0 m 15 ls []) rfl ?_
  refine lv_aload_n hx hb dX4_tellingOf_15 rfl (lv_at hl 0 rfl) ?_
  refine g_get (q0 := 0) (v := .ref (ad 2)) C0 G in_X4 rfl rfl 1 (by decide) fl_X4_19 (fun _ h => h) rfl dX4_tellingOf_16 ?_
  exact g_aret C0 G (Or.inl ⟨_, rfl⟩) ⟨by first | rfl | (exfalso; omega) | (simp only [Bool.false_eq_true, ↓reduceIte, eq_self, decide_true, decide_false, not_true_eq_false, not_false_eq_true, Bool.true_and, Bool.false_and, Bool.and_true, Bool.and_false]; done) | (simp []; done) | (simp []; rfl) | (simp []; omega), by first | rfl | (exfalso; omega) | (simp only [Bool.false_eq_true, ↓reduceIte, eq_self, decide_true, decide_false, not_true_eq_false, not_false_eq_true, Bool.true_and, Bool.false_and, Bool.and_true, Bool.and_false]; done) | (simp []; done) | (simp []; rfl) | (simp []; omega)⟩ dX4_tellingOf_19

set_option maxHeartbeats 4000000 in
set_option maxRecDepth 100000 in
theorem c_X4_untoldWithout (l : Launch) (D : va_G) (cy : Nat → ClassId) (ad : Nat → Nat) (fr : Nat → Int64) (bk : Nat → Int64) (vw : Nat → Nat) (tk : Int64) (to : Int64) (fk : Int64) (fo : Int64) (kp : Nat) (sp : Nat) (lt : Nat) (ib : Bool) (rw : Nat) (cl : Nat) (nu : Nat) (tv : Nat) (tm : Nat) (ta : Nat → Int32) (ml : Int32) (tn : Nat) (R : va_W) (k : Nat) (j : Nat) (h1 : k < 21) (h2 : j < 64) : GE l D (gts cy) yX4_untoldWithout cX4_untoldWithout 5 (some .int) 4 0 0 [.ref (ad 0), .ref (ad (10 + k)), .int (nI j)] (wC ad cy fr bk vw tk to fk fo kp sp lt ib rw cl nu tv tm ta ml tn R) (gF (some (.int (uwI (fr k) (bk k) j))) (wC ad cy fr bk vw tk to ((uwF (fr k) (bk k) j (fk, fo)).1) ((uwF (fr k) (bk k) j (fk, fo)).2) kp sp lt ib rw cl nu tv tm ta ml tn R)) := by
  refine g_intro (by decide +kernel) (lv := [(0, .ref (ad 0)), (1, .ref (ad (10 + k))), (2, .int (nI j))]) rfl (Nat.le_of_ble_eq_true rfl) ?_
  intro p e s m below meth c C0 G ls hl
  have hx := C0.1
  have hb := C0.2.1
  have hown := C0.2.2.2.2.2.1
  have hts := C0.2.2.2.2.2.2.1
  refine lv_aload_n hx hb dX4_untoldWithout_0 rfl (lv_at hl 1 rfl) ?_
  refine g_callVN (As := []) (rest := []) (q0 := k + 9) C0 G (GE.at (i := k + 9) (wC_at (k := k) (by omega)) (fun R => (c_X0_sound l D cy (R := R) (h := ad (10 + k)) (f := fr k) (b := bk k) (v := vw k)  ))) k_X0_sound nm_X4_180 (wC_at (k := k) (by omega)) rfl dX4_untoldWithout_1 rfl rfl hl.1 (Nat.le_of_ble_eq_true rfl) ⟨Nat.le_of_ble_eq_true rfl, Nat.le_of_ble_eq_true rfl⟩ ⟨Nat.le_of_ble_eq_true rfl, Nat.le_of_ble_eq_true rfl⟩ (fun r W2 H locs hp G => ?_)
  obtain ⟨rfl, hw⟩ := hp
  have G : gW D (wC ad cy fr bk vw tk to fk fo kp sp lt ib rw cl nu tv tm ta ml tn R) (va_A (wC ad cy fr bk vw tk to fk fo kp sp lt ib rw cl nu tv tm ta ml tn R) s.heap.size) s H locs := g_wc (hw.trans (wC_set (k := k) (by omega) (va_up_s _ _) (va_up_s _ _) (va_up_s _ _))) G
  refine W.eq (g2 := F0 m 4 ls [.long (sdW (fr k) (bk k))]) rfl ?_
  refine lv_iload_n hx hb dX4_untoldWithout_4 rfl (lv_at hl 2 rfl) ?_
  refine g_callS (As := [.long (sdW (fr k) (bk k)), .int (nI j)]) (rest := []) C0 G (c_X4_isIn l D cy (W1 := wC ad cy fr bk vw tk to fk fo kp sp lt ib rw cl nu tv tm ta ml tn R) (w := sdW (fr k) (bk k)) (k := j) (by omega)) k_X4_isIn ml_X4_277 dX4_untoldWithout_5 rfl rfl hl.1 (Nat.le_of_ble_eq_true rfl) ⟨Nat.le_of_ble_eq_true rfl, Nat.le_of_ble_eq_true rfl⟩ ⟨Nat.le_of_ble_eq_true rfl, Nat.le_of_ble_eq_true rfl⟩ (fun r W2 H locs hp G => ?_)
  obtain ⟨rfl, hw⟩ := hp
  have G := g_wc hw G
  refine W.eq (g2 := F0 m 8 ls [.int (bI (tb (sdW (fr k) (bk k)) j))]) rfl ?_
  refine lv_if_ne (tgt := 13) hx hb dX4_untoldWithout_8 (by decide) (fun c_8 => ?_) (fun c_8 => ?_)
  · skip
    have c_8 : (tb (sdW (fr k) (bk k)) j) = true := bI_t c_8
    refine lv_aload_n hx hb dX4_untoldWithout_13 rfl (lv_at hl 1 rfl) ?_
    refine g_callVN (As := []) (rest := []) (q0 := k + 9) C0 G (GE.at (i := k + 9) (wC_at (k := k) (by omega)) (fun R => (c_X0_sound l D cy (R := R) (h := ad (10 + k)) (f := fr k) (b := bk k) (v := vw k)  ))) k_X0_sound nm_X4_180 (wC_at (k := k) (by omega)) rfl dX4_untoldWithout_14 rfl rfl hl.1 (Nat.le_of_ble_eq_true rfl) ⟨Nat.le_of_ble_eq_true rfl, Nat.le_of_ble_eq_true rfl⟩ ⟨Nat.le_of_ble_eq_true rfl, Nat.le_of_ble_eq_true rfl⟩ (fun r W2 H locs hp G => ?_)
    obtain ⟨rfl, hw⟩ := hp
    have G : gW D (wC ad cy fr bk vw tk to fk fo kp sp lt ib rw cl nu tv tm ta ml tn R) (va_A (wC ad cy fr bk vw tk to fk fo kp sp lt ib rw cl nu tv tm ta ml tn R) s.heap.size) s H locs := g_wc (hw.trans (wC_set (k := k) (by omega) (va_up_s _ _) (va_up_s _ _) (va_up_s _ _))) G
    refine W.eq (g2 := F0 m 17 ls [.long (sdW (fr k) (bk k))]) rfl ?_
    refine lv_lconst (v := 1) hx hb dX4_untoldWithout_17 (by decide) ?_
    refine lv_iload_n hx hb dX4_untoldWithout_18 rfl (lv_at hl 2 rfl) ?_
    refine lv_lshl hx hb dX4_untoldWithout_19 rfl ?_
    refine lv_ldc2 (v := (-1)) hx hb hown (hts _ kl_X4_117) dX4_untoldWithout_20 ?_
    refine lv_lxor hx hb dX4_untoldWithout_23 ?_
    refine lv_land hx hb dX4_untoldWithout_24 ?_
    refine lv_lstore_n (lv' := [(3, .long ((sdW (fr k) (bk k)) &&& (((1 : Int64) <<< ((nI j).toInt64 &&& 63)) ^^^ ((-1) : Int64)))), (0, .ref (ad 0)), (1, .ref (ad (10 + k))), (2, .int (nI j))]) hx hb dX4_untoldWithout_25 rfl hl (by decide) rfl (fun ls hl => ?_)
    refine lv_aload_n hx hb dX4_untoldWithout_26 rfl (lv_at hl 1 rfl) ?_
    refine g_get (q0 := 0) (v := .ref (ad 3)) C0 G in_X4 rfl rfl 2 (by decide) fl_X4_23 (fun _ h => h) rfl dX4_untoldWithout_27 ?_
    refine lv_lload_n hx hb dX4_untoldWithout_30 rfl (lv_at hl 0 rfl) ?_
    refine lv_aload_n hx hb dX4_untoldWithout_31 rfl (lv_at hl 2 rfl) ?_
    refine g_callVN (As := []) (rest := [.long ((sdW (fr k) (bk k)) &&& (((1 : Int64) <<< ((nI j).toInt64 &&& 63)) ^^^ ((-1) : Int64))), .ref (ad 3)]) (q0 := k + 9) C0 G (GE.at (i := k + 9) (wC_at (k := k) (by omega)) (fun R => (c_X0_ones l D cy (R := R) (h := ad (10 + k)) (f := fr k) (b := bk k) (v := vw k)  ))) k_X0_ones nm_X4_183 (wC_at (k := k) (by omega)) rfl dX4_untoldWithout_32 rfl rfl hl.1 (Nat.le_of_ble_eq_true rfl) ⟨Nat.le_of_ble_eq_true rfl, Nat.le_of_ble_eq_true rfl⟩ ⟨Nat.le_of_ble_eq_true rfl, Nat.le_of_ble_eq_true rfl⟩ (fun r W2 H locs hp G => ?_)
    obtain ⟨rfl, hw⟩ := hp
    have G : gW D (wC ad cy fr bk vw tk to fk fo kp sp lt ib rw cl nu tv tm ta ml tn R) (va_A (wC ad cy fr bk vw tk to fk fo kp sp lt ib rw cl nu tv tm ta ml tn R) s.heap.size) s H locs := g_wc (hw.trans (wC_set (k := k) (by omega) (va_up_s _ _) (va_up_s _ _) (va_up_s _ _))) G
    refine W.eq (g2 := F0 m 35 ls [.long (onW (fr k) (bk k)), .long ((sdW (fr k) (bk k)) &&& (((1 : Int64) <<< ((nI j).toInt64 &&& 63)) ^^^ ((-1) : Int64))), .ref (ad 3)]) rfl ?_
    refine lv_lload_n hx hb dX4_untoldWithout_35 rfl (lv_at hl 0 rfl) ?_
    refine lv_land hx hb dX4_untoldWithout_36 ?_
    refine g_callVN (As := [.long ((sdW (fr k) (bk k)) &&& (((1 : Int64) <<< ((nI j).toInt64 &&& 63)) ^^^ ((-1) : Int64))), .long ((onW (fr k) (bk k)) &&& ((sdW (fr k) (bk k)) &&& (((1 : Int64) <<< ((nI j).toInt64 &&& 63)) ^^^ ((-1) : Int64))))]) (rest := []) (q0 := 3) C0 G (GE.at (i := 3) rfl (fun R => (c_X3_findAll l D cy (R := R) (h := ad 3) (kn := fk) (on := fo) (sd := (sdW (fr k) (bk k)) &&& (((1 : Int64) <<< ((nI j).toInt64 &&& 63)) ^^^ ((-1) : Int64))) (so := (onW (fr k) (bk k)) &&& ((sdW (fr k) (bk k)) &&& (((1 : Int64) <<< ((nI j).toInt64 &&& 63)) ^^^ ((-1) : Int64)))) ))) k_X3_findAll nm_X4_265 rfl rfl dX4_untoldWithout_37 rfl rfl hl.1 (Nat.le_of_ble_eq_true rfl) ⟨Nat.le_of_ble_eq_true rfl, Nat.le_of_ble_eq_true rfl⟩ ⟨Nat.le_of_ble_eq_true rfl, Nat.le_of_ble_eq_true rfl⟩ (fun r W2 H locs hp G => ?_)
    obtain ⟨rfl, hw⟩ := hp
    have G : gW D (wC ad cy fr bk vw tk to ((fa ((sdW (fr k) (bk k)) &&& (((1 : Int64) <<< ((nI j).toInt64 &&& 63)) ^^^ ((-1) : Int64))) ((onW (fr k) (bk k)) &&& ((sdW (fr k) (bk k)) &&& (((1 : Int64) <<< ((nI j).toInt64 &&& 63)) ^^^ ((-1) : Int64))))).1) ((fa ((sdW (fr k) (bk k)) &&& (((1 : Int64) <<< ((nI j).toInt64 &&& 63)) ^^^ ((-1) : Int64))) ((onW (fr k) (bk k)) &&& ((sdW (fr k) (bk k)) &&& (((1 : Int64) <<< ((nI j).toInt64 &&& 63)) ^^^ ((-1) : Int64))))).2) kp sp lt ib rw cl nu tv tm ta ml tn R) (va_A (wC ad cy fr bk vw tk to fk fo kp sp lt ib rw cl nu tv tm ta ml tn R) s.heap.size) s H locs := g_wc (hw.trans (by rfl)) G
    refine W.eq (g2 := F0 m 40 ls []) rfl ?_
    refine lv_aload_n hx hb dX4_untoldWithout_40 rfl (lv_at hl 1 rfl) ?_
    refine g_get (q0 := 0) (v := .ref (ad 3)) C0 G in_X4 rfl rfl 2 (by decide) fl_X4_23 (fun _ h => h) rfl dX4_untoldWithout_41 ?_
    refine g_callVN (As := []) (rest := []) (q0 := 3) C0 G (GE.at (i := 3) rfl (fun R => (c_X3_unknownCells l D cy (R := R) (h := ad 3) (kn := (fa ((sdW (fr k) (bk k)) &&& (((1 : Int64) <<< ((nI j).toInt64 &&& 63)) ^^^ ((-1) : Int64))) ((onW (fr k) (bk k)) &&& ((sdW (fr k) (bk k)) &&& (((1 : Int64) <<< ((nI j).toInt64 &&& 63)) ^^^ ((-1) : Int64))))).1) (on := (fa ((sdW (fr k) (bk k)) &&& (((1 : Int64) <<< ((nI j).toInt64 &&& 63)) ^^^ ((-1) : Int64))) ((onW (fr k) (bk k)) &&& ((sdW (fr k) (bk k)) &&& (((1 : Int64) <<< ((nI j).toInt64 &&& 63)) ^^^ ((-1) : Int64))))).2)  ))) k_X3_unknownCells nm_X4_189 rfl rfl dX4_untoldWithout_44 rfl rfl hl.1 (Nat.le_of_ble_eq_true rfl) ⟨Nat.le_of_ble_eq_true rfl, Nat.le_of_ble_eq_true rfl⟩ ⟨Nat.le_of_ble_eq_true rfl, Nat.le_of_ble_eq_true rfl⟩ (fun r W2 H locs hp G => ?_)
    obtain ⟨rfl, hw⟩ := hp
    have G : gW D (wC ad cy fr bk vw tk to ((fa ((sdW (fr k) (bk k)) &&& (((1 : Int64) <<< ((nI j).toInt64 &&& 63)) ^^^ ((-1) : Int64))) ((onW (fr k) (bk k)) &&& ((sdW (fr k) (bk k)) &&& (((1 : Int64) <<< ((nI j).toInt64 &&& 63)) ^^^ ((-1) : Int64))))).1) ((fa ((sdW (fr k) (bk k)) &&& (((1 : Int64) <<< ((nI j).toInt64 &&& 63)) ^^^ ((-1) : Int64))) ((onW (fr k) (bk k)) &&& ((sdW (fr k) (bk k)) &&& (((1 : Int64) <<< ((nI j).toInt64 &&& 63)) ^^^ ((-1) : Int64))))).2) kp sp lt ib rw cl nu tv tm ta ml tn R) (va_A (wC ad cy fr bk vw tk to fk fo kp sp lt ib rw cl nu tv tm ta ml tn R) s.heap.size) s H locs := g_wc (hw.trans (by rfl)) G
    refine W.eq (g2 := F0 m 47 ls [.int (nI (pc (((fa ((sdW (fr k) (bk k)) &&& (((1 : Int64) <<< ((nI j).toInt64 &&& 63)) ^^^ ((-1) : Int64))) ((onW (fr k) (bk k)) &&& ((sdW (fr k) (bk k)) &&& (((1 : Int64) <<< ((nI j).toInt64 &&& 63)) ^^^ ((-1) : Int64))))).1) ^^^ (-1))))]) rfl ?_
    exact g_iret C0 G ⟨by first | rfl | (exfalso; omega) | (simp only [uwI, uwF, uwT, lfW, bitM, c_8, Bool.false_eq_true, ↓reduceIte, eq_self, decide_true, decide_false, not_true_eq_false, not_false_eq_true, Bool.true_and, Bool.false_and, Bool.and_true, Bool.and_false]; done) | (simp [uwI, uwF, uwT, lfW, bitM, c_8]; done) | (simp [uwI, uwF, uwT, lfW, bitM, c_8]; rfl) | (simp [uwI, uwF, uwT, lfW, bitM, c_8]; omega), by first | rfl | (exfalso; omega) | (simp only [uwI, uwF, uwT, lfW, bitM, c_8, Bool.false_eq_true, ↓reduceIte, eq_self, decide_true, decide_false, not_true_eq_false, not_false_eq_true, Bool.true_and, Bool.false_and, Bool.and_true, Bool.and_false]; done) | (simp [uwI, uwF, uwT, lfW, bitM, c_8]; done) | (simp [uwI, uwF, uwT, lfW, bitM, c_8]; rfl) | (simp [uwI, uwF, uwT, lfW, bitM, c_8]; omega)⟩ dX4_untoldWithout_47
  · skip
    have c_8 : (tb (sdW (fr k) (bk k)) j) = false := bI_f c_8
    refine lv_iconst (v := (-1)) hx hb dX4_untoldWithout_11 (by decide) ?_
    exact g_iret C0 G ⟨by first | rfl | (exfalso; omega) | (simp only [uwI, uwF, uwT, lfW, bitM, c_8, Bool.false_eq_true, ↓reduceIte, eq_self, decide_true, decide_false, not_true_eq_false, not_false_eq_true, Bool.true_and, Bool.false_and, Bool.and_true, Bool.and_false]; done) | (simp [uwI, uwF, uwT, lfW, bitM, c_8]; done) | (simp [uwI, uwF, uwT, lfW, bitM, c_8]; rfl) | (simp [uwI, uwF, uwT, lfW, bitM, c_8]; omega), by first | rfl | (exfalso; omega) | (simp only [uwI, uwF, uwT, lfW, bitM, c_8, Bool.false_eq_true, ↓reduceIte, eq_self, decide_true, decide_false, not_true_eq_false, not_false_eq_true, Bool.true_and, Bool.false_and, Bool.and_true, Bool.and_false]; done) | (simp [uwI, uwF, uwT, lfW, bitM, c_8]; done) | (simp [uwI, uwF, uwT, lfW, bitM, c_8]; rfl) | (simp [uwI, uwF, uwT, lfW, bitM, c_8]; omega)⟩ dX4_untoldWithout_12

set_option maxHeartbeats 4000000 in
set_option maxRecDepth 100000 in
theorem c_X4_worstCell (l : Launch) (D : va_G) (cy : Nat → ClassId) (ad : Nat → Nat) (fr : Nat → Int64) (bk : Nat → Int64) (vw : Nat → Nat) (tk : Int64) (to : Int64) (fk : Int64) (fo : Int64) (kp : Nat) (sp : Nat) (lt : Nat) (ib : Bool) (rw : Nat) (cl : Nat) (nu : Nat) (tv : Nat) (tm : Nat) (ta : Nat → Int32) (ml : Int32) (tn : Nat) (R : va_W) (k : Nat) (h1 : k < 21) : GE l D (gts cy) yX4_worstCell cX4_worstCell 6 (some .int) 5 0 0 [.ref (ad 0), .ref (ad (10 + k))] (wC ad cy fr bk vw tk to fk fo kp sp lt ib rw cl nu tv tm ta ml tn R) (gF (some (.int ((wcS (fr k) (bk k) 64).1))) (wC ad cy fr bk vw tk to ((wcF (fr k) (bk k) (fk, fo) 64).1) ((wcF (fr k) (bk k) (fk, fo) 64).2) kp sp lt ib rw cl nu tv tm ta ml tn R)) := by
  refine g_intro (by decide +kernel) (lv := [(0, .ref (ad 0)), (1, .ref (ad (10 + k)))]) rfl (Nat.le_of_ble_eq_true rfl) ?_
  intro p e s m below meth c C0 G ls hl
  have hx := C0.1
  have hb := C0.2.1
  have hown := C0.2.2.2.2.2.1
  have hts := C0.2.2.2.2.2.2.1
  refine lv_iconst (v := (-1)) hx hb dX4_worstCell_0 (by decide) ?_
  refine lv_istore_n (lv' := [(2, .int (-1)), (0, .ref (ad 0)), (1, .ref (ad (10 + k)))]) hx hb dX4_worstCell_1 rfl hl (by decide) rfl (fun ls hl => ?_)
  refine lv_iconst (v := (-1)) hx hb dX4_worstCell_2 (by decide) ?_
  refine lv_istore_n (lv' := [(3, .int (-1)), (2, .int (-1)), (0, .ref (ad 0)), (1, .ref (ad (10 + k)))]) hx hb dX4_worstCell_3 rfl hl (by decide) rfl (fun ls hl => ?_)
  refine lv_iconst (v := 0) hx hb dX4_worstCell_4 (by decide) ?_
  refine lv_istore (lv' := [(4, .int 0), (3, .int (-1)), (2, .int (-1)), (0, .ref (ad 0)), (1, .ref (ad (10 + k)))]) hx hb dX4_worstCell_5 hl (by decide) rfl (fun ls hl => ?_)
  have hl := lv_sub hl (l' := [(0, .ref (ad 0)), (1, .ref (ad (10 + k))), (2, .int (-1)), (3, .int (-1)), (4, .int 0)]) [3, 4, 2, 1, 0] rfl
  refine g_loop (σ := Nat) (fun i => 64 - i) (fun i => wC ad cy fr bk vw tk to ((wcF (fr k) (bk k) (fk, fo) i).1) ((wcF (fr k) (bk k) (fk, fo) i).2) kp sp lt ib rw cl nu tv tm ta ml tn R) (fun i => [(0, .ref (ad 0)), (1, .ref (ad (10 + k))), (2, .int ((wcS (fr k) (bk k) i).1)), (3, .int ((wcS (fr k) (bk k) i).2)), (4, .int (nI i))]) (fun i => i ≤ 64) ?_ 0 (by show _ ≤ _; omega) G hl
  intro i hi_7 ih_7 H locs ls G hl
  have G : gW D (wC ad cy fr bk vw tk to ((wcF (fr k) (bk k) (fk, fo) i).1) ((wcF (fr k) (bk k) (fk, fo) i).2) kp sp lt ib rw cl nu tv tm ta ml tn R) (va_A (wC ad cy fr bk vw tk to fk fo kp sp lt ib rw cl nu tv tm ta ml tn R) s.heap.size) s H locs := G
  have hl : lv_has ls 6 [(0, .ref (ad 0)), (1, .ref (ad (10 + k))), (2, .int ((wcS (fr k) (bk k) i).1)), (3, .int ((wcS (fr k) (bk k) i).2)), (4, .int (nI i))] := hl
  refine lv_iload hx hb dX4_worstCell_7 (lv_at hl 4 rfl) ?_
  refine lv_bipush (v := 64) hx hb dX4_worstCell_9 (by decide) ?_
  refine lv_icmp_ge (tgt := 41) hx hb dX4_worstCell_11 (by decide) (fun c_11 => ?_) (fun c_11 => ?_)
  · skip
    have c_11 : 64 ≤ i := (nI_leI (a := 64) (b := i) (by omega) (by omega)).mp c_11
    obtain rfl : i = 64 := by omega
    have G : gW D (wC ad cy fr bk vw tk to ((wcF (fr k) (bk k) (fk, fo) 64).1) ((wcF (fr k) (bk k) (fk, fo) 64).2) kp sp lt ib rw cl nu tv tm ta ml tn R) (va_A (wC ad cy fr bk vw tk to fk fo kp sp lt ib rw cl nu tv tm ta ml tn R) s.heap.size) s _ _ := G
    have hl : lv_has ls 6 [(0, .ref (ad 0)), (1, .ref (ad (10 + k))), (2, .int ((wcS (fr k) (bk k) 64).1)), (3, .int ((wcS (fr k) (bk k) 64).2)), (4, .int (nI 64))] := hl
    refine lv_iload_n hx hb dX4_worstCell_41 rfl (lv_at hl 2 rfl) ?_
    exact g_iret C0 G ⟨by first | rfl | (exfalso; omega) | (simp only [c_11, Bool.false_eq_true, ↓reduceIte, eq_self, decide_true, decide_false, not_true_eq_false, not_false_eq_true, Bool.true_and, Bool.false_and, Bool.and_true, Bool.and_false]; done) | (simp [c_11]; done) | (simp [c_11]; rfl) | (simp [c_11]; omega), by first | rfl | (exfalso; omega) | (simp only [c_11, Bool.false_eq_true, ↓reduceIte, eq_self, decide_true, decide_false, not_true_eq_false, not_false_eq_true, Bool.true_and, Bool.false_and, Bool.and_true, Bool.and_false]; done) | (simp [c_11]; done) | (simp [c_11]; rfl) | (simp [c_11]; omega)⟩ dX4_worstCell_42
  · skip
    have c_11 : ¬ (64 ≤ i) := fun h => c_11 ((nI_leI (a := 64) (b := i) (by omega) (by omega)).mpr h)
    refine lv_aload_n hx hb dX4_worstCell_14 rfl (lv_at hl 0 rfl) ?_
    refine lv_aload_n hx hb dX4_worstCell_15 rfl (lv_at hl 1 rfl) ?_
    refine lv_iload hx hb dX4_worstCell_16 (lv_at hl 4 rfl) ?_
    refine g_callV (As := [.ref (ad (10 + k)), .int (nI i)]) (rest := []) (q0 := 0) C0 G (c_X4_untoldWithout l D cy (ad := ad) (fr := fr) (bk := bk) (vw := vw) (tk := tk) (to := to) (fk := (wcF (fr k) (bk k) (fk, fo) i).1) (fo := (wcF (fr k) (bk k) (fk, fo) i).2) (kp := kp) (sp := sp) (lt := lt) (ib := ib) (rw := rw) (cl := cl) (nu := nu) (tv := tv) (tm := tm) (ta := ta) (ml := ml) (tn := tn) (R := R) (k := k) (j := i) (by omega) (by omega)) k_X4_untoldWithout ml_X4_202 rfl rfl dX4_worstCell_18 rfl rfl hl.1 (Nat.le_of_ble_eq_true rfl) ⟨Nat.le_of_ble_eq_true rfl, Nat.le_of_ble_eq_true rfl⟩ ⟨Nat.le_of_ble_eq_true rfl, Nat.le_of_ble_eq_true rfl⟩ (fun r W2 H locs hp G => ?_)
    obtain ⟨rfl, hw⟩ := hp
    have G := g_wc hw G
    refine W.eq (g2 := F0 m 21 ls [.int (uwI (fr k) (bk k) i)]) rfl ?_
    refine lv_istore (lv' := [(5, .int (uwI (fr k) (bk k) i)), (0, .ref (ad 0)), (1, .ref (ad (10 + k))), (2, .int ((wcS (fr k) (bk k) i).1)), (3, .int ((wcS (fr k) (bk k) i).2)), (4, .int (nI i))]) hx hb dX4_worstCell_21 hl (by decide) rfl (fun ls hl => ?_)
    refine lv_iload hx hb dX4_worstCell_23 (lv_at hl 0 rfl) ?_
    refine lv_iload_n hx hb dX4_worstCell_25 rfl (lv_at hl 4 rfl) ?_
    refine lv_icmp_le (tgt := 35) hx hb dX4_worstCell_26 (by decide) (fun c_26 => ?_) (fun c_26 => ?_)
    · skip
      refine lv_iinc (v := nI (i + 1)) (lv' := [(4, .int (nI (i + 1))), (5, .int (uwI (fr k) (bk k) i)), (0, .ref (ad 0)), (1, .ref (ad (10 + k))), (2, .int ((wcS (fr k) (bk k) i).1)), (3, .int ((wcS (fr k) (bk k) i).2))]) hx hb dX4_worstCell_35 hl (k := 5) rfl (nI_add i 1) (by decide) rfl (fun ls hl => ?_)
      refine lv_goto (tgt := 7) hx hb dX4_worstCell_38 (by decide) ?_
      have hl := lv_sub hl (l' := _) [2, 3, 4, 5, 0] rfl
      exact ih_7 (i + 1) (by show _ ≤ _; omega) (by show _ < _; omega) _ _ _ G (by first | (rw [show wcS (fr k) (bk k) (i + 1) = wcS (fr k) (bk k) i from if_pos c_26]; exact hl) | (rw [show wcS (fr k) (bk k) (i + 1) = (nI i, uwI (fr k) (bk k) i) from if_neg c_26]; exact hl))
    · skip
      refine lv_iload hx hb dX4_worstCell_29 (lv_at hl 0 rfl) ?_
      refine lv_istore_n (lv' := [(3, .int (uwI (fr k) (bk k) i)), (5, .int (uwI (fr k) (bk k) i)), (0, .ref (ad 0)), (1, .ref (ad (10 + k))), (2, .int ((wcS (fr k) (bk k) i).1)), (4, .int (nI i))]) hx hb dX4_worstCell_31 rfl hl (by decide) rfl (fun ls hl => ?_)
      refine lv_iload hx hb dX4_worstCell_32 (lv_at hl 5 rfl) ?_
      refine lv_istore_n (lv' := [(2, .int (nI i)), (3, .int (uwI (fr k) (bk k) i)), (5, .int (uwI (fr k) (bk k) i)), (0, .ref (ad 0)), (1, .ref (ad (10 + k))), (4, .int (nI i))]) hx hb dX4_worstCell_34 rfl hl (by decide) rfl (fun ls hl => ?_)
      refine lv_iinc (v := nI (i + 1)) (lv' := [(4, .int (nI (i + 1))), (2, .int (nI i)), (3, .int (uwI (fr k) (bk k) i)), (5, .int (uwI (fr k) (bk k) i)), (0, .ref (ad 0)), (1, .ref (ad (10 + k)))]) hx hb dX4_worstCell_35 hl (k := 5) rfl (nI_add i 1) (by decide) rfl (fun ls hl => ?_)
      refine lv_goto (tgt := 7) hx hb dX4_worstCell_38 (by decide) ?_
      have hl := lv_sub hl (l' := _) [4, 5, 1, 2, 0] rfl
      exact ih_7 (i + 1) (by show _ ≤ _; omega) (by show _ < _; omega) _ _ _ G (by first | (rw [show wcS (fr k) (bk k) (i + 1) = wcS (fr k) (bk k) i from if_pos c_26]; exact hl) | (rw [show wcS (fr k) (bk k) (i + 1) = (nI i, uwI (fr k) (bk k) i) from if_neg c_26]; exact hl))

set_option maxHeartbeats 4000000 in
set_option maxRecDepth 100000 in
theorem c_X4_mixed (l : Launch) (D : va_G) (cy : Nat → ClassId) (W1 : va_W) (ha : Int64) (x : Int32)  : GE l D (gts cy) yX4_mixed cX4_mixed 3 (some .long) 0 0 0 [.long ha, .int x] (W1) (gF (some (.long (mxL ha x))) (W1)) := by
  refine g_intro (by decide +kernel) (lv := [(0, .long ha), (2, .int x)]) rfl (Nat.le_of_ble_eq_true rfl) ?_
  intro p e s m below meth c C0 G ls hl
  have hx := C0.1
  have hb := C0.2.1
  have hown := C0.2.2.2.2.2.1
  have hts := C0.2.2.2.2.2.2.1
  refine lv_ldc2 (v := (31)) hx hb hown (hts _ kl_X4_261) dX4_mixed_0 ?_
  refine lv_lload_n hx hb dX4_mixed_3 rfl (lv_at hl 0 rfl) ?_
  refine lv_lmul hx hb dX4_mixed_4 ?_
  refine lv_iload_n hx hb dX4_mixed_5 rfl (lv_at hl 1 rfl) ?_
  refine lv_i2l hx hb dX4_mixed_6 rfl ?_
  refine lv_ladd hx hb dX4_mixed_7 ?_
  exact g_lret C0 G ⟨by first | rfl | (exfalso; omega) | (simp only [Bool.false_eq_true, ↓reduceIte, eq_self, decide_true, decide_false, not_true_eq_false, not_false_eq_true, Bool.true_and, Bool.false_and, Bool.and_true, Bool.and_false]; done) | (simp []; done) | (simp []; rfl) | (simp []; omega), by first | rfl | (exfalso; omega) | (simp only [Bool.false_eq_true, ↓reduceIte, eq_self, decide_true, decide_false, not_true_eq_false, not_false_eq_true, Bool.true_and, Bool.false_and, Bool.and_true, Bool.and_false]; done) | (simp []; done) | (simp []; rfl) | (simp []; omega)⟩ dX4_mixed_8

set_option maxHeartbeats 4000000 in
set_option maxRecDepth 100000 in
theorem c_X4_mixedWithCounts (l : Launch) (D : va_G) (cy : Nat → ClassId) (R : va_W) (h : Nat) (f : Int64) (b : Int64) (v : Nat) (ha : Int64)  : GE l D (gts cy) yX4_mixedWithCounts cX4_mixedWithCounts 6 (some .long) 2 0 0 [.long ha, .ref h] ((h, .inr (1, [.long f, .long b, .int (nI v)])) :: R) (gF (some (.long (mcL f b ha 4))) ((h, .inr (1, [.long f, .long b, .int (nI v)])) :: R)) := by
  refine g_intro (by decide +kernel) (lv := [(0, .long ha), (2, .ref h)]) rfl (Nat.le_of_ble_eq_true rfl) ?_
  intro p e s m below meth c C0 G ls hl
  have hx := C0.1
  have hb := C0.2.1
  have hown := C0.2.2.2.2.2.1
  have hts := C0.2.2.2.2.2.2.1
  refine lv_lload_n hx hb dX4_mixedWithCounts_0 rfl (lv_at hl 0 rfl) ?_
  refine lv_lstore_n (lv' := [(3, .long ha), (0, .long ha), (2, .ref h)]) hx hb dX4_mixedWithCounts_1 rfl hl (by decide) rfl (fun ls hl => ?_)
  refine lv_iconst (v := 0) hx hb dX4_mixedWithCounts_2 (by decide) ?_
  refine lv_istore (lv' := [(5, .int 0), (3, .long ha), (0, .long ha), (2, .ref h)]) hx hb dX4_mixedWithCounts_3 hl (by decide) rfl (fun ls hl => ?_)
  have hl := lv_sub hl (l' := [(0, .long ha), (2, .ref h), (3, .long ha), (5, .int 0)]) [2, 3, 1, 0] rfl
  refine g_loop (σ := Nat) (fun i => 4 - i) (fun i => (h, .inr (1, [.long f, .long b, .int (nI v)])) :: R) (fun i => [(0, .long ha), (2, .ref h), (3, .long (mcL f b ha i)), (5, .int (nI i))]) (fun i => i ≤ 4) ?_ 0 (by show _ ≤ _; omega) G hl
  intro i hi_5 ih_5 H locs ls G hl
  have G : gW D ((h, .inr (1, [.long f, .long b, .int (nI v)])) :: R) (va_A ((h, .inr (1, [.long f, .long b, .int (nI v)])) :: R) s.heap.size) s H locs := G
  have hl : lv_has ls 6 [(0, .long ha), (2, .ref h), (3, .long (mcL f b ha i)), (5, .int (nI i))] := hl
  refine lv_iload hx hb dX4_mixedWithCounts_5 (lv_at hl 3 rfl) ?_
  refine lv_iconst (v := 4) hx hb dX4_mixedWithCounts_7 (by decide) ?_
  refine lv_icmp_ge (tgt := 31) hx hb dX4_mixedWithCounts_8 (by decide) (fun c_8 => ?_) (fun c_8 => ?_)
  · skip
    have c_8 : 4 ≤ i := (nI_leI (a := 4) (b := i) (by omega) (by omega)).mp c_8
    obtain rfl : i = 4 := by omega
    have G : gW D ((h, .inr (1, [.long f, .long b, .int (nI v)])) :: R) (va_A ((h, .inr (1, [.long f, .long b, .int (nI v)])) :: R) s.heap.size) s _ _ := G
    have hl : lv_has ls 6 [(0, .long ha), (2, .ref h), (3, .long (mcL f b ha 4)), (5, .int (nI 4))] := hl
    refine lv_lload_n hx hb dX4_mixedWithCounts_31 rfl (lv_at hl 2 rfl) ?_
    exact g_lret C0 G ⟨by first | rfl | (exfalso; omega) | (simp only [c_8, Bool.false_eq_true, ↓reduceIte, eq_self, decide_true, decide_false, not_true_eq_false, not_false_eq_true, Bool.true_and, Bool.false_and, Bool.and_true, Bool.and_false]; done) | (simp [c_8]; done) | (simp [c_8]; rfl) | (simp [c_8]; omega), by first | rfl | (exfalso; omega) | (simp only [c_8, Bool.false_eq_true, ↓reduceIte, eq_self, decide_true, decide_false, not_true_eq_false, not_false_eq_true, Bool.true_and, Bool.false_and, Bool.and_true, Bool.and_false]; done) | (simp [c_8]; done) | (simp [c_8]; rfl) | (simp [c_8]; omega)⟩ dX4_mixedWithCounts_32
  · skip
    have c_8 : ¬ (4 ≤ i) := fun h => c_8 ((nI_leI (a := 4) (b := i) (by omega) (by omega)).mpr h)
    refine lv_lload_n hx hb dX4_mixedWithCounts_11 rfl (lv_at hl 2 rfl) ?_
    refine lv_aload_n hx hb dX4_mixedWithCounts_12 rfl (lv_at hl 1 rfl) ?_
    refine lv_iload hx hb dX4_mixedWithCounts_13 (lv_at hl 3 rfl) ?_
    refine g_callVN (As := [.int (nI i)]) (rest := [.long (mcL f b ha i)]) (q0 := 0) C0 G (c_X0_cellsOfKind l D cy (R := R) (h := h) (f := f) (b := b) (v := v) (k := i) (by omega)) k_X0_cellsOfKind nm_X4_176 rfl rfl dX4_mixedWithCounts_15 rfl rfl hl.1 (Nat.le_of_ble_eq_true rfl) ⟨Nat.le_of_ble_eq_true rfl, Nat.le_of_ble_eq_true rfl⟩ ⟨Nat.le_of_ble_eq_true rfl, Nat.le_of_ble_eq_true rfl⟩ (fun r W2 H locs hp G => ?_)
    obtain ⟨rfl, hw⟩ := hp
    have G := g_wc hw G
    refine W.eq (g2 := F0 m 18 ls [.long (kdW f b i), .long (mcL f b ha i)]) rfl ?_
    refine g_callS (As := [.long (kdW f b i)]) (rest := [.long (mcL f b ha i)]) C0 G (c_J13_bitCount_95d88 l D cy (W1 := (h, .inr (1, [.long f, .long b, .int (nI v)])) :: R) (w := kdW f b i) ) k_J13_bitCount_95d88 ml_X4_93 dX4_mixedWithCounts_18 rfl rfl hl.1 (Nat.le_of_ble_eq_true rfl) ⟨Nat.le_of_ble_eq_true rfl, Nat.le_of_ble_eq_true rfl⟩ ⟨Nat.le_of_ble_eq_true rfl, Nat.le_of_ble_eq_true rfl⟩ (fun r W2 H locs hp G => ?_)
    obtain ⟨rfl, hw⟩ := hp
    have G := g_wc hw G
    refine W.eq (g2 := F0 m 21 ls [.int (nI (pc (kdW f b i))), .long (mcL f b ha i)]) rfl ?_
    refine g_callS (As := [.long (mcL f b ha i), .int (nI (pc (kdW f b i)))]) (rest := []) C0 G (c_X4_mixed l D cy (W1 := (h, .inr (1, [.long f, .long b, .int (nI v)])) :: R) (ha := mcL f b ha i) (x := nI (pc (kdW f b i))) ) k_X4_mixed ml_X4_246 dX4_mixedWithCounts_21 rfl rfl hl.1 (Nat.le_of_ble_eq_true rfl) ⟨Nat.le_of_ble_eq_true rfl, Nat.le_of_ble_eq_true rfl⟩ ⟨Nat.le_of_ble_eq_true rfl, Nat.le_of_ble_eq_true rfl⟩ (fun r W2 H locs hp G => ?_)
    obtain ⟨rfl, hw⟩ := hp
    have G := g_wc hw G
    refine W.eq (g2 := F0 m 24 ls [.long (mxL (mcL f b ha i) (nI (pc (kdW f b i))))]) rfl ?_
    refine lv_lstore_n (lv' := [(3, .long (mxL (mcL f b ha i) (nI (pc (kdW f b i))))), (0, .long ha), (2, .ref h), (5, .int (nI i))]) hx hb dX4_mixedWithCounts_24 rfl hl (by decide) rfl (fun ls hl => ?_)
    refine lv_iinc (v := nI (i + 1)) (lv' := [(5, .int (nI (i + 1))), (3, .long (mxL (mcL f b ha i) (nI (pc (kdW f b i))))), (0, .long ha), (2, .ref h)]) hx hb dX4_mixedWithCounts_25 hl (k := 3) rfl (nI_add i 1) (by decide) rfl (fun ls hl => ?_)
    refine lv_goto (tgt := 5) hx hb dX4_mixedWithCounts_28 (by decide) ?_
    have hl := lv_sub hl (l' := _) [2, 3, 1, 0] rfl
    exact ih_5 (i + 1) (by show _ ≤ _; omega) (by show _ < _; omega) _ _ _ G hl

set_option maxHeartbeats 4000000 in
set_option maxRecDepth 100000 in
theorem c_X4_mixedWithRows (l : Launch) (D : va_G) (cy : Nat → ClassId) (ad : Nat → Nat) (fr : Nat → Int64) (bk : Nat → Int64) (vw : Nat → Nat) (tk : Int64) (to : Int64) (fk : Int64) (fo : Int64) (kp : Nat) (sp : Nat) (lt : Nat) (ib : Bool) (rw : Nat) (cl : Nat) (nu : Nat) (tv : Nat) (tm : Nat) (ta : Nat → Int32) (ml : Int32) (tn : Nat) (R : va_W) (ha : Int64) (k : Nat) (h1 : k < 21) (h2 : vw k < 4) : GE l D (gts cy) yX4_mixedWithRows cX4_mixedWithRows 7 (some .long) 4 0 0 [.long ha, .ref (ad (10 + k)), .ref (ad 2)] (wC ad cy fr bk vw tk to fk fo kp sp lt ib rw cl nu tv tm ta ml tn R) (gF (some (.long (mrB (fr k) (bk k) tk to (mrA (fr k) (bk k) (vw k) ha 8) 7))) (wC ad cy fr bk vw tk to fk fo kp sp lt ib rw cl nu tv tm ta ml tn R)) := by
  refine g_intro (by decide +kernel) (lv := [(0, .long ha), (2, .ref (ad (10 + k))), (3, .ref (ad 2))]) rfl (Nat.le_of_ble_eq_true rfl) ?_
  intro p e s m below meth c C0 G ls hl
  have hx := C0.1
  have hb := C0.2.1
  have hown := C0.2.2.2.2.2.1
  have hts := C0.2.2.2.2.2.2.1
  refine lv_lload_n hx hb dX4_mixedWithRows_0 rfl (lv_at hl 0 rfl) ?_
  refine lv_lstore (lv' := [(4, .long ha), (0, .long ha), (2, .ref (ad (10 + k))), (3, .ref (ad 2))]) hx hb dX4_mixedWithRows_1 hl (by decide) rfl (fun ls hl => ?_)
  refine lv_iconst (v := 0) hx hb dX4_mixedWithRows_3 (by decide) ?_
  refine lv_istore (lv' := [(6, .int 0), (4, .long ha), (0, .long ha), (2, .ref (ad (10 + k))), (3, .ref (ad 2))]) hx hb dX4_mixedWithRows_4 hl (by decide) rfl (fun ls hl => ?_)
  have hl := lv_sub hl (l' := [(0, .long ha), (2, .ref (ad (10 + k))), (3, .ref (ad 2)), (4, .long ha), (6, .int 0)]) [2, 3, 4, 1, 0] rfl
  refine g_loop (σ := Nat) (fun i => 8 - i) (fun i => wC ad cy fr bk vw tk to fk fo kp sp lt ib rw cl nu tv tm ta ml tn R) (fun i => [(0, .long ha), (2, .ref (ad (10 + k))), (3, .ref (ad 2)), (4, .long (mrA (fr k) (bk k) (vw k) ha i)), (6, .int (nI i))]) (fun i => i ≤ 8) ?_ 0 (by show _ ≤ _; omega) G hl
  intro i hi_6 ih_6 H locs ls G hl
  have G : gW D (wC ad cy fr bk vw tk to fk fo kp sp lt ib rw cl nu tv tm ta ml tn R) (va_A (wC ad cy fr bk vw tk to fk fo kp sp lt ib rw cl nu tv tm ta ml tn R) s.heap.size) s H locs := G
  have hl : lv_has ls 7 [(0, .long ha), (2, .ref (ad (10 + k))), (3, .ref (ad 2)), (4, .long (mrA (fr k) (bk k) (vw k) ha i)), (6, .int (nI i))] := hl
  refine lv_iload hx hb dX4_mixedWithRows_6 (lv_at hl 4 rfl) ?_
  refine lv_bipush (v := 8) hx hb dX4_mixedWithRows_8 (by decide) ?_
  refine lv_icmp_ge (tgt := 32) hx hb dX4_mixedWithRows_10 (by decide) (fun c_10 => ?_) (fun c_10 => ?_)
  · skip
    have c_10 : 8 ≤ i := (nI_leI (a := 8) (b := i) (by omega) (by omega)).mp c_10
    obtain rfl : i = 8 := by omega
    have G : gW D (wC ad cy fr bk vw tk to fk fo kp sp lt ib rw cl nu tv tm ta ml tn R) (va_A (wC ad cy fr bk vw tk to fk fo kp sp lt ib rw cl nu tv tm ta ml tn R) s.heap.size) s _ _ := G
    have hl : lv_has ls 7 [(0, .long ha), (2, .ref (ad (10 + k))), (3, .ref (ad 2)), (4, .long (mrA (fr k) (bk k) (vw k) ha 8)), (6, .int (nI 8))] := hl
    refine lv_iconst (v := 0) hx hb dX4_mixedWithRows_32 (by decide) ?_
    refine lv_istore (lv' := [(6, .int 0), (0, .long ha), (2, .ref (ad (10 + k))), (3, .ref (ad 2)), (4, .long (mrA (fr k) (bk k) (vw k) ha 8))]) hx hb dX4_mixedWithRows_33 hl (by decide) rfl (fun ls hl => ?_)
    have hl := lv_sub hl (l' := [(0, .long ha), (2, .ref (ad (10 + k))), (3, .ref (ad 2)), (4, .long (mrA (fr k) (bk k) (vw k) ha 8)), (6, .int 0)]) [1, 2, 3, 4, 0] rfl
    refine g_loop (σ := Nat) (fun j => 7 - j) (fun j => wC ad cy fr bk vw tk to fk fo kp sp lt ib rw cl nu tv tm ta ml tn R) (fun j => [(0, .long ha), (2, .ref (ad (10 + k))), (3, .ref (ad 2)), (4, .long (mrB (fr k) (bk k) tk to (mrA (fr k) (bk k) (vw k) ha 8) j)), (6, .int (nI j))]) (fun j => j ≤ 7) ?_ 0 (by show _ ≤ _; omega) G hl
    intro j hi_35 ih_35 H locs ls G hl
    have G : gW D (wC ad cy fr bk vw tk to fk fo kp sp lt ib rw cl nu tv tm ta ml tn R) (va_A (wC ad cy fr bk vw tk to fk fo kp sp lt ib rw cl nu tv tm ta ml tn R) s.heap.size) s H locs := G
    have hl : lv_has ls 7 [(0, .long ha), (2, .ref (ad (10 + k))), (3, .ref (ad 2)), (4, .long (mrB (fr k) (bk k) tk to (mrA (fr k) (bk k) (vw k) ha 8) j)), (6, .int (nI j))] := hl
    refine lv_iload hx hb dX4_mixedWithRows_35 (lv_at hl 4 rfl) ?_
    refine lv_bipush (v := 7) hx hb dX4_mixedWithRows_37 (by decide) ?_
    refine lv_icmp_ge (tgt := 88) hx hb dX4_mixedWithRows_39 (by decide) (fun c_39 => ?_) (fun c_39 => ?_)
    · skip
      have c_39 : 7 ≤ j := (nI_leI (a := 7) (b := j) (by omega) (by omega)).mp c_39
      obtain rfl : j = 7 := by omega
      have G : gW D (wC ad cy fr bk vw tk to fk fo kp sp lt ib rw cl nu tv tm ta ml tn R) (va_A (wC ad cy fr bk vw tk to fk fo kp sp lt ib rw cl nu tv tm ta ml tn R) s.heap.size) s _ _ := G
      have hl : lv_has ls 7 [(0, .long ha), (2, .ref (ad (10 + k))), (3, .ref (ad 2)), (4, .long (mrB (fr k) (bk k) tk to (mrA (fr k) (bk k) (vw k) ha 8) 7)), (6, .int (nI 7))] := hl
      refine lv_lload hx hb dX4_mixedWithRows_88 (lv_at hl 3 rfl) ?_
      exact g_lret C0 G ⟨by first | rfl | (exfalso; omega) | (simp only [c_10, c_39, Bool.false_eq_true, ↓reduceIte, eq_self, decide_true, decide_false, not_true_eq_false, not_false_eq_true, Bool.true_and, Bool.false_and, Bool.and_true, Bool.and_false]; done) | (simp [c_10, c_39]; done) | (simp [c_10, c_39]; rfl) | (simp [c_10, c_39]; omega), by first | rfl | (exfalso; omega) | (simp only [c_10, c_39, Bool.false_eq_true, ↓reduceIte, eq_self, decide_true, decide_false, not_true_eq_false, not_false_eq_true, Bool.true_and, Bool.false_and, Bool.and_true, Bool.and_false]; done) | (simp [c_10, c_39]; done) | (simp [c_10, c_39]; rfl) | (simp [c_10, c_39]; omega)⟩ dX4_mixedWithRows_90
    · skip
      have c_39 : ¬ (7 ≤ j) := fun h => c_39 ((nI_leI (a := 7) (b := j) (by omega) (by omega)).mpr h)
      refine lv_lload hx hb dX4_mixedWithRows_42 (lv_at hl 3 rfl) ?_
      refine lv_aload_n hx hb dX4_mixedWithRows_44 rfl (lv_at hl 1 rfl) ?_
      refine g_callVN (As := []) (rest := [.long (mrB (fr k) (bk k) tk to (mrA (fr k) (bk k) (vw k) ha 8) j)]) (q0 := k + 9) C0 G (GE.at (i := k + 9) (wC_at (k := k) (by omega)) (fun R => (c_X0_sound l D cy (R := R) (h := ad (10 + k)) (f := fr k) (b := bk k) (v := vw k)  ))) k_X0_sound nm_X4_180 (wC_at (k := k) (by omega)) rfl dX4_mixedWithRows_45 rfl rfl hl.1 (Nat.le_of_ble_eq_true rfl) ⟨Nat.le_of_ble_eq_true rfl, Nat.le_of_ble_eq_true rfl⟩ ⟨Nat.le_of_ble_eq_true rfl, Nat.le_of_ble_eq_true rfl⟩ (fun r W2 H locs hp G => ?_)
      obtain ⟨rfl, hw⟩ := hp
      have G : gW D (wC ad cy fr bk vw tk to fk fo kp sp lt ib rw cl nu tv tm ta ml tn R) (va_A (wC ad cy fr bk vw tk to fk fo kp sp lt ib rw cl nu tv tm ta ml tn R) s.heap.size) s H locs := g_wc (hw.trans (wC_set (k := k) (by omega) (va_up_s _ _) (va_up_s _ _) (va_up_s _ _))) G
      refine W.eq (g2 := F0 m 48 ls [.long (sdW (fr k) (bk k)), .long (mrB (fr k) (bk k) tk to (mrA (fr k) (bk k) (vw k) ha 8) j)]) rfl ?_
      refine lv_aload_n hx hb dX4_mixedWithRows_48 rfl (lv_at hl 1 rfl) ?_
      refine g_callVN (As := []) (rest := [.long (sdW (fr k) (bk k)), .long (mrB (fr k) (bk k) tk to (mrA (fr k) (bk k) (vw k) ha 8) j)]) (q0 := k + 9) C0 G (GE.at (i := k + 9) (wC_at (k := k) (by omega)) (fun R => (c_X0_ones l D cy (R := R) (h := ad (10 + k)) (f := fr k) (b := bk k) (v := vw k)  ))) k_X0_ones nm_X4_183 (wC_at (k := k) (by omega)) rfl dX4_mixedWithRows_49 rfl rfl hl.1 (Nat.le_of_ble_eq_true rfl) ⟨Nat.le_of_ble_eq_true rfl, Nat.le_of_ble_eq_true rfl⟩ ⟨Nat.le_of_ble_eq_true rfl, Nat.le_of_ble_eq_true rfl⟩ (fun r W2 H locs hp G => ?_)
      obtain ⟨rfl, hw⟩ := hp
      have G : gW D (wC ad cy fr bk vw tk to fk fo kp sp lt ib rw cl nu tv tm ta ml tn R) (va_A (wC ad cy fr bk vw tk to fk fo kp sp lt ib rw cl nu tv tm ta ml tn R) s.heap.size) s H locs := g_wc (hw.trans (wC_set (k := k) (by omega) (va_up_s _ _) (va_up_s _ _) (va_up_s _ _))) G
      refine W.eq (g2 := F0 m 52 ls [.long (onW (fr k) (bk k)), .long (sdW (fr k) (bk k)), .long (mrB (fr k) (bk k) tk to (mrA (fr k) (bk k) (vw k) ha 8) j)]) rfl ?_
      refine lv_iload hx hb dX4_mixedWithRows_52 (lv_at hl 4 rfl) ?_
      refine g_callS (As := [.long (sdW (fr k) (bk k)), .long (onW (fr k) (bk k)), .int (nI j)]) (rest := [.long (mrB (fr k) (bk k) tk to (mrA (fr k) (bk k) (vw k) ha 8) j)]) C0 G (c_X4_rowValue l D cy (W1 := wC ad cy fr bk vw tk to fk fo kp sp lt ib rw cl nu tv tm ta ml tn R) (kn := sdW (fr k) (bk k)) (on := onW (fr k) (bk k)) (row := j) (by omega)) k_X4_rowValue ml_X4_185 dX4_mixedWithRows_54 rfl rfl hl.1 (Nat.le_of_ble_eq_true rfl) ⟨Nat.le_of_ble_eq_true rfl, Nat.le_of_ble_eq_true rfl⟩ ⟨Nat.le_of_ble_eq_true rfl, Nat.le_of_ble_eq_true rfl⟩ (fun r W2 H locs hp G => ?_)
      obtain ⟨rfl, hw⟩ := hp
      have G := g_wc hw G
      refine W.eq (g2 := F0 m 57 ls [.int (rvI (sdW (fr k) (bk k)) (onW (fr k) (bk k)) j), .long (mrB (fr k) (bk k) tk to (mrA (fr k) (bk k) (vw k) ha 8) j)]) rfl ?_
      refine g_callS (As := [.long (mrB (fr k) (bk k) tk to (mrA (fr k) (bk k) (vw k) ha 8) j), .int (rvI (sdW (fr k) (bk k)) (onW (fr k) (bk k)) j)]) (rest := []) C0 G (c_X4_mixed l D cy (W1 := wC ad cy fr bk vw tk to fk fo kp sp lt ib rw cl nu tv tm ta ml tn R) (ha := mrB (fr k) (bk k) tk to (mrA (fr k) (bk k) (vw k) ha 8) j) (x := rvI (sdW (fr k) (bk k)) (onW (fr k) (bk k)) j) ) k_X4_mixed ml_X4_246 dX4_mixedWithRows_57 rfl rfl hl.1 (Nat.le_of_ble_eq_true rfl) ⟨Nat.le_of_ble_eq_true rfl, Nat.le_of_ble_eq_true rfl⟩ ⟨Nat.le_of_ble_eq_true rfl, Nat.le_of_ble_eq_true rfl⟩ (fun r W2 H locs hp G => ?_)
      obtain ⟨rfl, hw⟩ := hp
      have G := g_wc hw G
      refine W.eq (g2 := F0 m 60 ls [.long (mxL (mrB (fr k) (bk k) tk to (mrA (fr k) (bk k) (vw k) ha 8) j) (rvI (sdW (fr k) (bk k)) (onW (fr k) (bk k)) j))]) rfl ?_
      refine lv_lstore (lv' := [(4, .long (mxL (mrB (fr k) (bk k) tk to (mrA (fr k) (bk k) (vw k) ha 8) j) (rvI (sdW (fr k) (bk k)) (onW (fr k) (bk k)) j))), (0, .long ha), (2, .ref (ad (10 + k))), (3, .ref (ad 2)), (6, .int (nI j))]) hx hb dX4_mixedWithRows_60 hl (by decide) rfl (fun ls hl => ?_)
      refine lv_lload hx hb dX4_mixedWithRows_62 (lv_at hl 0 rfl) ?_
      refine lv_aload_n hx hb dX4_mixedWithRows_64 rfl (lv_at hl 3 rfl) ?_
      refine g_getN (q0 := 2) (v := .long tk) C0 G in_X3 rfl rfl 0 (by decide) nf_X4_114 (fun _ h => h) rfl dX4_mixedWithRows_65 ?_
      refine lv_aload_n hx hb dX4_mixedWithRows_68 rfl (lv_at hl 3 rfl) ?_
      refine g_getN (q0 := 2) (v := .long to) C0 G in_X3 rfl rfl 1 (by decide) nf_X4_111 (fun _ h => h) rfl dX4_mixedWithRows_69 ?_
      refine lv_iload hx hb dX4_mixedWithRows_72 (lv_at hl 4 rfl) ?_
      refine g_callS (As := [.long tk, .long to, .int (nI j)]) (rest := [.long (mxL (mrB (fr k) (bk k) tk to (mrA (fr k) (bk k) (vw k) ha 8) j) (rvI (sdW (fr k) (bk k)) (onW (fr k) (bk k)) j))]) C0 G (c_X4_rowValue l D cy (W1 := wC ad cy fr bk vw tk to fk fo kp sp lt ib rw cl nu tv tm ta ml tn R) (kn := tk) (on := to) (row := j) (by omega)) k_X4_rowValue ml_X4_185 dX4_mixedWithRows_74 rfl rfl hl.1 (Nat.le_of_ble_eq_true rfl) ⟨Nat.le_of_ble_eq_true rfl, Nat.le_of_ble_eq_true rfl⟩ ⟨Nat.le_of_ble_eq_true rfl, Nat.le_of_ble_eq_true rfl⟩ (fun r W2 H locs hp G => ?_)
      obtain ⟨rfl, hw⟩ := hp
      have G := g_wc hw G
      refine W.eq (g2 := F0 m 77 ls [.int (rvI tk to j), .long (mxL (mrB (fr k) (bk k) tk to (mrA (fr k) (bk k) (vw k) ha 8) j) (rvI (sdW (fr k) (bk k)) (onW (fr k) (bk k)) j))]) rfl ?_
      refine g_callS (As := [.long (mxL (mrB (fr k) (bk k) tk to (mrA (fr k) (bk k) (vw k) ha 8) j) (rvI (sdW (fr k) (bk k)) (onW (fr k) (bk k)) j)), .int (rvI tk to j)]) (rest := []) C0 G (c_X4_mixed l D cy (W1 := wC ad cy fr bk vw tk to fk fo kp sp lt ib rw cl nu tv tm ta ml tn R) (ha := mxL (mrB (fr k) (bk k) tk to (mrA (fr k) (bk k) (vw k) ha 8) j) (rvI (sdW (fr k) (bk k)) (onW (fr k) (bk k)) j)) (x := rvI tk to j) ) k_X4_mixed ml_X4_246 dX4_mixedWithRows_77 rfl rfl hl.1 (Nat.le_of_ble_eq_true rfl) ⟨Nat.le_of_ble_eq_true rfl, Nat.le_of_ble_eq_true rfl⟩ ⟨Nat.le_of_ble_eq_true rfl, Nat.le_of_ble_eq_true rfl⟩ (fun r W2 H locs hp G => ?_)
      obtain ⟨rfl, hw⟩ := hp
      have G := g_wc hw G
      refine W.eq (g2 := F0 m 80 ls [.long (mxL (mxL (mrB (fr k) (bk k) tk to (mrA (fr k) (bk k) (vw k) ha 8) j) (rvI (sdW (fr k) (bk k)) (onW (fr k) (bk k)) j)) (rvI tk to j))]) rfl ?_
      refine lv_lstore (lv' := [(4, .long (mxL (mxL (mrB (fr k) (bk k) tk to (mrA (fr k) (bk k) (vw k) ha 8) j) (rvI (sdW (fr k) (bk k)) (onW (fr k) (bk k)) j)) (rvI tk to j))), (0, .long ha), (2, .ref (ad (10 + k))), (3, .ref (ad 2)), (6, .int (nI j))]) hx hb dX4_mixedWithRows_80 hl (by decide) rfl (fun ls hl => ?_)
      refine lv_iinc (v := nI (j + 1)) (lv' := [(6, .int (nI (j + 1))), (4, .long (mxL (mxL (mrB (fr k) (bk k) tk to (mrA (fr k) (bk k) (vw k) ha 8) j) (rvI (sdW (fr k) (bk k)) (onW (fr k) (bk k)) j)) (rvI tk to j))), (0, .long ha), (2, .ref (ad (10 + k))), (3, .ref (ad 2))]) hx hb dX4_mixedWithRows_82 hl (k := 4) rfl (nI_add j 1) (by decide) rfl (fun ls hl => ?_)
      refine lv_goto (tgt := 35) hx hb dX4_mixedWithRows_85 (by decide) ?_
      have hl := lv_sub hl (l' := _) [2, 3, 4, 1, 0] rfl
      exact ih_35 (j + 1) (by show _ ≤ _; omega) (by show _ < _; omega) _ _ _ G hl
  · skip
    have c_10 : ¬ (8 ≤ i) := fun h => c_10 ((nI_leI (a := 8) (b := i) (by omega) (by omega)).mpr h)
    refine lv_lload hx hb dX4_mixedWithRows_13 (lv_at hl 3 rfl) ?_
    refine lv_aload_n hx hb dX4_mixedWithRows_15 rfl (lv_at hl 1 rfl) ?_
    refine lv_iload hx hb dX4_mixedWithRows_16 (lv_at hl 4 rfl) ?_
    refine g_callVN (As := [.int (nI i)]) (rest := [.long (mrA (fr k) (bk k) (vw k) ha i)]) (q0 := k + 9) C0 G (GE.at (i := k + 9) (wC_at (k := k) (by omega)) (fun R => (c_X0_rawNumber l D cy (R := R) (h := ad (10 + k)) (f := fr k) (b := bk k) (v := vw k) (row := i) (by omega) (by omega)))) k_X0_rawNumber nm_X4_162 (wC_at (k := k) (by omega)) rfl dX4_mixedWithRows_18 rfl rfl hl.1 (Nat.le_of_ble_eq_true rfl) ⟨Nat.le_of_ble_eq_true rfl, Nat.le_of_ble_eq_true rfl⟩ ⟨Nat.le_of_ble_eq_true rfl, Nat.le_of_ble_eq_true rfl⟩ (fun r W2 H locs hp G => ?_)
    obtain ⟨rfl, hw⟩ := hp
    have G : gW D (wC ad cy fr bk vw tk to fk fo kp sp lt ib rw cl nu tv tm ta ml tn R) (va_A (wC ad cy fr bk vw tk to fk fo kp sp lt ib rw cl nu tv tm ta ml tn R) s.heap.size) s H locs := g_wc (hw.trans (wC_set (k := k) (by omega) (va_up_s _ _) (va_up_s _ _) (va_up_s _ _))) G
    refine W.eq (g2 := F0 m 21 ls [.int (nI (rwN (fr k) (bk k) (vw k) i 8)), .long (mrA (fr k) (bk k) (vw k) ha i)]) rfl ?_
    refine g_callS (As := [.long (mrA (fr k) (bk k) (vw k) ha i), .int (nI (rwN (fr k) (bk k) (vw k) i 8))]) (rest := []) C0 G (c_X4_mixed l D cy (W1 := wC ad cy fr bk vw tk to fk fo kp sp lt ib rw cl nu tv tm ta ml tn R) (ha := mrA (fr k) (bk k) (vw k) ha i) (x := nI (rwN (fr k) (bk k) (vw k) i 8)) ) k_X4_mixed ml_X4_246 dX4_mixedWithRows_21 rfl rfl hl.1 (Nat.le_of_ble_eq_true rfl) ⟨Nat.le_of_ble_eq_true rfl, Nat.le_of_ble_eq_true rfl⟩ ⟨Nat.le_of_ble_eq_true rfl, Nat.le_of_ble_eq_true rfl⟩ (fun r W2 H locs hp G => ?_)
    obtain ⟨rfl, hw⟩ := hp
    have G := g_wc hw G
    refine W.eq (g2 := F0 m 24 ls [.long (mxL (mrA (fr k) (bk k) (vw k) ha i) (nI (rwN (fr k) (bk k) (vw k) i 8)))]) rfl ?_
    refine lv_lstore (lv' := [(4, .long (mxL (mrA (fr k) (bk k) (vw k) ha i) (nI (rwN (fr k) (bk k) (vw k) i 8)))), (0, .long ha), (2, .ref (ad (10 + k))), (3, .ref (ad 2)), (6, .int (nI i))]) hx hb dX4_mixedWithRows_24 hl (by decide) rfl (fun ls hl => ?_)
    refine lv_iinc (v := nI (i + 1)) (lv' := [(6, .int (nI (i + 1))), (4, .long (mxL (mrA (fr k) (bk k) (vw k) ha i) (nI (rwN (fr k) (bk k) (vw k) i 8)))), (0, .long ha), (2, .ref (ad (10 + k))), (3, .ref (ad 2))]) hx hb dX4_mixedWithRows_26 hl (k := 4) rfl (nI_add i 1) (by decide) rfl (fun ls hl => ?_)
    refine lv_goto (tgt := 6) hx hb dX4_mixedWithRows_29 (by decide) ?_
    have hl := lv_sub hl (l' := _) [2, 3, 4, 1, 0] rfl
    exact ih_6 (i + 1) (by show _ ≤ _; omega) (by show _ < _; omega) _ _ _ G hl

set_option maxHeartbeats 4000000 in
set_option maxRecDepth 100000 in
theorem c_X4_mixedWithCells (l : Launch) (D : va_G) (cy : Nat → ClassId) (ad : Nat → Nat) (fr : Nat → Int64) (bk : Nat → Int64) (vw : Nat → Nat) (tk : Int64) (to : Int64) (fk : Int64) (fo : Int64) (kp : Nat) (sp : Nat) (lt : Nat) (ib : Bool) (rw : Nat) (cl : Nat) (nu : Nat) (tv : Nat) (tm : Nat) (ta : Nat → Int32) (ml : Int32) (tn : Nat) (R : va_W) (ha : Int64) (k : Nat) (h1 : k < 21) : GE l D (gts cy) yX4_mixedWithCells cX4_mixedWithCells 7 (some .long) 2 0 0 [.long ha, .ref (ad (10 + k)), .ref (ad 2)] (wC ad cy fr bk vw tk to fk fo kp sp lt ib rw cl nu tv tm ta ml tn R) (gF (some (.long (mlL (fr k) (bk k) tk to ha 64))) (wC ad cy fr bk vw tk to fk fo kp sp lt ib rw cl nu tv tm ta ml tn R)) := by
  refine g_intro (by decide +kernel) (lv := [(0, .long ha), (2, .ref (ad (10 + k))), (3, .ref (ad 2))]) rfl (Nat.le_of_ble_eq_true rfl) ?_
  intro p e s m below meth c C0 G ls hl
  have hx := C0.1
  have hb := C0.2.1
  have hown := C0.2.2.2.2.2.1
  have hts := C0.2.2.2.2.2.2.1
  refine lv_lload_n hx hb dX4_mixedWithCells_0 rfl (lv_at hl 0 rfl) ?_
  refine lv_lstore (lv' := [(4, .long ha), (0, .long ha), (2, .ref (ad (10 + k))), (3, .ref (ad 2))]) hx hb dX4_mixedWithCells_1 hl (by decide) rfl (fun ls hl => ?_)
  refine lv_iconst (v := 0) hx hb dX4_mixedWithCells_3 (by decide) ?_
  refine lv_istore (lv' := [(6, .int 0), (4, .long ha), (0, .long ha), (2, .ref (ad (10 + k))), (3, .ref (ad 2))]) hx hb dX4_mixedWithCells_4 hl (by decide) rfl (fun ls hl => ?_)
  have hl := lv_sub hl (l' := [(0, .long ha), (2, .ref (ad (10 + k))), (3, .ref (ad 2)), (4, .long ha), (6, .int 0)]) [2, 3, 4, 1, 0] rfl
  refine g_loop (σ := Nat) (fun i => 64 - i) (fun i => wC ad cy fr bk vw tk to fk fo kp sp lt ib rw cl nu tv tm ta ml tn R) (fun i => [(0, .long ha), (2, .ref (ad (10 + k))), (3, .ref (ad 2)), (4, .long (mlL (fr k) (bk k) tk to ha i)), (6, .int (nI i))]) (fun i => i ≤ 64) ?_ 0 (by show _ ≤ _; omega) G hl
  intro i hi_6 ih_6 H locs ls G hl
  have G : gW D (wC ad cy fr bk vw tk to fk fo kp sp lt ib rw cl nu tv tm ta ml tn R) (va_A (wC ad cy fr bk vw tk to fk fo kp sp lt ib rw cl nu tv tm ta ml tn R) s.heap.size) s H locs := G
  have hl : lv_has ls 7 [(0, .long ha), (2, .ref (ad (10 + k))), (3, .ref (ad 2)), (4, .long (mlL (fr k) (bk k) tk to ha i)), (6, .int (nI i))] := hl
  refine lv_iload hx hb dX4_mixedWithCells_6 (lv_at hl 4 rfl) ?_
  refine lv_bipush (v := 64) hx hb dX4_mixedWithCells_8 (by decide) ?_
  refine lv_icmp_ge (tgt := 45) hx hb dX4_mixedWithCells_10 (by decide) (fun c_10 => ?_) (fun c_10 => ?_)
  · skip
    have c_10 : 64 ≤ i := (nI_leI (a := 64) (b := i) (by omega) (by omega)).mp c_10
    obtain rfl : i = 64 := by omega
    have G : gW D (wC ad cy fr bk vw tk to fk fo kp sp lt ib rw cl nu tv tm ta ml tn R) (va_A (wC ad cy fr bk vw tk to fk fo kp sp lt ib rw cl nu tv tm ta ml tn R) s.heap.size) s _ _ := G
    have hl : lv_has ls 7 [(0, .long ha), (2, .ref (ad (10 + k))), (3, .ref (ad 2)), (4, .long (mlL (fr k) (bk k) tk to ha 64)), (6, .int (nI 64))] := hl
    refine lv_lload hx hb dX4_mixedWithCells_45 (lv_at hl 3 rfl) ?_
    exact g_lret C0 G ⟨by first | rfl | (exfalso; omega) | (simp only [c_10, Bool.false_eq_true, ↓reduceIte, eq_self, decide_true, decide_false, not_true_eq_false, not_false_eq_true, Bool.true_and, Bool.false_and, Bool.and_true, Bool.and_false]; done) | (simp [c_10]; done) | (simp [c_10]; rfl) | (simp [c_10]; omega), by first | rfl | (exfalso; omega) | (simp only [c_10, Bool.false_eq_true, ↓reduceIte, eq_self, decide_true, decide_false, not_true_eq_false, not_false_eq_true, Bool.true_and, Bool.false_and, Bool.and_true, Bool.and_false]; done) | (simp [c_10]; done) | (simp [c_10]; rfl) | (simp [c_10]; omega)⟩ dX4_mixedWithCells_47
  · skip
    have c_10 : ¬ (64 ≤ i) := fun h => c_10 ((nI_leI (a := 64) (b := i) (by omega) (by omega)).mpr h)
    refine lv_lload hx hb dX4_mixedWithCells_13 (lv_at hl 3 rfl) ?_
    refine lv_aload_n hx hb dX4_mixedWithCells_15 rfl (lv_at hl 1 rfl) ?_
    refine lv_iload hx hb dX4_mixedWithCells_16 (lv_at hl 4 rfl) ?_
    refine g_callVN (As := [.int (nI i)]) (rest := [.long (mlL (fr k) (bk k) tk to ha i)]) (q0 := k + 9) C0 G (GE.at (i := k + 9) (wC_at (k := k) (by omega)) (fun R => (c_X0_kindAt l D cy (R := R) (h := ad (10 + k)) (f := fr k) (b := bk k) (v := vw k) (k := i) (by omega)))) k_X0_kindAt nm_X4_143 (wC_at (k := k) (by omega)) rfl dX4_mixedWithCells_18 rfl rfl hl.1 (Nat.le_of_ble_eq_true rfl) ⟨Nat.le_of_ble_eq_true rfl, Nat.le_of_ble_eq_true rfl⟩ ⟨Nat.le_of_ble_eq_true rfl, Nat.le_of_ble_eq_true rfl⟩ (fun r W2 H locs hp G => ?_)
    obtain ⟨rfl, hw⟩ := hp
    have G : gW D (wC ad cy fr bk vw tk to fk fo kp sp lt ib rw cl nu tv tm ta ml tn R) (va_A (wC ad cy fr bk vw tk to fk fo kp sp lt ib rw cl nu tv tm ta ml tn R) s.heap.size) s H locs := g_wc (hw.trans (wC_set (k := k) (by omega) (va_up_s _ _) (va_up_s _ _) (va_up_s _ _))) G
    refine W.eq (g2 := F0 m 21 ls [.int (kdI (fr k) (bk k) i), .long (mlL (fr k) (bk k) tk to ha i)]) rfl ?_
    refine g_callS (As := [.long (mlL (fr k) (bk k) tk to ha i), .int (kdI (fr k) (bk k) i)]) (rest := []) C0 G (c_X4_mixed l D cy (W1 := wC ad cy fr bk vw tk to fk fo kp sp lt ib rw cl nu tv tm ta ml tn R) (ha := mlL (fr k) (bk k) tk to ha i) (x := kdI (fr k) (bk k) i) ) k_X4_mixed ml_X4_246 dX4_mixedWithCells_21 rfl rfl hl.1 (Nat.le_of_ble_eq_true rfl) ⟨Nat.le_of_ble_eq_true rfl, Nat.le_of_ble_eq_true rfl⟩ ⟨Nat.le_of_ble_eq_true rfl, Nat.le_of_ble_eq_true rfl⟩ (fun r W2 H locs hp G => ?_)
    obtain ⟨rfl, hw⟩ := hp
    have G := g_wc hw G
    refine W.eq (g2 := F0 m 24 ls [.long (mxL (mlL (fr k) (bk k) tk to ha i) (kdI (fr k) (bk k) i))]) rfl ?_
    refine lv_lstore (lv' := [(4, .long (mxL (mlL (fr k) (bk k) tk to ha i) (kdI (fr k) (bk k) i))), (0, .long ha), (2, .ref (ad (10 + k))), (3, .ref (ad 2)), (6, .int (nI i))]) hx hb dX4_mixedWithCells_24 hl (by decide) rfl (fun ls hl => ?_)
    refine lv_lload hx hb dX4_mixedWithCells_26 (lv_at hl 0 rfl) ?_
    refine lv_aload_n hx hb dX4_mixedWithCells_28 rfl (lv_at hl 3 rfl) ?_
    refine lv_iload hx hb dX4_mixedWithCells_29 (lv_at hl 4 rfl) ?_
    refine g_callVN (As := [.int (nI i)]) (rest := [.long (mxL (mlL (fr k) (bk k) tk to ha i) (kdI (fr k) (bk k) i))]) (q0 := 2) C0 G (GE.at (i := 2) rfl (fun R => (c_X3_bitAt l D cy (R := R) (h := ad 2) (kn := tk) (on := to) (k := i) (by omega)))) k_X3_bitAt nm_X4_168 rfl rfl dX4_mixedWithCells_31 rfl rfl hl.1 (Nat.le_of_ble_eq_true rfl) ⟨Nat.le_of_ble_eq_true rfl, Nat.le_of_ble_eq_true rfl⟩ ⟨Nat.le_of_ble_eq_true rfl, Nat.le_of_ble_eq_true rfl⟩ (fun r W2 H locs hp G => ?_)
    obtain ⟨rfl, hw⟩ := hp
    have G : gW D (wC ad cy fr bk vw tk to fk fo kp sp lt ib rw cl nu tv tm ta ml tn R) (va_A (wC ad cy fr bk vw tk to fk fo kp sp lt ib rw cl nu tv tm ta ml tn R) s.heap.size) s H locs := g_wc (hw.trans (by rfl)) G
    refine W.eq (g2 := F0 m 34 ls [.int (biI tk to i), .long (mxL (mlL (fr k) (bk k) tk to ha i) (kdI (fr k) (bk k) i))]) rfl ?_
    refine g_callS (As := [.long (mxL (mlL (fr k) (bk k) tk to ha i) (kdI (fr k) (bk k) i)), .int (biI tk to i)]) (rest := []) C0 G (c_X4_mixed l D cy (W1 := wC ad cy fr bk vw tk to fk fo kp sp lt ib rw cl nu tv tm ta ml tn R) (ha := mxL (mlL (fr k) (bk k) tk to ha i) (kdI (fr k) (bk k) i)) (x := biI tk to i) ) k_X4_mixed ml_X4_246 dX4_mixedWithCells_34 rfl rfl hl.1 (Nat.le_of_ble_eq_true rfl) ⟨Nat.le_of_ble_eq_true rfl, Nat.le_of_ble_eq_true rfl⟩ ⟨Nat.le_of_ble_eq_true rfl, Nat.le_of_ble_eq_true rfl⟩ (fun r W2 H locs hp G => ?_)
    obtain ⟨rfl, hw⟩ := hp
    have G := g_wc hw G
    refine W.eq (g2 := F0 m 37 ls [.long (mxL (mxL (mlL (fr k) (bk k) tk to ha i) (kdI (fr k) (bk k) i)) (biI tk to i))]) rfl ?_
    refine lv_lstore (lv' := [(4, .long (mxL (mxL (mlL (fr k) (bk k) tk to ha i) (kdI (fr k) (bk k) i)) (biI tk to i))), (0, .long ha), (2, .ref (ad (10 + k))), (3, .ref (ad 2)), (6, .int (nI i))]) hx hb dX4_mixedWithCells_37 hl (by decide) rfl (fun ls hl => ?_)
    refine lv_iinc (v := nI (i + 1)) (lv' := [(6, .int (nI (i + 1))), (4, .long (mxL (mxL (mlL (fr k) (bk k) tk to ha i) (kdI (fr k) (bk k) i)) (biI tk to i))), (0, .long ha), (2, .ref (ad (10 + k))), (3, .ref (ad 2))]) hx hb dX4_mixedWithCells_39 hl (k := 4) rfl (nI_add i 1) (by decide) rfl (fun ls hl => ?_)
    refine lv_goto (tgt := 6) hx hb dX4_mixedWithCells_42 (by decide) ?_
    have hl := lv_sub hl (l' := _) [2, 3, 4, 1, 0] rfl
    exact ih_6 (i + 1) (by show _ ≤ _; omega) (by show _ < _; omega) _ _ _ G hl
