set_option maxHeartbeats 4000000 in
set_option maxRecDepth 100000 in
theorem c_J5_ensureCapacityInternal_d00df_g (l : Launch) (D : va_G) (cy : Nat → ClassId) (ad : Nat → Nat) (fr : Nat → Int64) (bk : Nat → Int64) (vw : Nat → Nat) (tk : Int64) (to : Int64) (fk : Int64) (fo : Int64) (kp : Nat) (sp : Nat) (lt : Nat) (ib : Bool) (rw : Nat) (cl : Nat) (nu : Nat) (tv : Nat) (tm : Nat) (ta : Nat → Int32) (ml : Int32) (tn : Nat) (R : va_W) (a1 : Nat) (h0 : 0 < tm) (h1 : tm < a1) (h2 : a1 < 90) (hfit : ∀ i, i < tm → fits .byte (.int (ta i)) = true) : GE l D (gts cy) yJ5_ensureCapacityInternal_d00df cJ5_ensureCapacityInternal_d00df 3 none 2 1 200 [.ref (ad 7), .int (nI a1)] (wC ad cy fr bk vw tk to fk fo kp sp lt ib rw cl nu tv tm ta ml tn R) (fun r W2 => r = none ∧ ∃ t : Nat, W2 = (wC ad cy fr bk vw tk to fk fo kp sp lt ib rw cl nu t (nlN tm (a1 - tm) (tm + 2)) (va_cpy ta (fun _ => 0) 0 0 tm) ml tn R)) := by
  refine g_intro (by decide +kernel) (lv := [(0, .ref (ad 7)), (1, .int (nI a1))]) rfl (Nat.le_of_ble_eq_true rfl) ?_
  intro p e s m below meth c C0 G ls hl
  have hx := C0.1
  have hb := C0.2.1
  have hown := C0.2.2.2.2.2.1
  have hts := C0.2.2.2.2.2.2.1
  refine lv_aload_n hx hb dJ5_ensureCapacityInternal_d00df_0 rfl (lv_at hl 0 rfl) ?_
  refine g_get (q0 := 7) (v := .ref tv) C0 G in_J4 rfl rfl 0 (by decide) fl_J5_15 (fun _ h => h) rfl dJ5_ensureCapacityInternal_d00df_1 ?_
  refine g_alen (q0 := 8) (v := nI tm) C0 G rfl 0 rfl rfl dJ5_ensureCapacityInternal_d00df_4 ?_
  refine lv_aload_n hx hb dJ5_ensureCapacityInternal_d00df_5 rfl (lv_at hl 0 rfl) ?_
  refine g_get (q0 := 7) (v := .int 0) C0 G in_J4 rfl rfl 1 (by decide) fl_J5_22 (fun _ h => h) rfl dJ5_ensureCapacityInternal_d00df_6 ?_
  refine lv_ishr hx hb dJ5_ensureCapacityInternal_d00df_9 ?_
  refine g_topi (x' := nI (tm / 2 ^ 0)) (shrN (a := tm) (n := 0) (by omega) (by omega)) ?_
  refine g_topi (x' := nI tm) (congrArg nI (by omega)) ?_
  refine lv_istore_n (lv' := [(2, .int (nI tm)), (0, .ref (ad 7)), (1, .int (nI a1))]) hx hb dJ5_ensureCapacityInternal_d00df_10 rfl hl (by decide) rfl (fun ls hl => ?_)
  refine lv_iload_n hx hb dJ5_ensureCapacityInternal_d00df_11 rfl (lv_at hl 2 rfl) ?_
  refine lv_iload_n hx hb dJ5_ensureCapacityInternal_d00df_12 rfl (lv_at hl 0 rfl) ?_
  refine lv_isub hx hb dJ5_ensureCapacityInternal_d00df_13 ?_
  refine g_topi (x' := nI a1 - nI tm) rfl ?_
  refine lv_if_le (tgt := 38) hx hb dJ5_ensureCapacityInternal_d00df_14 (by decide) (fun c_14 => ?_) (fun c_14 => ?_)
  · exact absurd ((i_sub_le (by omega) (by omega)).mp c_14) (by omega)
  · refine lv_aload_n hx hb dJ5_ensureCapacityInternal_d00df_17 rfl (lv_at hl 1 rfl) ?_
    refine lv_aload_n hx hb dJ5_ensureCapacityInternal_d00df_18 rfl (lv_at hl 1 rfl) ?_
    refine g_get (q0 := 7) (v := .ref tv) C0 G in_J4 rfl rfl 0 (by decide) fl_J5_15 (fun _ h => h) rfl dJ5_ensureCapacityInternal_d00df_19 ?_
    refine lv_aload_n hx hb dJ5_ensureCapacityInternal_d00df_22 rfl (lv_at hl 1 rfl) ?_
    refine lv_iload_n hx hb dJ5_ensureCapacityInternal_d00df_23 rfl (lv_at hl 2 rfl) ?_
    refine g_callP (q0 := 7) (As := [.int (nI a1)]) (rest := [.ref tv, .ref (ad 7)]) C0 G (c_J5_newCapacity_0f7a4 l D cy (ad := ad) (fr := fr) (bk := bk) (vw := vw) (tk := tk) (to := to) (fk := fk) (fo := fo) (kp := kp) (sp := sp) (lt := lt) (ib := ib) (rw := rw) (cl := cl) (nu := nu) (tv := tv) (tm := tm) (ta := ta) (ml := ml) (tn := tn) (R := R) (a1 := a1) h0 h1 (by omega)) kp_J5_newCapacity_0f7a4 kw_J5_isLatin1_aae02.1.2.1 rfl ml_J5_104 rfl rfl dJ5_ensureCapacityInternal_d00df_24 rfl rfl hl.1 (Nat.le_of_ble_eq_true rfl) ⟨Nat.le_of_ble_eq_true rfl, Nat.le_of_ble_eq_true rfl⟩ ⟨Nat.le_of_ble_eq_true rfl, Nat.le_of_ble_eq_true rfl⟩ (fun r W2 H locs hp G => ?_)
    obtain ⟨rfl, hw⟩ := hp
    have G := g_wc hw G
    refine W.eq (g2 := F0 m 27 ls [.int (nI (nlN tm (a1 - tm) (tm + 2))), .ref tv, .ref (ad 7)]) rfl ?_
    refine lv_aload_n hx hb dJ5_ensureCapacityInternal_d00df_27 rfl (lv_at hl 1 rfl) ?_
    refine g_get (q0 := 7) (v := .int 0) C0 G in_J4 rfl rfl 1 (by decide) fl_J5_22 (fun _ h => h) rfl dJ5_ensureCapacityInternal_d00df_28 ?_
    refine lv_ishl hx hb dJ5_ensureCapacityInternal_d00df_31 ?_
    refine g_topi (x' := nI (nlN tm (a1 - tm) (tm + 2))) (shl0 _) ?_
    have hnl := nl_b tm (a1 - tm) (tm + 2)
    refine g_callS (As := [.ref tv, .int (nI (nlN tm (a1 - tm) (tm + 2)))]) (rest := [.ref (ad 7)]) C0 G (c_J7_copyOf_9075b l D cy _ 8 tv tm (nlN tm (a1 - tm) (tm + 2)) ta rfl (by omega) (by omega) hfit) k_J7_copyOf_9075b ml_J5_108 dJ5_ensureCapacityInternal_d00df_32 rfl rfl hl.1 (Nat.le_of_ble_eq_true rfl) ⟨Nat.le_of_ble_eq_true rfl, Nat.le_of_ble_eq_true rfl⟩ ⟨Nat.le_of_ble_eq_true rfl, Nat.le_of_ble_eq_true rfl⟩ (fun r W2 H locs hp G => ?_)
    obtain ⟨t, rfl, hw⟩ := hp
    have G := g_wc hw G
    refine W.eq (g2 := F0 m 35 ls [.ref t, .ref (ad 7)]) rfl ?_
    refine g_put (q0 := 7) (W2 := ((wC ad cy fr bk vw tk to fk fo kp sp lt ib rw cl nu tv tm ta ml tn R).set 7 (ad 7, .inr (1, [.ref t, .int 0, .int ml, .int (nI tn)]))) ++ [(t, .inl (cy 0, (nlN tm (a1 - tm) (tm + 2)), .inl (va_cpy ta (fun _ => 0) 0 0 tm)))]) C0 G ft_J4 in_J4 rfl rfl 0 (by decide) fl_J5_15 (fun _ h => h) rfl rfl rfl (Nat.le_of_ble_eq_true rfl) rfl dJ5_ensureCapacityInternal_d00df_35 (fun H locs G => ?_)
    have G := g_swapL (i := 8) G (by rw [List.length_set]; unfold wC; simp only [List.length_cons]; omega)
    exact g_vret C0 G ⟨rfl, t, rfl⟩ dJ5_ensureCapacityInternal_d00df_38
