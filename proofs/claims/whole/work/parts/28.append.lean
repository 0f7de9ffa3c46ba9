set_option maxHeartbeats 4000000 in
set_option maxRecDepth 100000 in
theorem c_J5_append_3fe6f_g (l : Launch) (D : va_G) (cy : Nat → ClassId) (ad : Nat → Nat) (fr : Nat → Int64) (bk : Nat → Int64) (vw : Nat → Nat) (tk : Int64) (to : Int64) (fk : Int64) (fo : Int64) (kp : Nat) (sp : Nat) (lt : Nat) (ib : Bool) (rw : Nat) (cl : Nat) (nu : Nat) (tv : Nat) (tm : Nat) (ta : Nat → Int32) (ml : Int32) (tn : Nat) (R : va_W) (ch : Nat) (h1 : ch < 128) (h2 : 0 < tm) (h3 : tn = tm) (h4 : tm < 80) (hfit : ∀ i, i < tm → fits .byte (.int (ta i)) = true) : GE l D (gts cy) yJ5_append_3fe6f cJ5_append_3fe6f 2 (some (.object "java/lang/AbstractStringBuilder")) 3 1 200 [.ref (ad 7), .int (nI ch)] (wC ad cy fr bk vw tk to fk fo kp sp lt ib rw cl nu tv tm ta ml tn R) (fun r W2 => ∃ t : Nat, r = some (.ref (ad 7)) ∧ W2 = wC ad cy fr bk vw tk to fk fo kp sp lt ib rw cl nu t (nlN tm ((tn + 1) - tm) (tm + 2)) (upd (va_cpy ta (fun _ => 0) 0 0 tm) tn (nI ch)) ml (tn + 1) R) := by
  refine g_intro (by decide +kernel) (lv := [(0, .ref (ad 7)), (1, .int (nI ch))]) rfl (Nat.le_of_ble_eq_true rfl) ?_
  intro p e s m below meth c C0 G ls hl
  have hx := C0.1
  have hb := C0.2.1
  have hown := C0.2.2.2.2.2.1
  have hts := C0.2.2.2.2.2.2.1
  refine lv_aload_n hx hb dJ5_append_3fe6f_0 rfl (lv_at hl 0 rfl) ?_
  refine lv_aload_n hx hb dJ5_append_3fe6f_1 rfl (lv_at hl 0 rfl) ?_
  refine g_get (q0 := 7) (v := .int (nI tn)) C0 G in_J4 rfl rfl 3 (by decide) fl_J5_79 (fun _ h => h) rfl dJ5_append_3fe6f_2 ?_
  refine lv_iconst (v := 1) hx hb dJ5_append_3fe6f_5 (by decide) ?_
  refine lv_iadd hx hb dJ5_append_3fe6f_6 ?_
  refine g_topi (x' := nI (tn + 1)) (nI_add tn 1) ?_
  refine g_callP (As := [.int (nI (tn + 1))]) (rest := []) (q0 := 7) C0 G (c_J5_ensureCapacityInternal_d00df_g l D cy (ad := ad) (fr := fr) (bk := bk) (vw := vw) (tk := tk) (to := to) (fk := fk) (fo := fo) (kp := kp) (sp := sp) (lt := lt) (ib := ib) (rw := rw) (cl := cl) (nu := nu) (tv := tv) (tm := tm) (ta := ta) (ml := ml) (tn := tn) (R := R) (a1 := tn + 1) (by omega) (by omega) (by omega) hfit) kp_J5_ensureCapacityInternal_d00df kw_J5_isLatin1_aae02.1.2.1 rfl ml_J5_100 rfl rfl dJ5_append_3fe6f_7 rfl rfl hl.1 (Nat.le_of_ble_eq_true rfl) ⟨Nat.le_of_ble_eq_true rfl, Nat.le_of_ble_eq_true rfl⟩ ⟨Nat.le_of_ble_eq_true rfl, Nat.le_of_ble_eq_true rfl⟩ (fun r W2 H locs hp G => ?_)
  obtain ⟨rfl, t, hw⟩ := hp
  have G := g_wc hw G
  have hnl := nl_b tm ((tn + 1) - tm) (tm + 2)
  refine W.eq (g2 := F0 m 10 ls []) rfl ?_
  refine lv_aload_n hx hb dJ5_append_3fe6f_10 rfl (lv_at hl 0 rfl) ?_
  refine g_callW (As := []) (rest := []) (q0 := 7) C0 G (c_J5_isLatin1_aae02 l D cy (ad := ad) (fr := fr) (bk := bk) (vw := vw) (tk := tk) (to := to) (fk := fk) (fo := fo) (kp := kp) (sp := sp) (lt := lt) (ib := ib) (rw := rw) (cl := cl) (nu := nu) (tv := t) (tm := (nlN tm ((tn + 1) - tm) (tm + 2))) (ta := (va_cpy ta (fun _ => 0) 0 0 tm)) (ml := ml) (tn := tn) (R := R)  ) kw_J5_isLatin1_aae02 ml_J5_83 rfl rfl dJ5_append_3fe6f_11 rfl rfl hl.1 (Nat.le_of_ble_eq_true rfl) ⟨Nat.le_of_ble_eq_true rfl, Nat.le_of_ble_eq_true rfl⟩ ⟨Nat.le_of_ble_eq_true rfl, Nat.le_of_ble_eq_true rfl⟩ (fun r W2 H locs hp G => ?_)
  obtain ⟨rfl, hw⟩ := hp
  have G := g_wc hw G
  refine W.eq (g2 := F0 m 14 ls [.int (bI true)]) rfl ?_
  refine lv_if_eq (tgt := 45) hx hb dJ5_append_3fe6f_14 (by decide) (fun c_14 => ?_) (fun c_14 => ?_)
  · skip
    have c_14 : true = false := bI_f c_14
    cases c_14
  · skip
    have c_14 : true = true := bI_t c_14
    refine lv_iload_n hx hb dJ5_append_3fe6f_17 rfl (lv_at hl 1 rfl) ?_
    refine g_callS (As := [.int (nI ch)]) (rest := []) C0 G (c_J1_canEncode_fc78d l D cy (W1 := wC ad cy fr bk vw tk to fk fo kp sp lt ib rw cl nu t (nlN tm ((tn + 1) - tm) (tm + 2)) (va_cpy ta (fun _ => 0) 0 0 tm) ml tn R) (ch := ch) (by omega)) k_J1_canEncode_fc78d ml_J5_191 dJ5_append_3fe6f_18 rfl rfl hl.1 (Nat.le_of_ble_eq_true rfl) ⟨Nat.le_of_ble_eq_true rfl, Nat.le_of_ble_eq_true rfl⟩ ⟨Nat.le_of_ble_eq_true rfl, Nat.le_of_ble_eq_true rfl⟩ (fun r W2 H locs hp G => ?_)
    obtain ⟨rfl, hw⟩ := hp
    have G := g_wc hw G
    refine W.eq (g2 := F0 m 21 ls [.int (bI true)]) rfl ?_
    refine lv_if_eq (tgt := 45) hx hb dJ5_append_3fe6f_21 (by decide) (fun c_21 => ?_) (fun c_21 => ?_)
    · skip
      have c_21 : true = false := bI_f c_21
      cases c_21
    · skip
      have c_21 : true = true := bI_t c_21
      refine lv_aload_n hx hb dJ5_append_3fe6f_24 rfl (lv_at hl 0 rfl) ?_
      refine g_get (q0 := 7) (v := .ref t) C0 G in_J4 rfl rfl 0 (by decide) fl_J5_15 (fun _ h => h) rfl dJ5_append_3fe6f_25 ?_
      refine lv_aload_n hx hb dJ5_append_3fe6f_28 rfl (lv_at hl 0 rfl) ?_
      refine lv_dup hx hb dJ5_append_3fe6f_29 rfl ?_
      refine g_get (q0 := 7) (v := .int (nI tn)) C0 G in_J4 rfl rfl 3 (by decide) fl_J5_79 (fun _ h => h) rfl dJ5_append_3fe6f_30 ?_
      refine lv_dup_x1 hx hb dJ5_append_3fe6f_33 rfl rfl ?_
      refine lv_iconst (v := 1) hx hb dJ5_append_3fe6f_34 (by decide) ?_
      refine lv_iadd hx hb dJ5_append_3fe6f_35 ?_
      refine g_topi (x' := nI (tn + 1)) (nI_add tn 1) ?_
      refine g_put (q0 := 7) (W2 := wC ad cy fr bk vw tk to fk fo kp sp lt ib rw cl nu t (nlN tm ((tn + 1) - tm) (tm + 2)) (va_cpy ta (fun _ => 0) 0 0 tm) ml (tn + 1) R) C0 G ft_J4 in_J4 rfl rfl 3 (by decide) fl_J5_79 (fun _ h => h) rfl rfl rfl (Nat.le_of_ble_eq_true rfl) rfl dJ5_append_3fe6f_36 (fun H locs G => ?_)
      refine lv_iload_n hx hb dJ5_append_3fe6f_39 rfl (lv_at hl 1 rfl) ?_
      refine lv_i2b hx hb dJ5_append_3fe6f_40 rfl ?_
      refine g_topi (x' := nI ch) (i2b_s ch h1) ?_
      refine g_bast (q0 := 8) (n := (nlN tm ((tn + 1) - tm) (tm + 2))) (W2 := wC ad cy fr bk vw tk to fk fo kp sp lt ib rw cl nu t (nlN tm ((tn + 1) - tm) (tm + 2)) (upd (va_cpy ta (fun _ => 0) 0 0 tm) tn (nI ch)) ml (tn + 1) R) C0 G rfl 0 rfl (vp_in_nI (n := tn) (by omega) (by omega)) (by rw [nI_clamp (n := tn) (by omega), nar_s ch (by omega)]; rfl) dJ5_append_3fe6f_41 (fun H locs G => ?_)
      refine lv_goto (tgt := 75) hx hb dJ5_append_3fe6f_42 (by decide) ?_
      refine lv_aload_n hx hb dJ5_append_3fe6f_75 rfl (lv_at hl 0 rfl) ?_
      exact g_aret C0 G (Or.inl ⟨_, rfl⟩) ⟨t, rfl, rfl⟩ dJ5_append_3fe6f_76

set_option maxHeartbeats 4000000 in
set_option maxRecDepth 100000 in
theorem c_J4_append_cf468_g (l : Launch) (D : va_G) (cy : Nat → ClassId) (ad : Nat → Nat) (fr : Nat → Int64) (bk : Nat → Int64) (vw : Nat → Nat) (tk : Int64) (to : Int64) (fk : Int64) (fo : Int64) (kp : Nat) (sp : Nat) (lt : Nat) (ib : Bool) (rw : Nat) (cl : Nat) (nu : Nat) (tv : Nat) (tm : Nat) (ta : Nat → Int32) (ml : Int32) (tn : Nat) (R : va_W) (ch : Nat) (h1 : ch < 128) (h2 : 0 < tm) (h3 : tn = tm) (h4 : tm < 80) (hfit : ∀ i, i < tm → fits .byte (.int (ta i)) = true) : GE l D (gts cy) yJ4_append_cf468 cJ4_append_cf468 2 (some (.object "java/lang/StringBuilder")) 4 1 200 [.ref (ad 7), .int (nI ch)] (wC ad cy fr bk vw tk to fk fo kp sp lt ib rw cl nu tv tm ta ml tn R) (fun r W2 => ∃ t : Nat, r = some (.ref (ad 7)) ∧ W2 = wC ad cy fr bk vw tk to fk fo kp sp lt ib rw cl nu t (nlN tm ((tn + 1) - tm) (tm + 2)) (upd (va_cpy ta (fun _ => 0) 0 0 tm) tn (nI ch)) ml (tn + 1) R) := by
  refine g_intro (by decide +kernel) (lv := [(0, .ref (ad 7)), (1, .int (nI ch))]) rfl (Nat.le_of_ble_eq_true rfl) ?_
  intro p e s m below meth c C0 G ls hl
  have hx := C0.1
  have hb := C0.2.1
  have hown := C0.2.2.2.2.2.1
  have hts := C0.2.2.2.2.2.2.1
  refine lv_aload_n hx hb dJ4_append_cf468_0 rfl (lv_at hl 0 rfl) ?_
  refine lv_iload_n hx hb dJ4_append_cf468_1 rfl (lv_at hl 1 rfl) ?_
  refine g_callU (As := [.int (nI ch)]) (rest := []) (q0 := 7) C0 G (c_J5_append_3fe6f_g l D cy (ad := ad) (fr := fr) (bk := bk) (vw := vw) (tk := tk) (to := to) (fk := fk) (fo := fo) (kp := kp) (sp := sp) (lt := lt) (ib := ib) (rw := rw) (cl := cl) (nu := nu) (tv := tv) (tm := tm) (ta := ta) (ml := ml) (tn := tn) (R := R) (ch := ch) (by omega) (by omega) (by omega) (by omega) hfit) ku_J5_append_3fe6f ml_J4_50 rfl rfl dJ4_append_cf468_2 rfl rfl hl.1 (Nat.le_of_ble_eq_true rfl) ⟨Nat.le_of_ble_eq_true rfl, Nat.le_of_ble_eq_true rfl⟩ ⟨Nat.le_of_ble_eq_true rfl, Nat.le_of_ble_eq_true rfl⟩ (fun r W2 H locs hp G => ?_)
  obtain ⟨t, rfl, hw⟩ := hp
  have G := g_wc hw G
  refine W.eq (g2 := F0 m 5 ls [.ref (ad 7)]) rfl ?_
  refine lv_pop hx hb dJ4_append_cf468_5 rfl ?_
  refine lv_aload_n hx hb dJ4_append_cf468_6 rfl (lv_at hl 0 rfl) ?_
  exact g_aret C0 G (Or.inl ⟨_, rfl⟩) ⟨t, rfl, rfl⟩ dJ4_append_cf468_7
