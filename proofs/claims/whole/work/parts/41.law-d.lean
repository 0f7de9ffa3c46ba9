set_option maxHeartbeats 4000000 in
set_option maxRecDepth 100000 in
theorem lw_c12 {p : Program} {l : Launch} {e : Env} {s : State} {m : MethodId} {below : List Frame} {meth : Method} {c : Code} {H : Heap} {locs : List Loc} {cells slots : Nat} {Q : State → Prop} {D : va_G} {cy : Nat → ClassId} {A : Nat → Prop} {ad am : Nat → Nat} {ou od b L li : Nat} {xs : Nat → Int32} {ls : Array Slot} (C0 : gC p s m #[.ref b] meth c code 9 (some .boolean) RL D (gts cy) A) (hst : l.stackTraces = false) (hXs : va_X b L xs s s.heap) (hbl : b < s.heap.size) (hbA : ¬ A b) (hli : li + 3 < L) (hL : L ≤ 2048) (hce : cells + 8 ≤ 601024) (hsl : slots + 400 ≤ 7293034) (I : lwI D A s cy ad am ou od H locs) (hl : lv_has ls 9 [(0, .ref b), (1, .ref (ad 0)), (2, .ref (am 0)), (3, .ref ou), (4, .ref od), (5, .int (nI li))])
    (kk : ∀ (H : Heap) (locs : List Loc) (ls : Array Slot), lwI D A s cy ad am ou od H locs → lv_has ls 9 [(0, .ref b), (1, .ref (ad 0)), (2, .ref (am 0)), (3, .ref ou), (4, .ref od), (5, .int (nI li))] → W p l e room_1 s m #[.ref b] below meth c H locs (cells + 8) (slots + 400) Q (F0 m 1897 ls [])) : W p l e room_1 s m #[.ref b] below meth c H locs cells slots Q (F0 m 1035 ls []) := by
  obtain ⟨fr, bk, vw, tk, to, fk, fo, kp, sp, lt, ib, rw, cl, nu, tv, tm, ta, ml, tn, mf, mb, mv, kn, on, th, X, ap, le, fc, f1, f2, ha, og, oh, tx, hF, hT, hR, G⟩ := I
  have hx := C0.1
  have hb := C0.2.1
  have hown := C0.2.2.2.2.2.1
  have hts := C0.2.2.2.2.2.2.1
  have hRs : rsOk (0, lt, ib, rw, cl, nu) := ⟨by show 0 < 9; decide, hR.2⟩
  have hkp := hF.1
  have h60 := hT.2.2.1
  have htm := hT.1
  obtain ⟨p0, hp0⟩ : ∃ z : Int32, z = xs (li + 1) := ⟨_, rfl⟩
  obtain ⟨p1, hp1⟩ : ∃ z : Int32, z = xs (li + 2) := ⟨_, rfl⟩
  refine lv_aload_n hx hb dL_law_1035 rfl (lv_at hl 1 rfl) ?_
  refine lv_aload_n hx hb dL_law_1036 rfl (lv_at hl 0 rfl) ?_
  refine lv_iload hx hb dL_law_1037 (lv_at hl 5 rfl) ?_
  refine lv_iconst (v := 1) hx hb dL_law_1039 (by decide) ?_
  refine lv_iadd hx hb dL_law_1040 ?_
  refine g_topi (x' := nI (li + 1)) (nI_add li 1) ?_
  refine va_sld hx hb hXs hbl hbA G.2.2 (vp_in_nI (n := li + 1) (by omega) (by omega)) dL_law_1041 ?_
  refine g_topi (x' := p0) (by rw [nI_clamp (n := li + 1) (by omega)]; exact hp0.symm) ?_
  refine lv_aload_n hx hb dL_law_1042 rfl (lv_at hl 0 rfl) ?_
  refine lv_iload hx hb dL_law_1043 (lv_at hl 5 rfl) ?_
  refine lv_iconst (v := 2) hx hb dL_law_1045 (by decide) ?_
  refine lv_iadd hx hb dL_law_1046 ?_
  refine g_topi (x' := nI (li + 2)) (nI_add li 2) ?_
  refine va_sld hx hb hXs hbl hbA G.2.2 (vp_in_nI (n := li + 2) (by omega) (by omega)) dL_law_1047 ?_
  refine g_topi (x' := p1) (by rw [nI_clamp (n := li + 2) (by omega)]; exact hp1.symm) ?_
  refine lv_aload_n hx hb dL_law_1048 rfl (lv_at hl 3 rfl) ?_
  refine g_callH (As := [.ref (ad 0), .int p0, .int p1, .ref ou]) (rest := []) C0 G (c_L_count l D cy (ad := ad) (fr := fr) (bk := bk) (vw := vw) (tk := tk) (to := to) (fk := fk) (fo := fo) (kp := kp) (sp := sp) (lt := lt) (ib := ib) (rw := rw) (cl := cl) (nu := nu) (tv := tv) (tm := tm) (ta := ta) (ml := ml) (tn := tn) (R := wM am cy th (cS mf mb mv) kp X tn ap le fc f1 f2 (biF kn on) ha ([])) (ou := ou) (od := od) (og := og) (oh := oh) (p0 := p0) (p1 := p1) hst) k_L_count ml_L_144 dL_law_1049 rfl rfl hl.1 (Nat.le_of_ble_eq_true rfl) ⟨Nat.le_of_ble_eq_true rfl, Nat.le_of_ble_eq_true rfl⟩ ⟨(by show _ ≤ 601024; omega), (by show _ ≤ 7293034; omega)⟩ (fun r W2 H locs hp G => ?_)
  rcases hp with ⟨k, hk, rfl, u, hu, rfl, rfl, hw⟩ | ⟨rfl, hw, hx9⟩
  · skip
    obtain ⟨eF, eB, eV, hv4⟩ := hF.2 k (by omega)
    have G : gW D (wC ad cy fr bk vw tk to fk fo kp sp lt ib rw cl nu tv tm ta ml tn ((ou, .inl (cy 2, 1, .inr (.inl (vp_updL og 0 (nI (pc (kdW (fr k) (bk k) u))).toInt64)))) :: (od, .inl (cy 3, 1, .inr (.inr (.inr (.inl oh))))) :: wM am cy th (cS mf mb mv) kp X tn ap le fc f1 f2 (biF kn on) ha ([]))) A s _ _ := g_wc hw G
    refine W.eq (g2 := F0 m 1052 ls [.int 0]) rfl ?_
    refine lv_istore (lv' := [(6, .int 0), (0, .ref b), (1, .ref (ad 0)), (2, .ref (am 0)), (3, .ref ou), (4, .ref od), (5, .int (nI li))]) hx hb dL_law_1052 hl (by decide) rfl (fun ls hl => ?_)
    refine lv_aload_n hx hb dL_law_1054 rfl (lv_at hl 3 rfl) ?_
    refine lv_aload_n hx hb dL_law_1055 rfl (lv_at hl 1 rfl) ?_
    refine lv_iload hx hb dL_law_1056 (lv_at hl 6 rfl) ?_
    refine lv_iconst (v := 1) hx hb dL_law_1058 (by decide) ?_
    refine lv_iadd hx hb dL_law_1059 ?_
    refine g_topi (x' := nI (li + 1)) (nI_add li 1) ?_
    refine va_sld hx hb hXs hbl hbA G.2.2 (vp_in_nI (n := li + 1) (by omega) (by omega)) dL_law_1060 ?_
    refine g_topi (x' := nI k) (by rw [nI_clamp (n := li + 1) (by omega)]; exact hp0.symm) ?_
    refine lv_aload_n hx hb dL_law_1061 rfl (lv_at hl 1 rfl) ?_
    refine lv_iload hx hb dL_law_1062 (lv_at hl 6 rfl) ?_
    refine lv_iconst (v := 2) hx hb dL_law_1064 (by decide) ?_
    refine lv_iadd hx hb dL_law_1065 ?_
    refine g_topi (x' := nI (li + 2)) (nI_add li 2) ?_
    refine va_sld hx hb hXs hbl hbA G.2.2 (vp_in_nI (n := li + 2) (by omega) (by omega)) dL_law_1066 ?_
    refine g_topi (x' := nI u) (by rw [nI_clamp (n := li + 2) (by omega)]; exact hp1.symm) ?_
    have G : gW D (wM am cy th (cS mf mb mv) kp X tn ap le fc f1 f2 (biF kn on) ha ((ou, .inl (cy 2, 1, .inr (.inl (vp_updL og 0 (nI (pc (kdW (fr k) (bk k) u))).toInt64)))) :: (od, .inl (cy 3, 1, .inr (.inr (.inr (.inl oh))))) :: wC ad cy fr bk vw tk to fk fo kp sp lt ib rw cl nu tv tm ta ml tn ([]))) A s _ _ := g_swCM G
    refine g_callV (As := [.int (nI k), .int (nI u)]) (rest := []) (q0 := 0) C0 G (c_X5_count_ok l D cy (am := am) (mf := mf) (mb := mb) (mv := mv) (th := th) (sv := kp) (X := X) (ln := tn) (ap := ap) (le := le) (fc := fc) (f1 := f1) (f2 := f2) (ha := ha) (R := ((ou, .inl (cy 2, 1, .inr (.inl (vp_updL og 0 (nI (pc (kdW (fr k) (bk k) u))).toInt64)))) :: (od, .inl (cy 3, 1, .inr (.inr (.inr (.inl oh))))) :: wC ad cy fr bk vw tk to fk fo kp sp lt ib rw cl nu tv tm ta ml tn ([]))) (B := biF kn on) (k := k) (u := u) (by omega) (by omega)) k_X5_count ml_L_146 rfl rfl dL_law_1067 rfl rfl hl.1 (Nat.le_of_ble_eq_true rfl) ⟨Nat.le_of_ble_eq_true rfl, Nat.le_of_ble_eq_true rfl⟩ ⟨(by show _ ≤ 601024; omega), (by show _ ≤ 7293034; omega)⟩ (fun r W2 H locs hp G => ?_)
    obtain ⟨rfl, hw⟩ := hp
    have G := g_wc hw G
    refine W.eq (g2 := F0 m 1070 ls [.int (nI (cuN (mf k) (mb k) (nI u)))]) rfl ?_
    refine lv_istore (lv' := [(7, .int (nI (cuN (mf k) (mb k) (nI u)))), (6, .int 0), (0, .ref b), (1, .ref (ad 0)), (2, .ref (am 0)), (3, .ref ou), (4, .ref od), (5, .int (nI li))]) hx hb dL_law_1070 hl (by decide) rfl (fun ls hl => ?_)
    refine lv_aload_n hx hb dL_law_1072 rfl (lv_at hl 4 rfl) ?_
    refine g_callV (As := []) (rest := []) (q0 := 0) C0 G (c_X5_thrown l D cy (am := am) (mf := mf) (mb := mb) (mv := mv) (th := nI 0) (sv := kp) (X := X) (ln := tn) (ap := ap) (le := le) (fc := fc) (f1 := f1) (f2 := f2) (ha := ha) (R := ((ou, .inl (cy 2, 1, .inr (.inl (vp_updL og 0 (nI (pc (kdW (fr k) (bk k) u))).toInt64)))) :: (od, .inl (cy 3, 1, .inr (.inr (.inr (.inl oh))))) :: wC ad cy fr bk vw tk to fk fo kp sp lt ib rw cl nu tv tm ta ml tn ([]))) (B := biF kn on)  ) k_X5_thrown ml_L_106 rfl rfl dL_law_1073 rfl rfl hl.1 (Nat.le_of_ble_eq_true rfl) ⟨Nat.le_of_ble_eq_true rfl, Nat.le_of_ble_eq_true rfl⟩ ⟨(by show _ ≤ 601024; omega), (by show _ ≤ 7293034; omega)⟩ (fun r W2 H locs hp G => ?_)
    obtain ⟨rfl, hw⟩ := hp
    have G := g_wc hw G
    refine W.eq (g2 := F0 m 1076 ls [.int (nI 0)]) rfl ?_
    refine g_topi (x' := 0) rfl ?_
    refine lv_iload hx hb dL_law_1076 (lv_at hl 1 rfl) ?_
    refine lv_icmp_eq (tgt := 1083) hx hb dL_law_1078 (by decide) (fun c_1078 => ?_) (fun c_1078 => ?_)
    · skip
      refine lv_iload hx hb dL_law_1083 (lv_at hl 1 rfl) ?_
      refine lv_if_ne (tgt := 1100) hx hb dL_law_1085 (by decide) (fun c_1085 => ?_) (fun c_1085 => ?_)
      · exact absurd c_1085 (by decide)
      · skip
        refine lv_aload_n hx hb dL_law_1088 rfl (lv_at hl 5 rfl) ?_
        refine lv_iconst (v := 0) hx hb dL_law_1089 (by decide) ?_
        refine g_topi (x' := nI 0) rfl ?_
        refine g_lald (q0 := 4) (n := 1) C0 G rfl 2 rfl (vp_in_nI (n := 0) (by omega) (by decide)) dL_law_1090 ?_
        refine g_topl (x' := (vp_updL og 0 (nI (pc (kdW (fr k) (bk k) u))).toInt64) 0) (congrArg (vp_updL og 0 (nI (pc (kdW (fr k) (bk k) u))).toInt64) (nI_clamp (n := 0) (by omega))) ?_
        refine g_topl (x' := (nI (pc (kdW (fr k) (bk k) u))).toInt64) (if_pos rfl) ?_
        refine lv_iload hx hb dL_law_1091 (lv_at hl 0 rfl) ?_
        refine lv_i2l hx hb dL_law_1093 rfl ?_
        refine W.lcmp hx hb dL_law_1094 ?_
        refine lv_if_eq (tgt := 1100) hx hb dL_law_1095 (by decide) (fun c_1095 => ?_) (fun c_1095 => ?_)
        · skip
          have c_1095 : ((nI (pc (kdW (fr k) (bk k) u))).toInt64) = ((nI (cuN (mf k) (mb k) (nI u))).toInt64) := lgc_eq.mp c_1095
          refine lv_goto (tgt := 1897) hx hb dL_law_1100 (by decide) ?_
          have G : gW D (wC ad cy fr bk vw tk to fk fo kp sp lt ib rw cl nu tv tm ta ml tn ((ou, .inl (cy 2, 1, .inr (.inl (vp_updL og 0 (nI (pc (kdW (fr k) (bk k) u))).toInt64)))) :: (od, .inl (cy 3, 1, .inr (.inr (.inr (.inl oh))))) :: wM am cy (nI 0) (cS mf mb mv) kp X tn ap le fc f1 f2 (biF kn on) ha ([]))) A s _ _ := g_swMC G
          refine W.widen (k := cells + 8) (n := slots + 400) (by omega) (by omega) ?_
          exact kk _ _ _ ⟨fr, bk, vw, tk, to, fk, fo, kp, sp, lt, ib, rw, cl, nu, tv, tm, ta, ml, tn, mf, mb, mv, kn, on, (nI 0), X, ap, le, fc, f1, f2, ha, (vp_updL og 0 (nI (pc (kdW (fr k) (bk k) u))).toInt64), oh, tx, hF, hT, hR, G⟩ (lv_sub hl [2, 3, 4, 5, 6, 7] rfl)
        · skip
          have c_1095 : ¬ ((nI (pc (kdW (fr k) (bk k) u))).toInt64) = ((nI (cuN (mf k) (mb k) (nI u))).toInt64) := fun h => c_1095 (lgc_eq.mpr h)
          exact absurd (by rw [← eF, ← eB, cu_kd hu]) c_1095
    · exact absurd c_1078 (by decide)
  · skip
    have G : gW D (wC ad cy fr bk vw tk to fk fo kp sp lt ib rw cl nu tv tm ta ml tn ((ou, .inl (cy 2, 1, .inr (.inl og))) :: (od, .inl (cy 3, 1, .inr (.inr (.inr (.inl oh))))) :: wM am cy th (cS mf mb mv) kp X tn ap le fc f1 f2 (biF kn on) ha ([]))) A s _ _ := g_wc hw G
    refine W.eq (g2 := F0 m 1052 ls [.int 1]) rfl ?_
    refine lv_istore (lv' := [(6, .int 1), (0, .ref b), (1, .ref (ad 0)), (2, .ref (am 0)), (3, .ref ou), (4, .ref od), (5, .int (nI li))]) hx hb dL_law_1052 hl (by decide) rfl (fun ls hl => ?_)
    refine lv_aload_n hx hb dL_law_1054 rfl (lv_at hl 3 rfl) ?_
    refine lv_aload_n hx hb dL_law_1055 rfl (lv_at hl 1 rfl) ?_
    refine lv_iload hx hb dL_law_1056 (lv_at hl 6 rfl) ?_
    refine lv_iconst (v := 1) hx hb dL_law_1058 (by decide) ?_
    refine lv_iadd hx hb dL_law_1059 ?_
    refine g_topi (x' := nI (li + 1)) (nI_add li 1) ?_
    refine va_sld hx hb hXs hbl hbA G.2.2 (vp_in_nI (n := li + 1) (by omega) (by omega)) dL_law_1060 ?_
    refine g_topi (x' := p0) (by rw [nI_clamp (n := li + 1) (by omega)]; exact hp0.symm) ?_
    refine lv_aload_n hx hb dL_law_1061 rfl (lv_at hl 1 rfl) ?_
    refine lv_iload hx hb dL_law_1062 (lv_at hl 6 rfl) ?_
    refine lv_iconst (v := 2) hx hb dL_law_1064 (by decide) ?_
    refine lv_iadd hx hb dL_law_1065 ?_
    refine g_topi (x' := nI (li + 2)) (nI_add li 2) ?_
    refine va_sld hx hb hXs hbl hbA G.2.2 (vp_in_nI (n := li + 2) (by omega) (by omega)) dL_law_1066 ?_
    refine g_topi (x' := p1) (by rw [nI_clamp (n := li + 2) (by omega)]; exact hp1.symm) ?_
    have G : gW D (wM am cy th (cS mf mb mv) kp X tn ap le fc f1 f2 (biF kn on) ha ((ou, .inl (cy 2, 1, .inr (.inl og))) :: (od, .inl (cy 3, 1, .inr (.inr (.inr (.inl oh))))) :: wC ad cy fr bk vw tk to fk fo kp sp lt ib rw cl nu tv tm ta ml tn ([]))) A s _ _ := g_swCM G
    refine g_callV (As := [.int p0, .int p1]) (rest := []) (q0 := 0) C0 G (c_X5_count_e1 l D cy (am := am) (mf := mf) (mb := mb) (mv := mv) (th := th) (sv := kp) (X := X) (ln := tn) (ap := ap) (le := le) (fc := fc) (f1 := f1) (f2 := f2) (ha := ha) (R := ((ou, .inl (cy 2, 1, .inr (.inl og))) :: (od, .inl (cy 3, 1, .inr (.inr (.inr (.inl oh))))) :: wC ad cy fr bk vw tk to fk fo kp sp lt ib rw cl nu tv tm ta ml tn ([]))) (B := biF kn on) (p0 := p0) (p1 := p1) (by rw [inB_ir (x := p0) (n := 2) (hi := 2) rfl (by decide), inB_ir (x := p1) (n := 3) (hi := 3) rfl (by decide)]; exact hx9)) k_X5_count ml_L_146 rfl rfl dL_law_1067 rfl rfl hl.1 (Nat.le_of_ble_eq_true rfl) ⟨Nat.le_of_ble_eq_true rfl, Nat.le_of_ble_eq_true rfl⟩ ⟨(by show _ ≤ 601024; omega), (by show _ ≤ 7293034; omega)⟩ (fun r W2 H locs hp G => ?_)
    obtain ⟨rfl, hw⟩ := hp
    have G := g_wc hw G
    refine W.eq (g2 := F0 m 1070 ls [.int 0]) rfl ?_
    refine lv_istore (lv' := [(7, .int 0), (6, .int 1), (0, .ref b), (1, .ref (ad 0)), (2, .ref (am 0)), (3, .ref ou), (4, .ref od), (5, .int (nI li))]) hx hb dL_law_1070 hl (by decide) rfl (fun ls hl => ?_)
    refine lv_aload_n hx hb dL_law_1072 rfl (lv_at hl 4 rfl) ?_
    refine g_callV (As := []) (rest := []) (q0 := 0) C0 G (c_X5_thrown l D cy (am := am) (mf := mf) (mb := mb) (mv := mv) (th := nI 1) (sv := kp) (X := X) (ln := tn) (ap := ap) (le := le) (fc := fc) (f1 := f1) (f2 := f2) (ha := ha) (R := ((ou, .inl (cy 2, 1, .inr (.inl og))) :: (od, .inl (cy 3, 1, .inr (.inr (.inr (.inl oh))))) :: wC ad cy fr bk vw tk to fk fo kp sp lt ib rw cl nu tv tm ta ml tn ([]))) (B := biF kn on)  ) k_X5_thrown ml_L_106 rfl rfl dL_law_1073 rfl rfl hl.1 (Nat.le_of_ble_eq_true rfl) ⟨Nat.le_of_ble_eq_true rfl, Nat.le_of_ble_eq_true rfl⟩ ⟨(by show _ ≤ 601024; omega), (by show _ ≤ 7293034; omega)⟩ (fun r W2 H locs hp G => ?_)
    obtain ⟨rfl, hw⟩ := hp
    have G := g_wc hw G
    refine W.eq (g2 := F0 m 1076 ls [.int (nI 1)]) rfl ?_
    refine g_topi (x' := 1) rfl ?_
    refine lv_iload hx hb dL_law_1076 (lv_at hl 1 rfl) ?_
    refine lv_icmp_eq (tgt := 1083) hx hb dL_law_1078 (by decide) (fun c_1078 => ?_) (fun c_1078 => ?_)
    · skip
      refine lv_iload hx hb dL_law_1083 (lv_at hl 1 rfl) ?_
      refine lv_if_ne (tgt := 1100) hx hb dL_law_1085 (by decide) (fun c_1085 => ?_) (fun c_1085 => ?_)
      · skip
        refine lv_goto (tgt := 1897) hx hb dL_law_1100 (by decide) ?_
        have G : gW D (wC ad cy fr bk vw tk to fk fo kp sp lt ib rw cl nu tv tm ta ml tn ((ou, .inl (cy 2, 1, .inr (.inl og))) :: (od, .inl (cy 3, 1, .inr (.inr (.inr (.inl oh))))) :: wM am cy (nI 1) (cS mf mb mv) kp X tn ap le fc f1 f2 (biF kn on) ha ([]))) A s _ _ := g_swMC G
        refine W.widen (k := cells + 8) (n := slots + 400) (by omega) (by omega) ?_
        exact kk _ _ _ ⟨fr, bk, vw, tk, to, fk, fo, kp, sp, lt, ib, rw, cl, nu, tv, tm, ta, ml, tn, mf, mb, mv, kn, on, (nI 1), X, ap, le, fc, f1, f2, ha, og, oh, tx, hF, hT, hR, G⟩ (lv_sub hl [2, 3, 4, 5, 6, 7] rfl)
      · exact absurd c_1085 (by decide)
    · exact absurd c_1078 (by decide)

set_option maxHeartbeats 4000000 in
set_option maxRecDepth 100000 in
theorem lw_c13 {p : Program} {l : Launch} {e : Env} {s : State} {m : MethodId} {below : List Frame} {meth : Method} {c : Code} {H : Heap} {locs : List Loc} {cells slots : Nat} {Q : State → Prop} {D : va_G} {cy : Nat → ClassId} {A : Nat → Prop} {ad am : Nat → Nat} {ou od b L li : Nat} {xs : Nat → Int32} {ls : Array Slot} (C0 : gC p s m #[.ref b] meth c code 9 (some .boolean) RL D (gts cy) A) (hst : l.stackTraces = false) (hXs : va_X b L xs s s.heap) (hbl : b < s.heap.size) (hbA : ¬ A b) (hli : li + 3 < L) (hL : L ≤ 2048) (hce : cells + 8 ≤ 601024) (hsl : slots + 400 ≤ 7293034) (I : lwI D A s cy ad am ou od H locs) (hl : lv_has ls 9 [(0, .ref b), (1, .ref (ad 0)), (2, .ref (am 0)), (3, .ref ou), (4, .ref od), (5, .int (nI li))])
    (kk : ∀ (H : Heap) (locs : List Loc) (ls : Array Slot), lwI D A s cy ad am ou od H locs → lv_has ls 9 [(0, .ref b), (1, .ref (ad 0)), (2, .ref (am 0)), (3, .ref ou), (4, .ref od), (5, .int (nI li))] → W p l e room_1 s m #[.ref b] below meth c H locs (cells + 8) (slots + 400) Q (F0 m 1897 ls [])) : W p l e room_1 s m #[.ref b] below meth c H locs cells slots Q (F0 m 1103 ls []) := by
  obtain ⟨fr, bk, vw, tk, to, fk, fo, kp, sp, lt, ib, rw, cl, nu, tv, tm, ta, ml, tn, mf, mb, mv, kn, on, th, X, ap, le, fc, f1, f2, ha, og, oh, tx, hF, hT, hR, G⟩ := I
  have hx := C0.1
  have hb := C0.2.1
  have hown := C0.2.2.2.2.2.1
  have hts := C0.2.2.2.2.2.2.1
  have hRs : rsOk (0, lt, ib, rw, cl, nu) := ⟨by show 0 < 9; decide, hR.2⟩
  have hkp := hF.1
  have h60 := hT.2.2.1
  have htm := hT.1
  obtain ⟨p0, hp0⟩ : ∃ z : Int32, z = xs (li + 1) := ⟨_, rfl⟩
  obtain ⟨p1, hp1⟩ : ∃ z : Int32, z = xs (li + 2) := ⟨_, rfl⟩
  refine lv_aload_n hx hb dL_law_1103 rfl (lv_at hl 1 rfl) ?_
  refine lv_aload_n hx hb dL_law_1104 rfl (lv_at hl 0 rfl) ?_
  refine lv_iload hx hb dL_law_1105 (lv_at hl 5 rfl) ?_
  refine lv_iconst (v := 1) hx hb dL_law_1107 (by decide) ?_
  refine lv_iadd hx hb dL_law_1108 ?_
  refine g_topi (x' := nI (li + 1)) (nI_add li 1) ?_
  refine va_sld hx hb hXs hbl hbA G.2.2 (vp_in_nI (n := li + 1) (by omega) (by omega)) dL_law_1109 ?_
  refine g_topi (x' := p0) (by rw [nI_clamp (n := li + 1) (by omega)]; exact hp0.symm) ?_
  refine lv_aload_n hx hb dL_law_1110 rfl (lv_at hl 0 rfl) ?_
  refine lv_iload hx hb dL_law_1111 (lv_at hl 5 rfl) ?_
  refine lv_iconst (v := 2) hx hb dL_law_1113 (by decide) ?_
  refine lv_iadd hx hb dL_law_1114 ?_
  refine g_topi (x' := nI (li + 2)) (nI_add li 2) ?_
  refine va_sld hx hb hXs hbl hbA G.2.2 (vp_in_nI (n := li + 2) (by omega) (by omega)) dL_law_1115 ?_
  refine g_topi (x' := p1) (by rw [nI_clamp (n := li + 2) (by omega)]; exact hp1.symm) ?_
  refine lv_aload_n hx hb dL_law_1116 rfl (lv_at hl 3 rfl) ?_
  refine g_callH (As := [.ref (ad 0), .int p0, .int p1, .ref ou]) (rest := []) C0 G (c_L_read l D cy (ad := ad) (fr := fr) (bk := bk) (vw := vw) (tk := tk) (to := to) (fk := fk) (fo := fo) (kp := kp) (sp := sp) (lt := lt) (ib := ib) (rw := rw) (cl := cl) (nu := nu) (tv := tv) (tm := tm) (ta := ta) (ml := ml) (tn := tn) (R := wM am cy th (cS mf mb mv) kp X tn ap le fc f1 f2 (biF kn on) ha ([])) (ou := ou) (od := od) (og := og) (oh := oh) (p0 := p0) (p1 := p1) hst) k_L_read ml_L_147 dL_law_1117 rfl rfl hl.1 (Nat.le_of_ble_eq_true rfl) ⟨Nat.le_of_ble_eq_true rfl, Nat.le_of_ble_eq_true rfl⟩ ⟨(by show _ ≤ 601024; omega), (by show _ ≤ 7293034; omega)⟩ (fun r W2 H locs hp G => ?_)
  rcases hp with ⟨k, hk, rfl, i, hi, rfl, rfl, hw⟩ | ⟨rfl, hw, hx9⟩
  · skip
    obtain ⟨eF, eB, eV, hv4⟩ := hF.2 k (by omega)
    have G : gW D (wC ad cy fr bk vw tk to fk fo kp sp lt ib rw cl nu tv tm ta ml tn ((ou, .inl (cy 2, 1, .inr (.inl (vp_updL og 0 (rvI (sdW (fr k) (bk k)) (onW (fr k) (bk k)) i).toInt64)))) :: (od, .inl (cy 3, 1, .inr (.inr (.inr (.inl oh))))) :: wM am cy th (cS mf mb mv) kp X tn ap le fc f1 f2 (biF kn on) ha ([]))) A s _ _ := g_wc hw G
    refine W.eq (g2 := F0 m 1120 ls [.int 0]) rfl ?_
    refine lv_istore (lv' := [(6, .int 0), (0, .ref b), (1, .ref (ad 0)), (2, .ref (am 0)), (3, .ref ou), (4, .ref od), (5, .int (nI li))]) hx hb dL_law_1120 hl (by decide) rfl (fun ls hl => ?_)
    refine lv_aload_n hx hb dL_law_1122 rfl (lv_at hl 3 rfl) ?_
    refine lv_aload_n hx hb dL_law_1123 rfl (lv_at hl 1 rfl) ?_
    refine lv_iload hx hb dL_law_1124 (lv_at hl 6 rfl) ?_
    refine lv_iconst (v := 1) hx hb dL_law_1126 (by decide) ?_
    refine lv_iadd hx hb dL_law_1127 ?_
    refine g_topi (x' := nI (li + 1)) (nI_add li 1) ?_
    refine va_sld hx hb hXs hbl hbA G.2.2 (vp_in_nI (n := li + 1) (by omega) (by omega)) dL_law_1128 ?_
    refine g_topi (x' := nI k) (by rw [nI_clamp (n := li + 1) (by omega)]; exact hp0.symm) ?_
    refine lv_aload_n hx hb dL_law_1129 rfl (lv_at hl 1 rfl) ?_
    refine lv_iload hx hb dL_law_1130 (lv_at hl 6 rfl) ?_
    refine lv_iconst (v := 2) hx hb dL_law_1132 (by decide) ?_
    refine lv_iadd hx hb dL_law_1133 ?_
    refine g_topi (x' := nI (li + 2)) (nI_add li 2) ?_
    refine va_sld hx hb hXs hbl hbA G.2.2 (vp_in_nI (n := li + 2) (by omega) (by omega)) dL_law_1134 ?_
    refine g_topi (x' := nI i) (by rw [nI_clamp (n := li + 2) (by omega)]; exact hp1.symm) ?_
    have G : gW D (wM am cy th (cS mf mb mv) kp X tn ap le fc f1 f2 (biF kn on) ha ((ou, .inl (cy 2, 1, .inr (.inl (vp_updL og 0 (rvI (sdW (fr k) (bk k)) (onW (fr k) (bk k)) i).toInt64)))) :: (od, .inl (cy 3, 1, .inr (.inr (.inr (.inl oh))))) :: wC ad cy fr bk vw tk to fk fo kp sp lt ib rw cl nu tv tm ta ml tn ([]))) A s _ _ := g_swCM G
    refine g_callV (As := [.int (nI k), .int (nI i)]) (rest := []) (q0 := 0) C0 G (c_X5_read_ok l D cy (am := am) (mf := mf) (mb := mb) (mv := mv) (th := th) (sv := kp) (X := X) (ln := tn) (ap := ap) (le := le) (fc := fc) (f1 := f1) (f2 := f2) (ha := ha) (R := ((ou, .inl (cy 2, 1, .inr (.inl (vp_updL og 0 (rvI (sdW (fr k) (bk k)) (onW (fr k) (bk k)) i).toInt64)))) :: (od, .inl (cy 3, 1, .inr (.inr (.inr (.inl oh))))) :: wC ad cy fr bk vw tk to fk fo kp sp lt ib rw cl nu tv tm ta ml tn ([]))) (B := biF kn on) (k := k) (i := i) (by omega) (by omega)) k_X5_read ml_L_149 rfl rfl dL_law_1135 rfl rfl hl.1 (Nat.le_of_ble_eq_true rfl) ⟨Nat.le_of_ble_eq_true rfl, Nat.le_of_ble_eq_true rfl⟩ ⟨(by show _ ≤ 601024; omega), (by show _ ≤ 7293034; omega)⟩ (fun r W2 H locs hp G => ?_)
    obtain ⟨rfl, hw⟩ := hp
    have G := g_wc hw G
    refine W.eq (g2 := F0 m 1138 ls [.int (rvI (sdW (mf k) (mb k)) (onW (mf k) (mb k)) i)]) rfl ?_
    refine lv_istore (lv' := [(7, .int (rvI (sdW (mf k) (mb k)) (onW (mf k) (mb k)) i)), (6, .int 0), (0, .ref b), (1, .ref (ad 0)), (2, .ref (am 0)), (3, .ref ou), (4, .ref od), (5, .int (nI li))]) hx hb dL_law_1138 hl (by decide) rfl (fun ls hl => ?_)
    refine lv_aload_n hx hb dL_law_1140 rfl (lv_at hl 4 rfl) ?_
    refine g_callV (As := []) (rest := []) (q0 := 0) C0 G (c_X5_thrown l D cy (am := am) (mf := mf) (mb := mb) (mv := mv) (th := nI 0) (sv := kp) (X := X) (ln := tn) (ap := ap) (le := le) (fc := fc) (f1 := f1) (f2 := f2) (ha := ha) (R := ((ou, .inl (cy 2, 1, .inr (.inl (vp_updL og 0 (rvI (sdW (fr k) (bk k)) (onW (fr k) (bk k)) i).toInt64)))) :: (od, .inl (cy 3, 1, .inr (.inr (.inr (.inl oh))))) :: wC ad cy fr bk vw tk to fk fo kp sp lt ib rw cl nu tv tm ta ml tn ([]))) (B := biF kn on)  ) k_X5_thrown ml_L_106 rfl rfl dL_law_1141 rfl rfl hl.1 (Nat.le_of_ble_eq_true rfl) ⟨Nat.le_of_ble_eq_true rfl, Nat.le_of_ble_eq_true rfl⟩ ⟨(by show _ ≤ 601024; omega), (by show _ ≤ 7293034; omega)⟩ (fun r W2 H locs hp G => ?_)
    obtain ⟨rfl, hw⟩ := hp
    have G := g_wc hw G
    refine W.eq (g2 := F0 m 1144 ls [.int (nI 0)]) rfl ?_
    refine g_topi (x' := 0) rfl ?_
    refine lv_iload hx hb dL_law_1144 (lv_at hl 1 rfl) ?_
    refine lv_icmp_eq (tgt := 1151) hx hb dL_law_1146 (by decide) (fun c_1146 => ?_) (fun c_1146 => ?_)
    · skip
      refine lv_iload hx hb dL_law_1151 (lv_at hl 1 rfl) ?_
      refine lv_if_ne (tgt := 1168) hx hb dL_law_1153 (by decide) (fun c_1153 => ?_) (fun c_1153 => ?_)
      · exact absurd c_1153 (by decide)
      · skip
        refine lv_aload_n hx hb dL_law_1156 rfl (lv_at hl 5 rfl) ?_
        refine lv_iconst (v := 0) hx hb dL_law_1157 (by decide) ?_
        refine g_topi (x' := nI 0) rfl ?_
        refine g_lald (q0 := 4) (n := 1) C0 G rfl 2 rfl (vp_in_nI (n := 0) (by omega) (by decide)) dL_law_1158 ?_
        refine g_topl (x' := (vp_updL og 0 (rvI (sdW (fr k) (bk k)) (onW (fr k) (bk k)) i).toInt64) 0) (congrArg (vp_updL og 0 (rvI (sdW (fr k) (bk k)) (onW (fr k) (bk k)) i).toInt64) (nI_clamp (n := 0) (by omega))) ?_
        refine g_topl (x' := (rvI (sdW (fr k) (bk k)) (onW (fr k) (bk k)) i).toInt64) (if_pos rfl) ?_
        refine lv_iload hx hb dL_law_1159 (lv_at hl 0 rfl) ?_
        refine lv_i2l hx hb dL_law_1161 rfl ?_
        refine W.lcmp hx hb dL_law_1162 ?_
        refine lv_if_eq (tgt := 1168) hx hb dL_law_1163 (by decide) (fun c_1163 => ?_) (fun c_1163 => ?_)
        · skip
          have c_1163 : ((rvI (sdW (fr k) (bk k)) (onW (fr k) (bk k)) i).toInt64) = ((rvI (sdW (mf k) (mb k)) (onW (mf k) (mb k)) i).toInt64) := lgc_eq.mp c_1163
          refine lv_goto (tgt := 1897) hx hb dL_law_1168 (by decide) ?_
          have G : gW D (wC ad cy fr bk vw tk to fk fo kp sp lt ib rw cl nu tv tm ta ml tn ((ou, .inl (cy 2, 1, .inr (.inl (vp_updL og 0 (rvI (sdW (fr k) (bk k)) (onW (fr k) (bk k)) i).toInt64)))) :: (od, .inl (cy 3, 1, .inr (.inr (.inr (.inl oh))))) :: wM am cy (nI 0) (cS mf mb mv) kp X tn ap le fc f1 f2 (biF kn on) ha ([]))) A s _ _ := g_swMC G
          refine W.widen (k := cells + 8) (n := slots + 400) (by omega) (by omega) ?_
          exact kk _ _ _ ⟨fr, bk, vw, tk, to, fk, fo, kp, sp, lt, ib, rw, cl, nu, tv, tm, ta, ml, tn, mf, mb, mv, kn, on, (nI 0), X, ap, le, fc, f1, f2, ha, (vp_updL og 0 (rvI (sdW (fr k) (bk k)) (onW (fr k) (bk k)) i).toInt64), oh, tx, hF, hT, hR, G⟩ (lv_sub hl [2, 3, 4, 5, 6, 7] rfl)
        · skip
          have c_1163 : ¬ ((rvI (sdW (fr k) (bk k)) (onW (fr k) (bk k)) i).toInt64) = ((rvI (sdW (mf k) (mb k)) (onW (mf k) (mb k)) i).toInt64) := fun h => c_1163 (lgc_eq.mpr h)
          exact absurd (by first | (simp only [mSv_sa, saU_lo hk, ← eF, ← eB, ← eV]; done) | (simp only [mSv_sa, saU_lo hk, ← eF, ← eB, ← eV]; rfl) | rfl) c_1163
    · exact absurd c_1146 (by decide)
  · skip
    have G : gW D (wC ad cy fr bk vw tk to fk fo kp sp lt ib rw cl nu tv tm ta ml tn ((ou, .inl (cy 2, 1, .inr (.inl og))) :: (od, .inl (cy 3, 1, .inr (.inr (.inr (.inl oh))))) :: wM am cy th (cS mf mb mv) kp X tn ap le fc f1 f2 (biF kn on) ha ([]))) A s _ _ := g_wc hw G
    refine W.eq (g2 := F0 m 1120 ls [.int 1]) rfl ?_
    refine lv_istore (lv' := [(6, .int 1), (0, .ref b), (1, .ref (ad 0)), (2, .ref (am 0)), (3, .ref ou), (4, .ref od), (5, .int (nI li))]) hx hb dL_law_1120 hl (by decide) rfl (fun ls hl => ?_)
    refine lv_aload_n hx hb dL_law_1122 rfl (lv_at hl 3 rfl) ?_
    refine lv_aload_n hx hb dL_law_1123 rfl (lv_at hl 1 rfl) ?_
    refine lv_iload hx hb dL_law_1124 (lv_at hl 6 rfl) ?_
    refine lv_iconst (v := 1) hx hb dL_law_1126 (by decide) ?_
    refine lv_iadd hx hb dL_law_1127 ?_
    refine g_topi (x' := nI (li + 1)) (nI_add li 1) ?_
    refine va_sld hx hb hXs hbl hbA G.2.2 (vp_in_nI (n := li + 1) (by omega) (by omega)) dL_law_1128 ?_
    refine g_topi (x' := p0) (by rw [nI_clamp (n := li + 1) (by omega)]; exact hp0.symm) ?_
    refine lv_aload_n hx hb dL_law_1129 rfl (lv_at hl 1 rfl) ?_
    refine lv_iload hx hb dL_law_1130 (lv_at hl 6 rfl) ?_
    refine lv_iconst (v := 2) hx hb dL_law_1132 (by decide) ?_
    refine lv_iadd hx hb dL_law_1133 ?_
    refine g_topi (x' := nI (li + 2)) (nI_add li 2) ?_
    refine va_sld hx hb hXs hbl hbA G.2.2 (vp_in_nI (n := li + 2) (by omega) (by omega)) dL_law_1134 ?_
    refine g_topi (x' := p1) (by rw [nI_clamp (n := li + 2) (by omega)]; exact hp1.symm) ?_
    have G : gW D (wM am cy th (cS mf mb mv) kp X tn ap le fc f1 f2 (biF kn on) ha ((ou, .inl (cy 2, 1, .inr (.inl og))) :: (od, .inl (cy 3, 1, .inr (.inr (.inr (.inl oh))))) :: wC ad cy fr bk vw tk to fk fo kp sp lt ib rw cl nu tv tm ta ml tn ([]))) A s _ _ := g_swCM G
    refine g_callV (As := [.int p0, .int p1]) (rest := []) (q0 := 0) C0 G (c_X5_read_e1 l D cy (am := am) (mf := mf) (mb := mb) (mv := mv) (th := th) (sv := kp) (X := X) (ln := tn) (ap := ap) (le := le) (fc := fc) (f1 := f1) (f2 := f2) (ha := ha) (R := ((ou, .inl (cy 2, 1, .inr (.inl og))) :: (od, .inl (cy 3, 1, .inr (.inr (.inr (.inl oh))))) :: wC ad cy fr bk vw tk to fk fo kp sp lt ib rw cl nu tv tm ta ml tn ([]))) (B := biF kn on) (p0 := p0) (p1 := p1) (by rw [inB_ir (x := p0) (n := 2) (hi := 2) rfl (by decide), inB_ir (x := p1) (n := 6) (hi := 6) rfl (by decide)]; exact hx9)) k_X5_read ml_L_149 rfl rfl dL_law_1135 rfl rfl hl.1 (Nat.le_of_ble_eq_true rfl) ⟨Nat.le_of_ble_eq_true rfl, Nat.le_of_ble_eq_true rfl⟩ ⟨(by show _ ≤ 601024; omega), (by show _ ≤ 7293034; omega)⟩ (fun r W2 H locs hp G => ?_)
    obtain ⟨rfl, hw⟩ := hp
    have G := g_wc hw G
    refine W.eq (g2 := F0 m 1138 ls [.int 0]) rfl ?_
    refine lv_istore (lv' := [(7, .int 0), (6, .int 1), (0, .ref b), (1, .ref (ad 0)), (2, .ref (am 0)), (3, .ref ou), (4, .ref od), (5, .int (nI li))]) hx hb dL_law_1138 hl (by decide) rfl (fun ls hl => ?_)
    refine lv_aload_n hx hb dL_law_1140 rfl (lv_at hl 4 rfl) ?_
    refine g_callV (As := []) (rest := []) (q0 := 0) C0 G (c_X5_thrown l D cy (am := am) (mf := mf) (mb := mb) (mv := mv) (th := nI 1) (sv := kp) (X := X) (ln := tn) (ap := ap) (le := le) (fc := fc) (f1 := f1) (f2 := f2) (ha := ha) (R := ((ou, .inl (cy 2, 1, .inr (.inl og))) :: (od, .inl (cy 3, 1, .inr (.inr (.inr (.inl oh))))) :: wC ad cy fr bk vw tk to fk fo kp sp lt ib rw cl nu tv tm ta ml tn ([]))) (B := biF kn on)  ) k_X5_thrown ml_L_106 rfl rfl dL_law_1141 rfl rfl hl.1 (Nat.le_of_ble_eq_true rfl) ⟨Nat.le_of_ble_eq_true rfl, Nat.le_of_ble_eq_true rfl⟩ ⟨(by show _ ≤ 601024; omega), (by show _ ≤ 7293034; omega)⟩ (fun r W2 H locs hp G => ?_)
    obtain ⟨rfl, hw⟩ := hp
    have G := g_wc hw G
    refine W.eq (g2 := F0 m 1144 ls [.int (nI 1)]) rfl ?_
    refine g_topi (x' := 1) rfl ?_
    refine lv_iload hx hb dL_law_1144 (lv_at hl 1 rfl) ?_
    refine lv_icmp_eq (tgt := 1151) hx hb dL_law_1146 (by decide) (fun c_1146 => ?_) (fun c_1146 => ?_)
    · skip
      refine lv_iload hx hb dL_law_1151 (lv_at hl 1 rfl) ?_
      refine lv_if_ne (tgt := 1168) hx hb dL_law_1153 (by decide) (fun c_1153 => ?_) (fun c_1153 => ?_)
      · skip
        refine lv_goto (tgt := 1897) hx hb dL_law_1168 (by decide) ?_
        have G : gW D (wC ad cy fr bk vw tk to fk fo kp sp lt ib rw cl nu tv tm ta ml tn ((ou, .inl (cy 2, 1, .inr (.inl og))) :: (od, .inl (cy 3, 1, .inr (.inr (.inr (.inl oh))))) :: wM am cy (nI 1) (cS mf mb mv) kp X tn ap le fc f1 f2 (biF kn on) ha ([]))) A s _ _ := g_swMC G
        refine W.widen (k := cells + 8) (n := slots + 400) (by omega) (by omega) ?_
        exact kk _ _ _ ⟨fr, bk, vw, tk, to, fk, fo, kp, sp, lt, ib, rw, cl, nu, tv, tm, ta, ml, tn, mf, mb, mv, kn, on, (nI 1), X, ap, le, fc, f1, f2, ha, og, oh, tx, hF, hT, hR, G⟩ (lv_sub hl [2, 3, 4, 5, 6, 7] rfl)
      · exact absurd c_1153 (by decide)
    · exact absurd c_1146 (by decide)

set_option maxHeartbeats 4000000 in
set_option maxRecDepth 100000 in
theorem lw_c14 {p : Program} {l : Launch} {e : Env} {s : State} {m : MethodId} {below : List Frame} {meth : Method} {c : Code} {H : Heap} {locs : List Loc} {cells slots : Nat} {Q : State → Prop} {D : va_G} {cy : Nat → ClassId} {A : Nat → Prop} {ad am : Nat → Nat} {ou od b L li : Nat} {xs : Nat → Int32} {ls : Array Slot} (C0 : gC p s m #[.ref b] meth c code 9 (some .boolean) RL D (gts cy) A) (hst : l.stackTraces = false) (hXs : va_X b L xs s s.heap) (hbl : b < s.heap.size) (hbA : ¬ A b) (hli : li + 3 < L) (hL : L ≤ 2048) (hce : cells + 8 ≤ 601024) (hsl : slots + 400 ≤ 7293034) (I : lwI D A s cy ad am ou od H locs) (hl : lv_has ls 9 [(0, .ref b), (1, .ref (ad 0)), (2, .ref (am 0)), (3, .ref ou), (4, .ref od), (5, .int (nI li))])
    (kk : ∀ (H : Heap) (locs : List Loc) (ls : Array Slot), lwI D A s cy ad am ou od H locs → lv_has ls 9 [(0, .ref b), (1, .ref (ad 0)), (2, .ref (am 0)), (3, .ref ou), (4, .ref od), (5, .int (nI li))] → W p l e room_1 s m #[.ref b] below meth c H locs (cells + 8) (slots + 400) Q (F0 m 1897 ls [])) : W p l e room_1 s m #[.ref b] below meth c H locs cells slots Q (F0 m 1171 ls []) := by
  obtain ⟨fr, bk, vw, tk, to, fk, fo, kp, sp, lt, ib, rw, cl, nu, tv, tm, ta, ml, tn, mf, mb, mv, kn, on, th, X, ap, le, fc, f1, f2, ha, og, oh, tx, hF, hT, hR, G⟩ := I
  have hx := C0.1
  have hb := C0.2.1
  have hown := C0.2.2.2.2.2.1
  have hts := C0.2.2.2.2.2.2.1
  have hRs : rsOk (0, lt, ib, rw, cl, nu) := ⟨by show 0 < 9; decide, hR.2⟩
  have hkp := hF.1
  have h60 := hT.2.2.1
  have htm := hT.1
  obtain ⟨p0, hp0⟩ : ∃ z : Int32, z = xs (li + 1) := ⟨_, rfl⟩
  obtain ⟨p1, hp1⟩ : ∃ z : Int32, z = xs (li + 2) := ⟨_, rfl⟩
  refine lv_aload_n hx hb dL_law_1171 rfl (lv_at hl 1 rfl) ?_
  refine lv_aload_n hx hb dL_law_1172 rfl (lv_at hl 0 rfl) ?_
  refine lv_iload hx hb dL_law_1173 (lv_at hl 5 rfl) ?_
  refine lv_iconst (v := 1) hx hb dL_law_1175 (by decide) ?_
  refine lv_iadd hx hb dL_law_1176 ?_
  refine g_topi (x' := nI (li + 1)) (nI_add li 1) ?_
  refine va_sld hx hb hXs hbl hbA G.2.2 (vp_in_nI (n := li + 1) (by omega) (by omega)) dL_law_1177 ?_
  refine g_topi (x' := p0) (by rw [nI_clamp (n := li + 1) (by omega)]; exact hp0.symm) ?_
  refine lv_aload_n hx hb dL_law_1178 rfl (lv_at hl 0 rfl) ?_
  refine lv_iload hx hb dL_law_1179 (lv_at hl 5 rfl) ?_
  refine lv_iconst (v := 2) hx hb dL_law_1181 (by decide) ?_
  refine lv_iadd hx hb dL_law_1182 ?_
  refine g_topi (x' := nI (li + 2)) (nI_add li 2) ?_
  refine va_sld hx hb hXs hbl hbA G.2.2 (vp_in_nI (n := li + 2) (by omega) (by omega)) dL_law_1183 ?_
  refine g_topi (x' := p1) (by rw [nI_clamp (n := li + 2) (by omega)]; exact hp1.symm) ?_
  refine lv_aload_n hx hb dL_law_1184 rfl (lv_at hl 3 rfl) ?_
  refine g_callH (As := [.ref (ad 0), .int p0, .int p1, .ref ou]) (rest := []) C0 G (c_L_value l D cy (ad := ad) (fr := fr) (bk := bk) (vw := vw) (tk := tk) (to := to) (fk := fk) (fo := fo) (kp := kp) (sp := sp) (lt := lt) (ib := ib) (rw := rw) (cl := cl) (nu := nu) (tv := tv) (tm := tm) (ta := ta) (ml := ml) (tn := tn) (R := wM am cy th (cS mf mb mv) kp X tn ap le fc f1 f2 (biF kn on) ha ([])) (ou := ou) (od := od) (og := og) (oh := oh) (p0 := p0) (p1 := p1) hst) k_L_value ml_L_150 dL_law_1185 rfl rfl hl.1 (Nat.le_of_ble_eq_true rfl) ⟨Nat.le_of_ble_eq_true rfl, Nat.le_of_ble_eq_true rfl⟩ ⟨(by show _ ≤ 601024; omega), (by show _ ≤ 7293034; omega)⟩ (fun r W2 H locs hp G => ?_)
  rcases hp with ⟨k, hk, rfl, i, hi, rfl, rfl, hw⟩ | ⟨rfl, hw, hx9⟩
  · skip
    obtain ⟨eF, eB, eV, hv4⟩ := hF.2 k (by omega)
    have G : gW D (wC ad cy fr bk vw ((fa (sdW (fr k) (bk k)) (onW (fr k) (bk k))).1) ((fa (sdW (fr k) (bk k)) (onW (fr k) (bk k))).2) fk fo kp sp lt ib rw cl nu tv tm ta ml tn ((ou, .inl (cy 2, 1, .inr (.inl (vp_updL og 0 (rvI ((fa (sdW (fr k) (bk k)) (onW (fr k) (bk k))).1) ((fa (sdW (fr k) (bk k)) (onW (fr k) (bk k))).2) i).toInt64)))) :: (od, .inl (cy 3, 1, .inr (.inr (.inr (.inl oh))))) :: wM am cy th (cS mf mb mv) kp X tn ap le fc f1 f2 (biF kn on) ha ([]))) A s _ _ := g_wc hw G
    refine W.eq (g2 := F0 m 1188 ls [.int 0]) rfl ?_
    refine lv_istore (lv' := [(6, .int 0), (0, .ref b), (1, .ref (ad 0)), (2, .ref (am 0)), (3, .ref ou), (4, .ref od), (5, .int (nI li))]) hx hb dL_law_1188 hl (by decide) rfl (fun ls hl => ?_)
    refine lv_aload_n hx hb dL_law_1190 rfl (lv_at hl 3 rfl) ?_
    refine lv_aload_n hx hb dL_law_1191 rfl (lv_at hl 1 rfl) ?_
    refine lv_iload hx hb dL_law_1192 (lv_at hl 6 rfl) ?_
    refine lv_iconst (v := 1) hx hb dL_law_1194 (by decide) ?_
    refine lv_iadd hx hb dL_law_1195 ?_
    refine g_topi (x' := nI (li + 1)) (nI_add li 1) ?_
    refine va_sld hx hb hXs hbl hbA G.2.2 (vp_in_nI (n := li + 1) (by omega) (by omega)) dL_law_1196 ?_
    refine g_topi (x' := nI k) (by rw [nI_clamp (n := li + 1) (by omega)]; exact hp0.symm) ?_
    refine lv_aload_n hx hb dL_law_1197 rfl (lv_at hl 1 rfl) ?_
    refine lv_iload hx hb dL_law_1198 (lv_at hl 6 rfl) ?_
    refine lv_iconst (v := 2) hx hb dL_law_1200 (by decide) ?_
    refine lv_iadd hx hb dL_law_1201 ?_
    refine g_topi (x' := nI (li + 2)) (nI_add li 2) ?_
    refine va_sld hx hb hXs hbl hbA G.2.2 (vp_in_nI (n := li + 2) (by omega) (by omega)) dL_law_1202 ?_
    refine g_topi (x' := nI i) (by rw [nI_clamp (n := li + 2) (by omega)]; exact hp1.symm) ?_
    have G : gW D (wM am cy th (cS mf mb mv) kp X tn ap le fc f1 f2 (biF kn on) ha ((ou, .inl (cy 2, 1, .inr (.inl (vp_updL og 0 (rvI ((fa (sdW (fr k) (bk k)) (onW (fr k) (bk k))).1) ((fa (sdW (fr k) (bk k)) (onW (fr k) (bk k))).2) i).toInt64)))) :: (od, .inl (cy 3, 1, .inr (.inr (.inr (.inl oh))))) :: wC ad cy fr bk vw ((fa (sdW (fr k) (bk k)) (onW (fr k) (bk k))).1) ((fa (sdW (fr k) (bk k)) (onW (fr k) (bk k))).2) fk fo kp sp lt ib rw cl nu tv tm ta ml tn ([]))) A s _ _ := g_swCM G
    refine g_callV (As := [.int (nI k), .int (nI i)]) (rest := []) (q0 := 0) C0 G (c_X5_value_ok l D cy (am := am) (mf := mf) (mb := mb) (mv := mv) (kn := kn) (on := on) (th := th) (sv := kp) (X := X) (ln := tn) (ap := ap) (le := le) (fc := fc) (f1 := f1) (f2 := f2) (ha := ha) (R := ((ou, .inl (cy 2, 1, .inr (.inl (vp_updL og 0 (rvI ((fa (sdW (fr k) (bk k)) (onW (fr k) (bk k))).1) ((fa (sdW (fr k) (bk k)) (onW (fr k) (bk k))).2) i).toInt64)))) :: (od, .inl (cy 3, 1, .inr (.inr (.inr (.inl oh))))) :: wC ad cy fr bk vw ((fa (sdW (fr k) (bk k)) (onW (fr k) (bk k))).1) ((fa (sdW (fr k) (bk k)) (onW (fr k) (bk k))).2) fk fo kp sp lt ib rw cl nu tv tm ta ml tn ([]))) (k := k) (i := i) (by omega) (by omega)) k_X5_value ml_L_152 rfl rfl dL_law_1203 rfl rfl hl.1 (Nat.le_of_ble_eq_true rfl) ⟨Nat.le_of_ble_eq_true rfl, Nat.le_of_ble_eq_true rfl⟩ ⟨(by show _ ≤ 601024; omega), (by show _ ≤ 7293034; omega)⟩ (fun r W2 H locs hp G => ?_)
    obtain ⟨rfl, hw⟩ := hp
    have G := g_wc hw G
    refine W.eq (g2 := F0 m 1206 ls [.int (rvI ((fa (sdW (mf k) (mb k)) (onW (mf k) (mb k))).1) ((fa (sdW (mf k) (mb k)) (onW (mf k) (mb k))).2) i)]) rfl ?_
    refine lv_istore (lv' := [(7, .int (rvI ((fa (sdW (mf k) (mb k)) (onW (mf k) (mb k))).1) ((fa (sdW (mf k) (mb k)) (onW (mf k) (mb k))).2) i)), (6, .int 0), (0, .ref b), (1, .ref (ad 0)), (2, .ref (am 0)), (3, .ref ou), (4, .ref od), (5, .int (nI li))]) hx hb dL_law_1206 hl (by decide) rfl (fun ls hl => ?_)
    refine lv_aload_n hx hb dL_law_1208 rfl (lv_at hl 4 rfl) ?_
    refine g_callV (As := []) (rest := []) (q0 := 0) C0 G (c_X5_thrown l D cy (am := am) (mf := mf) (mb := mb) (mv := mv) (th := nI 0) (sv := kp) (X := X) (ln := tn) (ap := ap) (le := le) (fc := fc) (f1 := f1) (f2 := f2) (ha := ha) (R := ((ou, .inl (cy 2, 1, .inr (.inl (vp_updL og 0 (rvI ((fa (sdW (fr k) (bk k)) (onW (fr k) (bk k))).1) ((fa (sdW (fr k) (bk k)) (onW (fr k) (bk k))).2) i).toInt64)))) :: (od, .inl (cy 3, 1, .inr (.inr (.inr (.inl oh))))) :: wC ad cy fr bk vw ((fa (sdW (fr k) (bk k)) (onW (fr k) (bk k))).1) ((fa (sdW (fr k) (bk k)) (onW (fr k) (bk k))).2) fk fo kp sp lt ib rw cl nu tv tm ta ml tn ([]))) (B := biF ((fa (sdW (mf k) (mb k)) (onW (mf k) (mb k))).1) ((fa (sdW (mf k) (mb k)) (onW (mf k) (mb k))).2))  ) k_X5_thrown ml_L_106 rfl rfl dL_law_1209 rfl rfl hl.1 (Nat.le_of_ble_eq_true rfl) ⟨Nat.le_of_ble_eq_true rfl, Nat.le_of_ble_eq_true rfl⟩ ⟨(by show _ ≤ 601024; omega), (by show _ ≤ 7293034; omega)⟩ (fun r W2 H locs hp G => ?_)
    obtain ⟨rfl, hw⟩ := hp
    have G := g_wc hw G
    refine W.eq (g2 := F0 m 1212 ls [.int (nI 0)]) rfl ?_
    refine g_topi (x' := 0) rfl ?_
    refine lv_iload hx hb dL_law_1212 (lv_at hl 1 rfl) ?_
    refine lv_icmp_eq (tgt := 1219) hx hb dL_law_1214 (by decide) (fun c_1214 => ?_) (fun c_1214 => ?_)
    · skip
      refine lv_iload hx hb dL_law_1219 (lv_at hl 1 rfl) ?_
      refine lv_if_ne (tgt := 1236) hx hb dL_law_1221 (by decide) (fun c_1221 => ?_) (fun c_1221 => ?_)
      · exact absurd c_1221 (by decide)
      · skip
        refine lv_aload_n hx hb dL_law_1224 rfl (lv_at hl 5 rfl) ?_
        refine lv_iconst (v := 0) hx hb dL_law_1225 (by decide) ?_
        refine g_topi (x' := nI 0) rfl ?_
        refine g_lald (q0 := 4) (n := 1) C0 G rfl 2 rfl (vp_in_nI (n := 0) (by omega) (by decide)) dL_law_1226 ?_
        refine g_topl (x' := (vp_updL og 0 (rvI ((fa (sdW (fr k) (bk k)) (onW (fr k) (bk k))).1) ((fa (sdW (fr k) (bk k)) (onW (fr k) (bk k))).2) i).toInt64) 0) (congrArg (vp_updL og 0 (rvI ((fa (sdW (fr k) (bk k)) (onW (fr k) (bk k))).1) ((fa (sdW (fr k) (bk k)) (onW (fr k) (bk k))).2) i).toInt64) (nI_clamp (n := 0) (by omega))) ?_
        refine g_topl (x' := (rvI ((fa (sdW (fr k) (bk k)) (onW (fr k) (bk k))).1) ((fa (sdW (fr k) (bk k)) (onW (fr k) (bk k))).2) i).toInt64) (if_pos rfl) ?_
        refine lv_iload hx hb dL_law_1227 (lv_at hl 0 rfl) ?_
        refine lv_i2l hx hb dL_law_1229 rfl ?_
        refine W.lcmp hx hb dL_law_1230 ?_
        refine lv_if_eq (tgt := 1236) hx hb dL_law_1231 (by decide) (fun c_1231 => ?_) (fun c_1231 => ?_)
        · skip
          have c_1231 : ((rvI ((fa (sdW (fr k) (bk k)) (onW (fr k) (bk k))).1) ((fa (sdW (fr k) (bk k)) (onW (fr k) (bk k))).2) i).toInt64) = ((rvI ((fa (sdW (mf k) (mb k)) (onW (mf k) (mb k))).1) ((fa (sdW (mf k) (mb k)) (onW (mf k) (mb k))).2) i).toInt64) := lgc_eq.mp c_1231
          refine lv_goto (tgt := 1897) hx hb dL_law_1236 (by decide) ?_
          have G : gW D (wC ad cy fr bk vw ((fa (sdW (fr k) (bk k)) (onW (fr k) (bk k))).1) ((fa (sdW (fr k) (bk k)) (onW (fr k) (bk k))).2) fk fo kp sp lt ib rw cl nu tv tm ta ml tn ((ou, .inl (cy 2, 1, .inr (.inl (vp_updL og 0 (rvI ((fa (sdW (fr k) (bk k)) (onW (fr k) (bk k))).1) ((fa (sdW (fr k) (bk k)) (onW (fr k) (bk k))).2) i).toInt64)))) :: (od, .inl (cy 3, 1, .inr (.inr (.inr (.inl oh))))) :: wM am cy (nI 0) (cS mf mb mv) kp X tn ap le fc f1 f2 (biF ((fa (sdW (mf k) (mb k)) (onW (mf k) (mb k))).1) ((fa (sdW (mf k) (mb k)) (onW (mf k) (mb k))).2)) ha ([]))) A s _ _ := g_swMC G
          refine W.widen (k := cells + 8) (n := slots + 400) (by omega) (by omega) ?_
          exact kk _ _ _ ⟨fr, bk, vw, ((fa (sdW (fr k) (bk k)) (onW (fr k) (bk k))).1), ((fa (sdW (fr k) (bk k)) (onW (fr k) (bk k))).2), fk, fo, kp, sp, lt, ib, rw, cl, nu, tv, tm, ta, ml, tn, mf, mb, mv, ((fa (sdW (mf k) (mb k)) (onW (mf k) (mb k))).1), ((fa (sdW (mf k) (mb k)) (onW (mf k) (mb k))).2), (nI 0), X, ap, le, fc, f1, f2, ha, (vp_updL og 0 (rvI ((fa (sdW (fr k) (bk k)) (onW (fr k) (bk k))).1) ((fa (sdW (fr k) (bk k)) (onW (fr k) (bk k))).2) i).toInt64), oh, tx, hF, hT, hR, G⟩ (lv_sub hl [2, 3, 4, 5, 6, 7] rfl)
        · skip
          have c_1231 : ¬ ((rvI ((fa (sdW (fr k) (bk k)) (onW (fr k) (bk k))).1) ((fa (sdW (fr k) (bk k)) (onW (fr k) (bk k))).2) i).toInt64) = ((rvI ((fa (sdW (mf k) (mb k)) (onW (mf k) (mb k))).1) ((fa (sdW (mf k) (mb k)) (onW (mf k) (mb k))).2) i).toInt64) := fun h => c_1231 (lgc_eq.mpr h)
          exact absurd (by first | (simp only [mSv_sa, saU_lo hk, ← eF, ← eB, ← eV]; done) | (simp only [mSv_sa, saU_lo hk, ← eF, ← eB, ← eV]; rfl) | rfl) c_1231
    · exact absurd c_1214 (by decide)
  · skip
    have G : gW D (wC ad cy fr bk vw tk to fk fo kp sp lt ib rw cl nu tv tm ta ml tn ((ou, .inl (cy 2, 1, .inr (.inl og))) :: (od, .inl (cy 3, 1, .inr (.inr (.inr (.inl oh))))) :: wM am cy th (cS mf mb mv) kp X tn ap le fc f1 f2 (biF kn on) ha ([]))) A s _ _ := g_wc hw G
    refine W.eq (g2 := F0 m 1188 ls [.int 1]) rfl ?_
    refine lv_istore (lv' := [(6, .int 1), (0, .ref b), (1, .ref (ad 0)), (2, .ref (am 0)), (3, .ref ou), (4, .ref od), (5, .int (nI li))]) hx hb dL_law_1188 hl (by decide) rfl (fun ls hl => ?_)
    refine lv_aload_n hx hb dL_law_1190 rfl (lv_at hl 3 rfl) ?_
    refine lv_aload_n hx hb dL_law_1191 rfl (lv_at hl 1 rfl) ?_
    refine lv_iload hx hb dL_law_1192 (lv_at hl 6 rfl) ?_
    refine lv_iconst (v := 1) hx hb dL_law_1194 (by decide) ?_
    refine lv_iadd hx hb dL_law_1195 ?_
    refine g_topi (x' := nI (li + 1)) (nI_add li 1) ?_
    refine va_sld hx hb hXs hbl hbA G.2.2 (vp_in_nI (n := li + 1) (by omega) (by omega)) dL_law_1196 ?_
    refine g_topi (x' := p0) (by rw [nI_clamp (n := li + 1) (by omega)]; exact hp0.symm) ?_
    refine lv_aload_n hx hb dL_law_1197 rfl (lv_at hl 1 rfl) ?_
    refine lv_iload hx hb dL_law_1198 (lv_at hl 6 rfl) ?_
    refine lv_iconst (v := 2) hx hb dL_law_1200 (by decide) ?_
    refine lv_iadd hx hb dL_law_1201 ?_
    refine g_topi (x' := nI (li + 2)) (nI_add li 2) ?_
    refine va_sld hx hb hXs hbl hbA G.2.2 (vp_in_nI (n := li + 2) (by omega) (by omega)) dL_law_1202 ?_
    refine g_topi (x' := p1) (by rw [nI_clamp (n := li + 2) (by omega)]; exact hp1.symm) ?_
    have G : gW D (wM am cy th (cS mf mb mv) kp X tn ap le fc f1 f2 (biF kn on) ha ((ou, .inl (cy 2, 1, .inr (.inl og))) :: (od, .inl (cy 3, 1, .inr (.inr (.inr (.inl oh))))) :: wC ad cy fr bk vw tk to fk fo kp sp lt ib rw cl nu tv tm ta ml tn ([]))) A s _ _ := g_swCM G
    refine g_callV (As := [.int p0, .int p1]) (rest := []) (q0 := 0) C0 G (c_X5_value_e1 l D cy (am := am) (mf := mf) (mb := mb) (mv := mv) (th := th) (sv := kp) (X := X) (ln := tn) (ap := ap) (le := le) (fc := fc) (f1 := f1) (f2 := f2) (ha := ha) (R := ((ou, .inl (cy 2, 1, .inr (.inl og))) :: (od, .inl (cy 3, 1, .inr (.inr (.inr (.inl oh))))) :: wC ad cy fr bk vw tk to fk fo kp sp lt ib rw cl nu tv tm ta ml tn ([]))) (B := biF kn on) (p0 := p0) (p1 := p1) (by rw [inB_ir (x := p0) (n := 2) (hi := 2) rfl (by decide), inB_ir (x := p1) (n := 6) (hi := 6) rfl (by decide)]; exact hx9)) k_X5_value ml_L_152 rfl rfl dL_law_1203 rfl rfl hl.1 (Nat.le_of_ble_eq_true rfl) ⟨Nat.le_of_ble_eq_true rfl, Nat.le_of_ble_eq_true rfl⟩ ⟨(by show _ ≤ 601024; omega), (by show _ ≤ 7293034; omega)⟩ (fun r W2 H locs hp G => ?_)
    obtain ⟨rfl, hw⟩ := hp
    have G := g_wc hw G
    refine W.eq (g2 := F0 m 1206 ls [.int 0]) rfl ?_
    refine lv_istore (lv' := [(7, .int 0), (6, .int 1), (0, .ref b), (1, .ref (ad 0)), (2, .ref (am 0)), (3, .ref ou), (4, .ref od), (5, .int (nI li))]) hx hb dL_law_1206 hl (by decide) rfl (fun ls hl => ?_)
    refine lv_aload_n hx hb dL_law_1208 rfl (lv_at hl 4 rfl) ?_
    refine g_callV (As := []) (rest := []) (q0 := 0) C0 G (c_X5_thrown l D cy (am := am) (mf := mf) (mb := mb) (mv := mv) (th := nI 1) (sv := kp) (X := X) (ln := tn) (ap := ap) (le := le) (fc := fc) (f1 := f1) (f2 := f2) (ha := ha) (R := ((ou, .inl (cy 2, 1, .inr (.inl og))) :: (od, .inl (cy 3, 1, .inr (.inr (.inr (.inl oh))))) :: wC ad cy fr bk vw tk to fk fo kp sp lt ib rw cl nu tv tm ta ml tn ([]))) (B := biF kn on)  ) k_X5_thrown ml_L_106 rfl rfl dL_law_1209 rfl rfl hl.1 (Nat.le_of_ble_eq_true rfl) ⟨Nat.le_of_ble_eq_true rfl, Nat.le_of_ble_eq_true rfl⟩ ⟨(by show _ ≤ 601024; omega), (by show _ ≤ 7293034; omega)⟩ (fun r W2 H locs hp G => ?_)
    obtain ⟨rfl, hw⟩ := hp
    have G := g_wc hw G
    refine W.eq (g2 := F0 m 1212 ls [.int (nI 1)]) rfl ?_
    refine g_topi (x' := 1) rfl ?_
    refine lv_iload hx hb dL_law_1212 (lv_at hl 1 rfl) ?_
    refine lv_icmp_eq (tgt := 1219) hx hb dL_law_1214 (by decide) (fun c_1214 => ?_) (fun c_1214 => ?_)
    · skip
      refine lv_iload hx hb dL_law_1219 (lv_at hl 1 rfl) ?_
      refine lv_if_ne (tgt := 1236) hx hb dL_law_1221 (by decide) (fun c_1221 => ?_) (fun c_1221 => ?_)
      · skip
        refine lv_goto (tgt := 1897) hx hb dL_law_1236 (by decide) ?_
        have G : gW D (wC ad cy fr bk vw tk to fk fo kp sp lt ib rw cl nu tv tm ta ml tn ((ou, .inl (cy 2, 1, .inr (.inl og))) :: (od, .inl (cy 3, 1, .inr (.inr (.inr (.inl oh))))) :: wM am cy (nI 1) (cS mf mb mv) kp X tn ap le fc f1 f2 (biF kn on) ha ([]))) A s _ _ := g_swMC G
        refine W.widen (k := cells + 8) (n := slots + 400) (by omega) (by omega) ?_
        exact kk _ _ _ ⟨fr, bk, vw, tk, to, fk, fo, kp, sp, lt, ib, rw, cl, nu, tv, tm, ta, ml, tn, mf, mb, mv, kn, on, (nI 1), X, ap, le, fc, f1, f2, ha, og, oh, tx, hF, hT, hR, G⟩ (lv_sub hl [2, 3, 4, 5, 6, 7] rfl)
      · exact absurd c_1221 (by decide)
    · exact absurd c_1214 (by decide)

set_option maxHeartbeats 4000000 in
set_option maxRecDepth 100000 in
theorem lw_c15 {p : Program} {l : Launch} {e : Env} {s : State} {m : MethodId} {below : List Frame} {meth : Method} {c : Code} {H : Heap} {locs : List Loc} {cells slots : Nat} {Q : State → Prop} {D : va_G} {cy : Nat → ClassId} {A : Nat → Prop} {ad am : Nat → Nat} {ou od b L li : Nat} {xs : Nat → Int32} {ls : Array Slot} (C0 : gC p s m #[.ref b] meth c code 9 (some .boolean) RL D (gts cy) A) (hst : l.stackTraces = false) (hXs : va_X b L xs s s.heap) (hbl : b < s.heap.size) (hbA : ¬ A b) (hli : li + 3 < L) (hL : L ≤ 2048) (hce : cells + 8 ≤ 601024) (hsl : slots + 400 ≤ 7293034) (I : lwI D A s cy ad am ou od H locs) (hl : lv_has ls 9 [(0, .ref b), (1, .ref (ad 0)), (2, .ref (am 0)), (3, .ref ou), (4, .ref od), (5, .int (nI li))])
    (kk : ∀ (H : Heap) (locs : List Loc) (ls : Array Slot), lwI D A s cy ad am ou od H locs → lv_has ls 9 [(0, .ref b), (1, .ref (ad 0)), (2, .ref (am 0)), (3, .ref ou), (4, .ref od), (5, .int (nI li))] → W p l e room_1 s m #[.ref b] below meth c H locs (cells + 8) (slots + 400) Q (F0 m 1897 ls [])) : W p l e room_1 s m #[.ref b] below meth c H locs cells slots Q (F0 m 1239 ls []) := by
  obtain ⟨fr, bk, vw, tk, to, fk, fo, kp, sp, lt, ib, rw, cl, nu, tv, tm, ta, ml, tn, mf, mb, mv, kn, on, th, X, ap, le, fc, f1, f2, ha, og, oh, tx, hF, hT, hR, G⟩ := I
  have hx := C0.1
  have hb := C0.2.1
  have hown := C0.2.2.2.2.2.1
  have hts := C0.2.2.2.2.2.2.1
  have hRs : rsOk (0, lt, ib, rw, cl, nu) := ⟨by show 0 < 9; decide, hR.2⟩
  have hkp := hF.1
  have h60 := hT.2.2.1
  have htm := hT.1
  obtain ⟨p0, hp0⟩ : ∃ z : Int32, z = xs (li + 1) := ⟨_, rfl⟩
  refine lv_aload_n hx hb dL_law_1239 rfl (lv_at hl 1 rfl) ?_
  refine lv_aload_n hx hb dL_law_1240 rfl (lv_at hl 0 rfl) ?_
  refine lv_iload hx hb dL_law_1241 (lv_at hl 5 rfl) ?_
  refine lv_iconst (v := 1) hx hb dL_law_1243 (by decide) ?_
  refine lv_iadd hx hb dL_law_1244 ?_
  refine g_topi (x' := nI (li + 1)) (nI_add li 1) ?_
  refine va_sld hx hb hXs hbl hbA G.2.2 (vp_in_nI (n := li + 1) (by omega) (by omega)) dL_law_1245 ?_
  refine g_topi (x' := p0) (by rw [nI_clamp (n := li + 1) (by omega)]; exact hp0.symm) ?_
  refine lv_aload_n hx hb dL_law_1246 rfl (lv_at hl 3 rfl) ?_
  refine g_callH (As := [.ref (ad 0), .int p0, .ref ou]) (rest := []) C0 G (c_L_untold l D cy (ad := ad) (fr := fr) (bk := bk) (vw := vw) (tk := tk) (to := to) (fk := fk) (fo := fo) (kp := kp) (sp := sp) (lt := lt) (ib := ib) (rw := rw) (cl := cl) (nu := nu) (tv := tv) (tm := tm) (ta := ta) (ml := ml) (tn := tn) (R := wM am cy th (cS mf mb mv) kp X tn ap le fc f1 f2 (biF kn on) ha ([])) (ou := ou) (od := od) (og := og) (oh := oh) (p0 := p0) hst) k_L_untold ml_L_153 dL_law_1247 rfl rfl hl.1 (Nat.le_of_ble_eq_true rfl) ⟨Nat.le_of_ble_eq_true rfl, Nat.le_of_ble_eq_true rfl⟩ ⟨(by show _ ≤ 601024; omega), (by show _ ≤ 7293034; omega)⟩ (fun r W2 H locs hp G => ?_)
  rcases hp with ⟨k, hk, rfl, rfl, hw⟩ | ⟨rfl, hw, hx9⟩
  · skip
    obtain ⟨eF, eB, eV, hv4⟩ := hF.2 k (by omega)
    have G : gW D (wC ad cy fr bk vw ((fa (sdW (fr k) (bk k)) (onW (fr k) (bk k))).1) ((fa (sdW (fr k) (bk k)) (onW (fr k) (bk k))).2) fk fo kp sp lt ib rw cl nu tv tm ta ml tn ((ou, .inl (cy 2, 1, .inr (.inl (vp_updL og 0 (nI (pc ((fa (sdW (fr k) (bk k)) (onW (fr k) (bk k))).1 ^^^ (-1)))).toInt64)))) :: (od, .inl (cy 3, 1, .inr (.inr (.inr (.inl oh))))) :: wM am cy th (cS mf mb mv) kp X tn ap le fc f1 f2 (biF kn on) ha ([]))) A s _ _ := g_wc hw G
    refine W.eq (g2 := F0 m 1250 ls [.int 0]) rfl ?_
    refine lv_istore (lv' := [(6, .int 0), (0, .ref b), (1, .ref (ad 0)), (2, .ref (am 0)), (3, .ref ou), (4, .ref od), (5, .int (nI li))]) hx hb dL_law_1250 hl (by decide) rfl (fun ls hl => ?_)
    refine lv_aload_n hx hb dL_law_1252 rfl (lv_at hl 3 rfl) ?_
    refine lv_aload_n hx hb dL_law_1253 rfl (lv_at hl 1 rfl) ?_
    refine lv_iload hx hb dL_law_1254 (lv_at hl 6 rfl) ?_
    refine lv_iconst (v := 1) hx hb dL_law_1256 (by decide) ?_
    refine lv_iadd hx hb dL_law_1257 ?_
    refine g_topi (x' := nI (li + 1)) (nI_add li 1) ?_
    refine va_sld hx hb hXs hbl hbA G.2.2 (vp_in_nI (n := li + 1) (by omega) (by omega)) dL_law_1258 ?_
    refine g_topi (x' := nI k) (by rw [nI_clamp (n := li + 1) (by omega)]; exact hp0.symm) ?_
    have G : gW D (wM am cy th (cS mf mb mv) kp X tn ap le fc f1 f2 (biF kn on) ha ((ou, .inl (cy 2, 1, .inr (.inl (vp_updL og 0 (nI (pc ((fa (sdW (fr k) (bk k)) (onW (fr k) (bk k))).1 ^^^ (-1)))).toInt64)))) :: (od, .inl (cy 3, 1, .inr (.inr (.inr (.inl oh))))) :: wC ad cy fr bk vw ((fa (sdW (fr k) (bk k)) (onW (fr k) (bk k))).1) ((fa (sdW (fr k) (bk k)) (onW (fr k) (bk k))).2) fk fo kp sp lt ib rw cl nu tv tm ta ml tn ([]))) A s _ _ := g_swCM G
    refine g_callV (As := [.int (nI k)]) (rest := []) (q0 := 0) C0 G (c_X5_untold_ok l D cy (am := am) (mf := mf) (mb := mb) (mv := mv) (kn := kn) (on := on) (th := th) (sv := kp) (X := X) (ln := tn) (ap := ap) (le := le) (fc := fc) (f1 := f1) (f2 := f2) (ha := ha) (R := ((ou, .inl (cy 2, 1, .inr (.inl (vp_updL og 0 (nI (pc ((fa (sdW (fr k) (bk k)) (onW (fr k) (bk k))).1 ^^^ (-1)))).toInt64)))) :: (od, .inl (cy 3, 1, .inr (.inr (.inr (.inl oh))))) :: wC ad cy fr bk vw ((fa (sdW (fr k) (bk k)) (onW (fr k) (bk k))).1) ((fa (sdW (fr k) (bk k)) (onW (fr k) (bk k))).2) fk fo kp sp lt ib rw cl nu tv tm ta ml tn ([]))) (k := k) (by omega)) k_X5_untold ml_L_155 rfl rfl dL_law_1259 rfl rfl hl.1 (Nat.le_of_ble_eq_true rfl) ⟨Nat.le_of_ble_eq_true rfl, Nat.le_of_ble_eq_true rfl⟩ ⟨(by show _ ≤ 601024; omega), (by show _ ≤ 7293034; omega)⟩ (fun r W2 H locs hp G => ?_)
    obtain ⟨rfl, hw⟩ := hp
    have G := g_wc hw G
    refine W.eq (g2 := F0 m 1262 ls [.int (nI (pc ((fa (sdW (mf k) (mb k)) (onW (mf k) (mb k))).1 ^^^ (-1))))]) rfl ?_
    refine lv_istore (lv' := [(7, .int (nI (pc ((fa (sdW (mf k) (mb k)) (onW (mf k) (mb k))).1 ^^^ (-1))))), (6, .int 0), (0, .ref b), (1, .ref (ad 0)), (2, .ref (am 0)), (3, .ref ou), (4, .ref od), (5, .int (nI li))]) hx hb dL_law_1262 hl (by decide) rfl (fun ls hl => ?_)
    refine lv_aload_n hx hb dL_law_1264 rfl (lv_at hl 4 rfl) ?_
    refine g_callV (As := []) (rest := []) (q0 := 0) C0 G (c_X5_thrown l D cy (am := am) (mf := mf) (mb := mb) (mv := mv) (th := nI 0) (sv := kp) (X := X) (ln := tn) (ap := ap) (le := le) (fc := fc) (f1 := f1) (f2 := f2) (ha := ha) (R := ((ou, .inl (cy 2, 1, .inr (.inl (vp_updL og 0 (nI (pc ((fa (sdW (fr k) (bk k)) (onW (fr k) (bk k))).1 ^^^ (-1)))).toInt64)))) :: (od, .inl (cy 3, 1, .inr (.inr (.inr (.inl oh))))) :: wC ad cy fr bk vw ((fa (sdW (fr k) (bk k)) (onW (fr k) (bk k))).1) ((fa (sdW (fr k) (bk k)) (onW (fr k) (bk k))).2) fk fo kp sp lt ib rw cl nu tv tm ta ml tn ([]))) (B := biF ((fa (sdW (mf k) (mb k)) (onW (mf k) (mb k))).1) ((fa (sdW (mf k) (mb k)) (onW (mf k) (mb k))).2))  ) k_X5_thrown ml_L_106 rfl rfl dL_law_1265 rfl rfl hl.1 (Nat.le_of_ble_eq_true rfl) ⟨Nat.le_of_ble_eq_true rfl, Nat.le_of_ble_eq_true rfl⟩ ⟨(by show _ ≤ 601024; omega), (by show _ ≤ 7293034; omega)⟩ (fun r W2 H locs hp G => ?_)
    obtain ⟨rfl, hw⟩ := hp
    have G := g_wc hw G
    refine W.eq (g2 := F0 m 1268 ls [.int (nI 0)]) rfl ?_
    refine g_topi (x' := 0) rfl ?_
    refine lv_iload hx hb dL_law_1268 (lv_at hl 1 rfl) ?_
    refine lv_icmp_eq (tgt := 1275) hx hb dL_law_1270 (by decide) (fun c_1270 => ?_) (fun c_1270 => ?_)
    · skip
      refine lv_iload hx hb dL_law_1275 (lv_at hl 1 rfl) ?_
      refine lv_if_ne (tgt := 1292) hx hb dL_law_1277 (by decide) (fun c_1277 => ?_) (fun c_1277 => ?_)
      · exact absurd c_1277 (by decide)
      · skip
        refine lv_aload_n hx hb dL_law_1280 rfl (lv_at hl 5 rfl) ?_
        refine lv_iconst (v := 0) hx hb dL_law_1281 (by decide) ?_
        refine g_topi (x' := nI 0) rfl ?_
        refine g_lald (q0 := 4) (n := 1) C0 G rfl 2 rfl (vp_in_nI (n := 0) (by omega) (by decide)) dL_law_1282 ?_
        refine g_topl (x' := (vp_updL og 0 (nI (pc ((fa (sdW (fr k) (bk k)) (onW (fr k) (bk k))).1 ^^^ (-1)))).toInt64) 0) (congrArg (vp_updL og 0 (nI (pc ((fa (sdW (fr k) (bk k)) (onW (fr k) (bk k))).1 ^^^ (-1)))).toInt64) (nI_clamp (n := 0) (by omega))) ?_
        refine g_topl (x' := (nI (pc ((fa (sdW (fr k) (bk k)) (onW (fr k) (bk k))).1 ^^^ (-1)))).toInt64) (if_pos rfl) ?_
        refine lv_iload hx hb dL_law_1283 (lv_at hl 0 rfl) ?_
        refine lv_i2l hx hb dL_law_1285 rfl ?_
        refine W.lcmp hx hb dL_law_1286 ?_
        refine lv_if_eq (tgt := 1292) hx hb dL_law_1287 (by decide) (fun c_1287 => ?_) (fun c_1287 => ?_)
        · skip
          have c_1287 : ((nI (pc ((fa (sdW (fr k) (bk k)) (onW (fr k) (bk k))).1 ^^^ (-1)))).toInt64) = ((nI (pc ((fa (sdW (mf k) (mb k)) (onW (mf k) (mb k))).1 ^^^ (-1)))).toInt64) := lgc_eq.mp c_1287
          refine lv_goto (tgt := 1897) hx hb dL_law_1292 (by decide) ?_
          have G : gW D (wC ad cy fr bk vw ((fa (sdW (fr k) (bk k)) (onW (fr k) (bk k))).1) ((fa (sdW (fr k) (bk k)) (onW (fr k) (bk k))).2) fk fo kp sp lt ib rw cl nu tv tm ta ml tn ((ou, .inl (cy 2, 1, .inr (.inl (vp_updL og 0 (nI (pc ((fa (sdW (fr k) (bk k)) (onW (fr k) (bk k))).1 ^^^ (-1)))).toInt64)))) :: (od, .inl (cy 3, 1, .inr (.inr (.inr (.inl oh))))) :: wM am cy (nI 0) (cS mf mb mv) kp X tn ap le fc f1 f2 (biF ((fa (sdW (mf k) (mb k)) (onW (mf k) (mb k))).1) ((fa (sdW (mf k) (mb k)) (onW (mf k) (mb k))).2)) ha ([]))) A s _ _ := g_swMC G
          refine W.widen (k := cells + 8) (n := slots + 400) (by omega) (by omega) ?_
          exact kk _ _ _ ⟨fr, bk, vw, ((fa (sdW (fr k) (bk k)) (onW (fr k) (bk k))).1), ((fa (sdW (fr k) (bk k)) (onW (fr k) (bk k))).2), fk, fo, kp, sp, lt, ib, rw, cl, nu, tv, tm, ta, ml, tn, mf, mb, mv, ((fa (sdW (mf k) (mb k)) (onW (mf k) (mb k))).1), ((fa (sdW (mf k) (mb k)) (onW (mf k) (mb k))).2), (nI 0), X, ap, le, fc, f1, f2, ha, (vp_updL og 0 (nI (pc ((fa (sdW (fr k) (bk k)) (onW (fr k) (bk k))).1 ^^^ (-1)))).toInt64), oh, tx, hF, hT, hR, G⟩ (lv_sub hl [2, 3, 4, 5, 6, 7] rfl)
        · skip
          have c_1287 : ¬ ((nI (pc ((fa (sdW (fr k) (bk k)) (onW (fr k) (bk k))).1 ^^^ (-1)))).toInt64) = ((nI (pc ((fa (sdW (mf k) (mb k)) (onW (mf k) (mb k))).1 ^^^ (-1)))).toInt64) := fun h => c_1287 (lgc_eq.mpr h)
          exact absurd (by first | (simp only [mSv_sa, saU_lo hk, ← eF, ← eB, ← eV]; done) | (simp only [mSv_sa, saU_lo hk, ← eF, ← eB, ← eV]; rfl) | rfl) c_1287
    · exact absurd c_1270 (by decide)
  · skip
    have G : gW D (wC ad cy fr bk vw tk to fk fo kp sp lt ib rw cl nu tv tm ta ml tn ((ou, .inl (cy 2, 1, .inr (.inl og))) :: (od, .inl (cy 3, 1, .inr (.inr (.inr (.inl oh))))) :: wM am cy th (cS mf mb mv) kp X tn ap le fc f1 f2 (biF kn on) ha ([]))) A s _ _ := g_wc hw G
    refine W.eq (g2 := F0 m 1250 ls [.int 1]) rfl ?_
    refine lv_istore (lv' := [(6, .int 1), (0, .ref b), (1, .ref (ad 0)), (2, .ref (am 0)), (3, .ref ou), (4, .ref od), (5, .int (nI li))]) hx hb dL_law_1250 hl (by decide) rfl (fun ls hl => ?_)
    refine lv_aload_n hx hb dL_law_1252 rfl (lv_at hl 3 rfl) ?_
    refine lv_aload_n hx hb dL_law_1253 rfl (lv_at hl 1 rfl) ?_
    refine lv_iload hx hb dL_law_1254 (lv_at hl 6 rfl) ?_
    refine lv_iconst (v := 1) hx hb dL_law_1256 (by decide) ?_
    refine lv_iadd hx hb dL_law_1257 ?_
    refine g_topi (x' := nI (li + 1)) (nI_add li 1) ?_
    refine va_sld hx hb hXs hbl hbA G.2.2 (vp_in_nI (n := li + 1) (by omega) (by omega)) dL_law_1258 ?_
    refine g_topi (x' := p0) (by rw [nI_clamp (n := li + 1) (by omega)]; exact hp0.symm) ?_
    have G : gW D (wM am cy th (cS mf mb mv) kp X tn ap le fc f1 f2 (biF kn on) ha ((ou, .inl (cy 2, 1, .inr (.inl og))) :: (od, .inl (cy 3, 1, .inr (.inr (.inr (.inl oh))))) :: wC ad cy fr bk vw tk to fk fo kp sp lt ib rw cl nu tv tm ta ml tn ([]))) A s _ _ := g_swCM G
    refine g_callV (As := [.int p0]) (rest := []) (q0 := 0) C0 G (c_X5_untold_e1 l D cy (am := am) (mf := mf) (mb := mb) (mv := mv) (th := th) (sv := kp) (X := X) (ln := tn) (ap := ap) (le := le) (fc := fc) (f1 := f1) (f2 := f2) (ha := ha) (R := ((ou, .inl (cy 2, 1, .inr (.inl og))) :: (od, .inl (cy 3, 1, .inr (.inr (.inr (.inl oh))))) :: wC ad cy fr bk vw tk to fk fo kp sp lt ib rw cl nu tv tm ta ml tn ([]))) (B := biF kn on) (p0 := p0) (by rw [inB_ir (x := p0) (n := 2) (hi := 2) rfl (by decide)]; exact hx9)) k_X5_untold ml_L_155 rfl rfl dL_law_1259 rfl rfl hl.1 (Nat.le_of_ble_eq_true rfl) ⟨Nat.le_of_ble_eq_true rfl, Nat.le_of_ble_eq_true rfl⟩ ⟨(by show _ ≤ 601024; omega), (by show _ ≤ 7293034; omega)⟩ (fun r W2 H locs hp G => ?_)
    obtain ⟨rfl, hw⟩ := hp
    have G := g_wc hw G
    refine W.eq (g2 := F0 m 1262 ls [.int 0]) rfl ?_
    refine lv_istore (lv' := [(7, .int 0), (6, .int 1), (0, .ref b), (1, .ref (ad 0)), (2, .ref (am 0)), (3, .ref ou), (4, .ref od), (5, .int (nI li))]) hx hb dL_law_1262 hl (by decide) rfl (fun ls hl => ?_)
    refine lv_aload_n hx hb dL_law_1264 rfl (lv_at hl 4 rfl) ?_
    refine g_callV (As := []) (rest := []) (q0 := 0) C0 G (c_X5_thrown l D cy (am := am) (mf := mf) (mb := mb) (mv := mv) (th := nI 1) (sv := kp) (X := X) (ln := tn) (ap := ap) (le := le) (fc := fc) (f1 := f1) (f2 := f2) (ha := ha) (R := ((ou, .inl (cy 2, 1, .inr (.inl og))) :: (od, .inl (cy 3, 1, .inr (.inr (.inr (.inl oh))))) :: wC ad cy fr bk vw tk to fk fo kp sp lt ib rw cl nu tv tm ta ml tn ([]))) (B := biF kn on)  ) k_X5_thrown ml_L_106 rfl rfl dL_law_1265 rfl rfl hl.1 (Nat.le_of_ble_eq_true rfl) ⟨Nat.le_of_ble_eq_true rfl, Nat.le_of_ble_eq_true rfl⟩ ⟨(by show _ ≤ 601024; omega), (by show _ ≤ 7293034; omega)⟩ (fun r W2 H locs hp G => ?_)
    obtain ⟨rfl, hw⟩ := hp
    have G := g_wc hw G
    refine W.eq (g2 := F0 m 1268 ls [.int (nI 1)]) rfl ?_
    refine g_topi (x' := 1) rfl ?_
    refine lv_iload hx hb dL_law_1268 (lv_at hl 1 rfl) ?_
    refine lv_icmp_eq (tgt := 1275) hx hb dL_law_1270 (by decide) (fun c_1270 => ?_) (fun c_1270 => ?_)
    · skip
      refine lv_iload hx hb dL_law_1275 (lv_at hl 1 rfl) ?_
      refine lv_if_ne (tgt := 1292) hx hb dL_law_1277 (by decide) (fun c_1277 => ?_) (fun c_1277 => ?_)
      · skip
        refine lv_goto (tgt := 1897) hx hb dL_law_1292 (by decide) ?_
        have G : gW D (wC ad cy fr bk vw tk to fk fo kp sp lt ib rw cl nu tv tm ta ml tn ((ou, .inl (cy 2, 1, .inr (.inl og))) :: (od, .inl (cy 3, 1, .inr (.inr (.inr (.inl oh))))) :: wM am cy (nI 1) (cS mf mb mv) kp X tn ap le fc f1 f2 (biF kn on) ha ([]))) A s _ _ := g_swMC G
        refine W.widen (k := cells + 8) (n := slots + 400) (by omega) (by omega) ?_
        exact kk _ _ _ ⟨fr, bk, vw, tk, to, fk, fo, kp, sp, lt, ib, rw, cl, nu, tv, tm, ta, ml, tn, mf, mb, mv, kn, on, (nI 1), X, ap, le, fc, f1, f2, ha, og, oh, tx, hF, hT, hR, G⟩ (lv_sub hl [2, 3, 4, 5, 6, 7] rfl)
      · exact absurd c_1277 (by decide)
    · exact absurd c_1270 (by decide)

set_option maxHeartbeats 4000000 in
set_option maxRecDepth 100000 in
theorem lw_c16 {p : Program} {l : Launch} {e : Env} {s : State} {m : MethodId} {below : List Frame} {meth : Method} {c : Code} {H : Heap} {locs : List Loc} {cells slots : Nat} {Q : State → Prop} {D : va_G} {cy : Nat → ClassId} {A : Nat → Prop} {ad am : Nat → Nat} {ou od b L li : Nat} {xs : Nat → Int32} {ls : Array Slot} (C0 : gC p s m #[.ref b] meth c code 9 (some .boolean) RL D (gts cy) A) (hst : l.stackTraces = false) (hXs : va_X b L xs s s.heap) (hbl : b < s.heap.size) (hbA : ¬ A b) (hli : li + 3 < L) (hL : L ≤ 2048) (hce : cells + 8 ≤ 601024) (hsl : slots + 400 ≤ 7293034) (I : lwI D A s cy ad am ou od H locs) (hl : lv_has ls 9 [(0, .ref b), (1, .ref (ad 0)), (2, .ref (am 0)), (3, .ref ou), (4, .ref od), (5, .int (nI li))])
    (kk : ∀ (H : Heap) (locs : List Loc) (ls : Array Slot), lwI D A s cy ad am ou od H locs → lv_has ls 9 [(0, .ref b), (1, .ref (ad 0)), (2, .ref (am 0)), (3, .ref ou), (4, .ref od), (5, .int (nI li))] → W p l e room_1 s m #[.ref b] below meth c H locs (cells + 8) (slots + 400) Q (F0 m 1897 ls [])) : W p l e room_1 s m #[.ref b] below meth c H locs cells slots Q (F0 m 1295 ls []) := by
  obtain ⟨fr, bk, vw, tk, to, fk, fo, kp, sp, lt, ib, rw, cl, nu, tv, tm, ta, ml, tn, mf, mb, mv, kn, on, th, X, ap, le, fc, f1, f2, ha, og, oh, tx, hF, hT, hR, G⟩ := I
  have hx := C0.1
  have hb := C0.2.1
  have hown := C0.2.2.2.2.2.1
  have hts := C0.2.2.2.2.2.2.1
  have hRs : rsOk (0, lt, ib, rw, cl, nu) := ⟨by show 0 < 9; decide, hR.2⟩
  have hkp := hF.1
  have h60 := hT.2.2.1
  have htm := hT.1
  obtain ⟨p0, hp0⟩ : ∃ z : Int32, z = xs (li + 1) := ⟨_, rfl⟩
  refine lv_aload_n hx hb dL_law_1295 rfl (lv_at hl 1 rfl) ?_
  refine lv_aload_n hx hb dL_law_1296 rfl (lv_at hl 0 rfl) ?_
  refine lv_iload hx hb dL_law_1297 (lv_at hl 5 rfl) ?_
  refine lv_iconst (v := 1) hx hb dL_law_1299 (by decide) ?_
  refine lv_iadd hx hb dL_law_1300 ?_
  refine g_topi (x' := nI (li + 1)) (nI_add li 1) ?_
  refine va_sld hx hb hXs hbl hbA G.2.2 (vp_in_nI (n := li + 1) (by omega) (by omega)) dL_law_1301 ?_
  refine g_topi (x' := p0) (by rw [nI_clamp (n := li + 1) (by omega)]; exact hp0.symm) ?_
  refine lv_aload_n hx hb dL_law_1302 rfl (lv_at hl 3 rfl) ?_
  refine g_callH (As := [.ref (ad 0), .int p0, .ref ou]) (rest := []) C0 G (c_L_disagreements l D cy (ad := ad) (fr := fr) (bk := bk) (vw := vw) (tk := tk) (to := to) (fk := fk) (fo := fo) (kp := kp) (sp := sp) (lt := lt) (ib := ib) (rw := rw) (cl := cl) (nu := nu) (tv := tv) (tm := tm) (ta := ta) (ml := ml) (tn := tn) (R := wM am cy th (cS mf mb mv) kp X tn ap le fc f1 f2 (biF kn on) ha ([])) (ou := ou) (od := od) (og := og) (oh := oh) (p0 := p0) hst) k_L_disagreements ml_L_156 dL_law_1303 rfl rfl hl.1 (Nat.le_of_ble_eq_true rfl) ⟨Nat.le_of_ble_eq_true rfl, Nat.le_of_ble_eq_true rfl⟩ ⟨(by show _ ≤ 601024; omega), (by show _ ≤ 7293034; omega)⟩ (fun r W2 H locs hp G => ?_)
  rcases hp with ⟨k, hk, rfl, rfl, hw⟩ | ⟨rfl, hw, hx9⟩
  · skip
    obtain ⟨eF, eB, eV, hv4⟩ := hF.2 k (by omega)
    have G : gW D (wC ad cy fr bk vw ((fa (sdW (fr k) (bk k)) (onW (fr k) (bk k))).1) ((fa (sdW (fr k) (bk k)) (onW (fr k) (bk k))).2) fk fo kp sp lt ib rw cl nu tv tm ta ml tn ((ou, .inl (cy 2, 1, .inr (.inl (vp_updL og 0 (nI (cnt (dgB (fa (sdW (fr k) (bk k)) (onW (fr k) (bk k))).1 (fa (sdW (fr k) (bk k)) (onW (fr k) (bk k))).2) 16)).toInt64)))) :: (od, .inl (cy 3, 1, .inr (.inr (.inr (.inl oh))))) :: wM am cy th (cS mf mb mv) kp X tn ap le fc f1 f2 (biF kn on) ha ([]))) A s _ _ := g_wc hw G
    refine W.eq (g2 := F0 m 1306 ls [.int 0]) rfl ?_
    refine lv_istore (lv' := [(6, .int 0), (0, .ref b), (1, .ref (ad 0)), (2, .ref (am 0)), (3, .ref ou), (4, .ref od), (5, .int (nI li))]) hx hb dL_law_1306 hl (by decide) rfl (fun ls hl => ?_)
    refine lv_aload_n hx hb dL_law_1308 rfl (lv_at hl 3 rfl) ?_
    refine lv_aload_n hx hb dL_law_1309 rfl (lv_at hl 1 rfl) ?_
    refine lv_iload hx hb dL_law_1310 (lv_at hl 6 rfl) ?_
    refine lv_iconst (v := 1) hx hb dL_law_1312 (by decide) ?_
    refine lv_iadd hx hb dL_law_1313 ?_
    refine g_topi (x' := nI (li + 1)) (nI_add li 1) ?_
    refine va_sld hx hb hXs hbl hbA G.2.2 (vp_in_nI (n := li + 1) (by omega) (by omega)) dL_law_1314 ?_
    refine g_topi (x' := nI k) (by rw [nI_clamp (n := li + 1) (by omega)]; exact hp0.symm) ?_
    have G : gW D (wM am cy th (cS mf mb mv) kp X tn ap le fc f1 f2 (biF kn on) ha ((ou, .inl (cy 2, 1, .inr (.inl (vp_updL og 0 (nI (cnt (dgB (fa (sdW (fr k) (bk k)) (onW (fr k) (bk k))).1 (fa (sdW (fr k) (bk k)) (onW (fr k) (bk k))).2) 16)).toInt64)))) :: (od, .inl (cy 3, 1, .inr (.inr (.inr (.inl oh))))) :: wC ad cy fr bk vw ((fa (sdW (fr k) (bk k)) (onW (fr k) (bk k))).1) ((fa (sdW (fr k) (bk k)) (onW (fr k) (bk k))).2) fk fo kp sp lt ib rw cl nu tv tm ta ml tn ([]))) A s _ _ := g_swCM G
    refine g_callV (As := [.int (nI k)]) (rest := []) (q0 := 0) C0 G (c_X5_disagreements_ok l D cy (am := am) (mf := mf) (mb := mb) (mv := mv) (kn := kn) (on := on) (th := th) (sv := kp) (X := X) (ln := tn) (ap := ap) (le := le) (fc := fc) (f1 := f1) (f2 := f2) (ha := ha) (R := ((ou, .inl (cy 2, 1, .inr (.inl (vp_updL og 0 (nI (cnt (dgB (fa (sdW (fr k) (bk k)) (onW (fr k) (bk k))).1 (fa (sdW (fr k) (bk k)) (onW (fr k) (bk k))).2) 16)).toInt64)))) :: (od, .inl (cy 3, 1, .inr (.inr (.inr (.inl oh))))) :: wC ad cy fr bk vw ((fa (sdW (fr k) (bk k)) (onW (fr k) (bk k))).1) ((fa (sdW (fr k) (bk k)) (onW (fr k) (bk k))).2) fk fo kp sp lt ib rw cl nu tv tm ta ml tn ([]))) (k := k) (by omega)) k_X5_disagreements ml_L_158 rfl rfl dL_law_1315 rfl rfl hl.1 (Nat.le_of_ble_eq_true rfl) ⟨Nat.le_of_ble_eq_true rfl, Nat.le_of_ble_eq_true rfl⟩ ⟨(by show _ ≤ 601024; omega), (by show _ ≤ 7293034; omega)⟩ (fun r W2 H locs hp G => ?_)
    obtain ⟨rfl, hw⟩ := hp
    have G := g_wc hw G
    refine W.eq (g2 := F0 m 1318 ls [.int (nI (cnt (dgB (fa (sdW (mf k) (mb k)) (onW (mf k) (mb k))).1 (fa (sdW (mf k) (mb k)) (onW (mf k) (mb k))).2) 16))]) rfl ?_
    refine lv_istore (lv' := [(7, .int (nI (cnt (dgB (fa (sdW (mf k) (mb k)) (onW (mf k) (mb k))).1 (fa (sdW (mf k) (mb k)) (onW (mf k) (mb k))).2) 16))), (6, .int 0), (0, .ref b), (1, .ref (ad 0)), (2, .ref (am 0)), (3, .ref ou), (4, .ref od), (5, .int (nI li))]) hx hb dL_law_1318 hl (by decide) rfl (fun ls hl => ?_)
    refine lv_aload_n hx hb dL_law_1320 rfl (lv_at hl 4 rfl) ?_
    refine g_callV (As := []) (rest := []) (q0 := 0) C0 G (c_X5_thrown l D cy (am := am) (mf := mf) (mb := mb) (mv := mv) (th := nI 0) (sv := kp) (X := X) (ln := tn) (ap := ap) (le := le) (fc := fc) (f1 := f1) (f2 := f2) (ha := ha) (R := ((ou, .inl (cy 2, 1, .inr (.inl (vp_updL og 0 (nI (cnt (dgB (fa (sdW (fr k) (bk k)) (onW (fr k) (bk k))).1 (fa (sdW (fr k) (bk k)) (onW (fr k) (bk k))).2) 16)).toInt64)))) :: (od, .inl (cy 3, 1, .inr (.inr (.inr (.inl oh))))) :: wC ad cy fr bk vw ((fa (sdW (fr k) (bk k)) (onW (fr k) (bk k))).1) ((fa (sdW (fr k) (bk k)) (onW (fr k) (bk k))).2) fk fo kp sp lt ib rw cl nu tv tm ta ml tn ([]))) (B := biF ((fa (sdW (mf k) (mb k)) (onW (mf k) (mb k))).1) ((fa (sdW (mf k) (mb k)) (onW (mf k) (mb k))).2))  ) k_X5_thrown ml_L_106 rfl rfl dL_law_1321 rfl rfl hl.1 (Nat.le_of_ble_eq_true rfl) ⟨Nat.le_of_ble_eq_true rfl, Nat.le_of_ble_eq_true rfl⟩ ⟨(by show _ ≤ 601024; omega), (by show _ ≤ 7293034; omega)⟩ (fun r W2 H locs hp G => ?_)
    obtain ⟨rfl, hw⟩ := hp
    have G := g_wc hw G
    refine W.eq (g2 := F0 m 1324 ls [.int (nI 0)]) rfl ?_
    refine g_topi (x' := 0) rfl ?_
    refine lv_iload hx hb dL_law_1324 (lv_at hl 1 rfl) ?_
    refine lv_icmp_eq (tgt := 1331) hx hb dL_law_1326 (by decide) (fun c_1326 => ?_) (fun c_1326 => ?_)
    · skip
      refine lv_iload hx hb dL_law_1331 (lv_at hl 1 rfl) ?_
      refine lv_if_ne (tgt := 1348) hx hb dL_law_1333 (by decide) (fun c_1333 => ?_) (fun c_1333 => ?_)
      · exact absurd c_1333 (by decide)
      · skip
        refine lv_aload_n hx hb dL_law_1336 rfl (lv_at hl 5 rfl) ?_
        refine lv_iconst (v := 0) hx hb dL_law_1337 (by decide) ?_
        refine g_topi (x' := nI 0) rfl ?_
        refine g_lald (q0 := 4) (n := 1) C0 G rfl 2 rfl (vp_in_nI (n := 0) (by omega) (by decide)) dL_law_1338 ?_
        refine g_topl (x' := (vp_updL og 0 (nI (cnt (dgB (fa (sdW (fr k) (bk k)) (onW (fr k) (bk k))).1 (fa (sdW (fr k) (bk k)) (onW (fr k) (bk k))).2) 16)).toInt64) 0) (congrArg (vp_updL og 0 (nI (cnt (dgB (fa (sdW (fr k) (bk k)) (onW (fr k) (bk k))).1 (fa (sdW (fr k) (bk k)) (onW (fr k) (bk k))).2) 16)).toInt64) (nI_clamp (n := 0) (by omega))) ?_
        refine g_topl (x' := (nI (cnt (dgB (fa (sdW (fr k) (bk k)) (onW (fr k) (bk k))).1 (fa (sdW (fr k) (bk k)) (onW (fr k) (bk k))).2) 16)).toInt64) (if_pos rfl) ?_
        refine lv_iload hx hb dL_law_1339 (lv_at hl 0 rfl) ?_
        refine lv_i2l hx hb dL_law_1341 rfl ?_
        refine W.lcmp hx hb dL_law_1342 ?_
        refine lv_if_eq (tgt := 1348) hx hb dL_law_1343 (by decide) (fun c_1343 => ?_) (fun c_1343 => ?_)
        · skip
          have c_1343 : ((nI (cnt (dgB (fa (sdW (fr k) (bk k)) (onW (fr k) (bk k))).1 (fa (sdW (fr k) (bk k)) (onW (fr k) (bk k))).2) 16)).toInt64) = ((nI (cnt (dgB (fa (sdW (mf k) (mb k)) (onW (mf k) (mb k))).1 (fa (sdW (mf k) (mb k)) (onW (mf k) (mb k))).2) 16)).toInt64) := lgc_eq.mp c_1343
          refine lv_goto (tgt := 1897) hx hb dL_law_1348 (by decide) ?_
          have G : gW D (wC ad cy fr bk vw ((fa (sdW (fr k) (bk k)) (onW (fr k) (bk k))).1) ((fa (sdW (fr k) (bk k)) (onW (fr k) (bk k))).2) fk fo kp sp lt ib rw cl nu tv tm ta ml tn ((ou, .inl (cy 2, 1, .inr (.inl (vp_updL og 0 (nI (cnt (dgB (fa (sdW (fr k) (bk k)) (onW (fr k) (bk k))).1 (fa (sdW (fr k) (bk k)) (onW (fr k) (bk k))).2) 16)).toInt64)))) :: (od, .inl (cy 3, 1, .inr (.inr (.inr (.inl oh))))) :: wM am cy (nI 0) (cS mf mb mv) kp X tn ap le fc f1 f2 (biF ((fa (sdW (mf k) (mb k)) (onW (mf k) (mb k))).1) ((fa (sdW (mf k) (mb k)) (onW (mf k) (mb k))).2)) ha ([]))) A s _ _ := g_swMC G
          refine W.widen (k := cells + 8) (n := slots + 400) (by omega) (by omega) ?_
          exact kk _ _ _ ⟨fr, bk, vw, ((fa (sdW (fr k) (bk k)) (onW (fr k) (bk k))).1), ((fa (sdW (fr k) (bk k)) (onW (fr k) (bk k))).2), fk, fo, kp, sp, lt, ib, rw, cl, nu, tv, tm, ta, ml, tn, mf, mb, mv, ((fa (sdW (mf k) (mb k)) (onW (mf k) (mb k))).1), ((fa (sdW (mf k) (mb k)) (onW (mf k) (mb k))).2), (nI 0), X, ap, le, fc, f1, f2, ha, (vp_updL og 0 (nI (cnt (dgB (fa (sdW (fr k) (bk k)) (onW (fr k) (bk k))).1 (fa (sdW (fr k) (bk k)) (onW (fr k) (bk k))).2) 16)).toInt64), oh, tx, hF, hT, hR, G⟩ (lv_sub hl [2, 3, 4, 5, 6, 7] rfl)
        · skip
          have c_1343 : ¬ ((nI (cnt (dgB (fa (sdW (fr k) (bk k)) (onW (fr k) (bk k))).1 (fa (sdW (fr k) (bk k)) (onW (fr k) (bk k))).2) 16)).toInt64) = ((nI (cnt (dgB (fa (sdW (mf k) (mb k)) (onW (mf k) (mb k))).1 (fa (sdW (mf k) (mb k)) (onW (mf k) (mb k))).2) 16)).toInt64) := fun h => c_1343 (lgc_eq.mpr h)
          exact absurd (by first | (simp only [mSv_sa, saU_lo hk, ← eF, ← eB, ← eV]; done) | (simp only [mSv_sa, saU_lo hk, ← eF, ← eB, ← eV]; rfl) | rfl) c_1343
    · exact absurd c_1326 (by decide)
  · skip
    have G : gW D (wC ad cy fr bk vw tk to fk fo kp sp lt ib rw cl nu tv tm ta ml tn ((ou, .inl (cy 2, 1, .inr (.inl og))) :: (od, .inl (cy 3, 1, .inr (.inr (.inr (.inl oh))))) :: wM am cy th (cS mf mb mv) kp X tn ap le fc f1 f2 (biF kn on) ha ([]))) A s _ _ := g_wc hw G
    refine W.eq (g2 := F0 m 1306 ls [.int 1]) rfl ?_
    refine lv_istore (lv' := [(6, .int 1), (0, .ref b), (1, .ref (ad 0)), (2, .ref (am 0)), (3, .ref ou), (4, .ref od), (5, .int (nI li))]) hx hb dL_law_1306 hl (by decide) rfl (fun ls hl => ?_)
    refine lv_aload_n hx hb dL_law_1308 rfl (lv_at hl 3 rfl) ?_
    refine lv_aload_n hx hb dL_law_1309 rfl (lv_at hl 1 rfl) ?_
    refine lv_iload hx hb dL_law_1310 (lv_at hl 6 rfl) ?_
    refine lv_iconst (v := 1) hx hb dL_law_1312 (by decide) ?_
    refine lv_iadd hx hb dL_law_1313 ?_
    refine g_topi (x' := nI (li + 1)) (nI_add li 1) ?_
    refine va_sld hx hb hXs hbl hbA G.2.2 (vp_in_nI (n := li + 1) (by omega) (by omega)) dL_law_1314 ?_
    refine g_topi (x' := p0) (by rw [nI_clamp (n := li + 1) (by omega)]; exact hp0.symm) ?_
    have G : gW D (wM am cy th (cS mf mb mv) kp X tn ap le fc f1 f2 (biF kn on) ha ((ou, .inl (cy 2, 1, .inr (.inl og))) :: (od, .inl (cy 3, 1, .inr (.inr (.inr (.inl oh))))) :: wC ad cy fr bk vw tk to fk fo kp sp lt ib rw cl nu tv tm ta ml tn ([]))) A s _ _ := g_swCM G
    refine g_callV (As := [.int p0]) (rest := []) (q0 := 0) C0 G (c_X5_disagreements_e1 l D cy (am := am) (mf := mf) (mb := mb) (mv := mv) (th := th) (sv := kp) (X := X) (ln := tn) (ap := ap) (le := le) (fc := fc) (f1 := f1) (f2 := f2) (ha := ha) (R := ((ou, .inl (cy 2, 1, .inr (.inl og))) :: (od, .inl (cy 3, 1, .inr (.inr (.inr (.inl oh))))) :: wC ad cy fr bk vw tk to fk fo kp sp lt ib rw cl nu tv tm ta ml tn ([]))) (B := biF kn on) (p0 := p0) (by rw [inB_ir (x := p0) (n := 2) (hi := 2) rfl (by decide)]; exact hx9)) k_X5_disagreements ml_L_158 rfl rfl dL_law_1315 rfl rfl hl.1 (Nat.le_of_ble_eq_true rfl) ⟨Nat.le_of_ble_eq_true rfl, Nat.le_of_ble_eq_true rfl⟩ ⟨(by show _ ≤ 601024; omega), (by show _ ≤ 7293034; omega)⟩ (fun r W2 H locs hp G => ?_)
    obtain ⟨rfl, hw⟩ := hp
    have G := g_wc hw G
    refine W.eq (g2 := F0 m 1318 ls [.int 0]) rfl ?_
    refine lv_istore (lv' := [(7, .int 0), (6, .int 1), (0, .ref b), (1, .ref (ad 0)), (2, .ref (am 0)), (3, .ref ou), (4, .ref od), (5, .int (nI li))]) hx hb dL_law_1318 hl (by decide) rfl (fun ls hl => ?_)
    refine lv_aload_n hx hb dL_law_1320 rfl (lv_at hl 4 rfl) ?_
    refine g_callV (As := []) (rest := []) (q0 := 0) C0 G (c_X5_thrown l D cy (am := am) (mf := mf) (mb := mb) (mv := mv) (th := nI 1) (sv := kp) (X := X) (ln := tn) (ap := ap) (le := le) (fc := fc) (f1 := f1) (f2 := f2) (ha := ha) (R := ((ou, .inl (cy 2, 1, .inr (.inl og))) :: (od, .inl (cy 3, 1, .inr (.inr (.inr (.inl oh))))) :: wC ad cy fr bk vw tk to fk fo kp sp lt ib rw cl nu tv tm ta ml tn ([]))) (B := biF kn on)  ) k_X5_thrown ml_L_106 rfl rfl dL_law_1321 rfl rfl hl.1 (Nat.le_of_ble_eq_true rfl) ⟨Nat.le_of_ble_eq_true rfl, Nat.le_of_ble_eq_true rfl⟩ ⟨(by show _ ≤ 601024; omega), (by show _ ≤ 7293034; omega)⟩ (fun r W2 H locs hp G => ?_)
    obtain ⟨rfl, hw⟩ := hp
    have G := g_wc hw G
    refine W.eq (g2 := F0 m 1324 ls [.int (nI 1)]) rfl ?_
    refine g_topi (x' := 1) rfl ?_
    refine lv_iload hx hb dL_law_1324 (lv_at hl 1 rfl) ?_
    refine lv_icmp_eq (tgt := 1331) hx hb dL_law_1326 (by decide) (fun c_1326 => ?_) (fun c_1326 => ?_)
    · skip
      refine lv_iload hx hb dL_law_1331 (lv_at hl 1 rfl) ?_
      refine lv_if_ne (tgt := 1348) hx hb dL_law_1333 (by decide) (fun c_1333 => ?_) (fun c_1333 => ?_)
      · skip
        refine lv_goto (tgt := 1897) hx hb dL_law_1348 (by decide) ?_
        have G : gW D (wC ad cy fr bk vw tk to fk fo kp sp lt ib rw cl nu tv tm ta ml tn ((ou, .inl (cy 2, 1, .inr (.inl og))) :: (od, .inl (cy 3, 1, .inr (.inr (.inr (.inl oh))))) :: wM am cy (nI 1) (cS mf mb mv) kp X tn ap le fc f1 f2 (biF kn on) ha ([]))) A s _ _ := g_swMC G
        refine W.widen (k := cells + 8) (n := slots + 400) (by omega) (by omega) ?_
        exact kk _ _ _ ⟨fr, bk, vw, tk, to, fk, fo, kp, sp, lt, ib, rw, cl, nu, tv, tm, ta, ml, tn, mf, mb, mv, kn, on, (nI 1), X, ap, le, fc, f1, f2, ha, og, oh, tx, hF, hT, hR, G⟩ (lv_sub hl [2, 3, 4, 5, 6, 7] rfl)
      · exact absurd c_1333 (by decide)
    · exact absurd c_1326 (by decide)

set_option maxHeartbeats 4000000 in
set_option maxRecDepth 100000 in
theorem lw_c17 {p : Program} {l : Launch} {e : Env} {s : State} {m : MethodId} {below : List Frame} {meth : Method} {c : Code} {H : Heap} {locs : List Loc} {cells slots : Nat} {Q : State → Prop} {D : va_G} {cy : Nat → ClassId} {A : Nat → Prop} {ad am : Nat → Nat} {ou od b L li : Nat} {xs : Nat → Int32} {ls : Array Slot} (C0 : gC p s m #[.ref b] meth c code 9 (some .boolean) RL D (gts cy) A) (hst : l.stackTraces = false) (hXs : va_X b L xs s s.heap) (hbl : b < s.heap.size) (hbA : ¬ A b) (hli : li + 3 < L) (hL : L ≤ 2048) (hce : cells + 8 ≤ 601024) (hsl : slots + 400 ≤ 7293034) (I : lwI D A s cy ad am ou od H locs) (hl : lv_has ls 9 [(0, .ref b), (1, .ref (ad 0)), (2, .ref (am 0)), (3, .ref ou), (4, .ref od), (5, .int (nI li))])
    (kk : ∀ (H : Heap) (locs : List Loc) (ls : Array Slot), lwI D A s cy ad am ou od H locs → lv_has ls 9 [(0, .ref b), (1, .ref (ad 0)), (2, .ref (am 0)), (3, .ref ou), (4, .ref od), (5, .int (nI li))] → W p l e room_1 s m #[.ref b] below meth c H locs (cells + 8) (slots + 400) Q (F0 m 1897 ls [])) : W p l e room_1 s m #[.ref b] below meth c H locs cells slots Q (F0 m 1351 ls []) := by
  obtain ⟨fr, bk, vw, tk, to, fk, fo, kp, sp, lt, ib, rw, cl, nu, tv, tm, ta, ml, tn, mf, mb, mv, kn, on, th, X, ap, le, fc, f1, f2, ha, og, oh, tx, hF, hT, hR, G⟩ := I
  have hx := C0.1
  have hb := C0.2.1
  have hown := C0.2.2.2.2.2.1
  have hts := C0.2.2.2.2.2.2.1
  have hRs : rsOk (0, lt, ib, rw, cl, nu) := ⟨by show 0 < 9; decide, hR.2⟩
  have hkp := hF.1
  have h60 := hT.2.2.1
  have htm := hT.1
  obtain ⟨p0, hp0⟩ : ∃ z : Int32, z = xs (li + 1) := ⟨_, rfl⟩
  obtain ⟨p1, hp1⟩ : ∃ z : Int32, z = xs (li + 2) := ⟨_, rfl⟩
  refine lv_aload_n hx hb dL_law_1351 rfl (lv_at hl 1 rfl) ?_
  refine lv_aload_n hx hb dL_law_1352 rfl (lv_at hl 0 rfl) ?_
  refine lv_iload hx hb dL_law_1353 (lv_at hl 5 rfl) ?_
  refine lv_iconst (v := 1) hx hb dL_law_1355 (by decide) ?_
  refine lv_iadd hx hb dL_law_1356 ?_
  refine g_topi (x' := nI (li + 1)) (nI_add li 1) ?_
  refine va_sld hx hb hXs hbl hbA G.2.2 (vp_in_nI (n := li + 1) (by omega) (by omega)) dL_law_1357 ?_
  refine g_topi (x' := p0) (by rw [nI_clamp (n := li + 1) (by omega)]; exact hp0.symm) ?_
  refine lv_aload_n hx hb dL_law_1358 rfl (lv_at hl 0 rfl) ?_
  refine lv_iload hx hb dL_law_1359 (lv_at hl 5 rfl) ?_
  refine lv_iconst (v := 2) hx hb dL_law_1361 (by decide) ?_
  refine lv_iadd hx hb dL_law_1362 ?_
  refine g_topi (x' := nI (li + 2)) (nI_add li 2) ?_
  refine va_sld hx hb hXs hbl hbA G.2.2 (vp_in_nI (n := li + 2) (by omega) (by omega)) dL_law_1363 ?_
  refine g_topi (x' := p1) (by rw [nI_clamp (n := li + 2) (by omega)]; exact hp1.symm) ?_
  refine lv_aload_n hx hb dL_law_1364 rfl (lv_at hl 3 rfl) ?_
  refine g_callH (As := [.ref (ad 0), .int p0, .int p1, .ref ou]) (rest := []) C0 G (c_L_disagreement l D cy (ad := ad) (fr := fr) (bk := bk) (vw := vw) (tk := tk) (to := to) (fk := fk) (fo := fo) (kp := kp) (sp := sp) (lt := lt) (ib := ib) (rw := rw) (cl := cl) (nu := nu) (tv := tv) (tm := tm) (ta := ta) (ml := ml) (tn := tn) (R := wM am cy th (cS mf mb mv) kp X tn ap le fc f1 f2 (biF kn on) ha ([])) (ou := ou) (od := od) (og := og) (oh := oh) (p0 := p0) (p1 := p1) hst) k_L_disagreement ml_L_159 dL_law_1365 rfl rfl hl.1 (Nat.le_of_ble_eq_true rfl) ⟨Nat.le_of_ble_eq_true rfl, Nat.le_of_ble_eq_true rfl⟩ ⟨(by show _ ≤ 601024; omega), (by show _ ≤ 7293034; omega)⟩ (fun r W2 H locs hp G => ?_)
  rcases hp with ⟨k, hk, rfl, i, hi, rfl, rfl, hw⟩ | ⟨rfl, hw, hx9⟩
  · skip
    obtain ⟨eF, eB, eV, hv4⟩ := hF.2 k (by omega)
    have G : gW D (wC ad cy fr bk vw ((fa (sdW (fr k) (bk k)) (onW (fr k) (bk k))).1) ((fa (sdW (fr k) (bk k)) (onW (fr k) (bk k))).2) fk fo kp sp lt ib rw cl nu tv tm ta ml tn ((ou, .inl (cy 2, 1, .inr (.inl (vp_updL og 0 (dlI (dgB ((fa (sdW (fr k) (bk k)) (onW (fr k) (bk k))).1) ((fa (sdW (fr k) (bk k)) (onW (fr k) (bk k))).2)) i).toInt64)))) :: (od, .inl (cy 3, 1, .inr (.inr (.inr (.inl oh))))) :: wM am cy th (cS mf mb mv) kp X tn ap le fc f1 f2 (biF kn on) ha ([]))) A s _ _ := g_wc hw G
    refine W.eq (g2 := F0 m 1368 ls [.int 0]) rfl ?_
    refine lv_istore (lv' := [(6, .int 0), (0, .ref b), (1, .ref (ad 0)), (2, .ref (am 0)), (3, .ref ou), (4, .ref od), (5, .int (nI li))]) hx hb dL_law_1368 hl (by decide) rfl (fun ls hl => ?_)
    refine lv_aload_n hx hb dL_law_1370 rfl (lv_at hl 3 rfl) ?_
    refine lv_aload_n hx hb dL_law_1371 rfl (lv_at hl 1 rfl) ?_
    refine lv_iload hx hb dL_law_1372 (lv_at hl 6 rfl) ?_
    refine lv_iconst (v := 1) hx hb dL_law_1374 (by decide) ?_
    refine lv_iadd hx hb dL_law_1375 ?_
    refine g_topi (x' := nI (li + 1)) (nI_add li 1) ?_
    refine va_sld hx hb hXs hbl hbA G.2.2 (vp_in_nI (n := li + 1) (by omega) (by omega)) dL_law_1376 ?_
    refine g_topi (x' := nI k) (by rw [nI_clamp (n := li + 1) (by omega)]; exact hp0.symm) ?_
    refine lv_aload_n hx hb dL_law_1377 rfl (lv_at hl 1 rfl) ?_
    refine lv_iload hx hb dL_law_1378 (lv_at hl 6 rfl) ?_
    refine lv_iconst (v := 2) hx hb dL_law_1380 (by decide) ?_
    refine lv_iadd hx hb dL_law_1381 ?_
    refine g_topi (x' := nI (li + 2)) (nI_add li 2) ?_
    refine va_sld hx hb hXs hbl hbA G.2.2 (vp_in_nI (n := li + 2) (by omega) (by omega)) dL_law_1382 ?_
    refine g_topi (x' := nI i) (by rw [nI_clamp (n := li + 2) (by omega)]; exact hp1.symm) ?_
    have G : gW D (wM am cy th (cS mf mb mv) kp X tn ap le fc f1 f2 (biF kn on) ha ((ou, .inl (cy 2, 1, .inr (.inl (vp_updL og 0 (dlI (dgB ((fa (sdW (fr k) (bk k)) (onW (fr k) (bk k))).1) ((fa (sdW (fr k) (bk k)) (onW (fr k) (bk k))).2)) i).toInt64)))) :: (od, .inl (cy 3, 1, .inr (.inr (.inr (.inl oh))))) :: wC ad cy fr bk vw ((fa (sdW (fr k) (bk k)) (onW (fr k) (bk k))).1) ((fa (sdW (fr k) (bk k)) (onW (fr k) (bk k))).2) fk fo kp sp lt ib rw cl nu tv tm ta ml tn ([]))) A s _ _ := g_swCM G
    refine g_callV (As := [.int (nI k), .int (nI i)]) (rest := []) (q0 := 0) C0 G (c_X5_disagreement_ok l D cy (am := am) (mf := mf) (mb := mb) (mv := mv) (kn := kn) (on := on) (th := th) (sv := kp) (X := X) (ln := tn) (ap := ap) (le := le) (fc := fc) (f1 := f1) (f2 := f2) (ha := ha) (R := ((ou, .inl (cy 2, 1, .inr (.inl (vp_updL og 0 (dlI (dgB ((fa (sdW (fr k) (bk k)) (onW (fr k) (bk k))).1) ((fa (sdW (fr k) (bk k)) (onW (fr k) (bk k))).2)) i).toInt64)))) :: (od, .inl (cy 3, 1, .inr (.inr (.inr (.inl oh))))) :: wC ad cy fr bk vw ((fa (sdW (fr k) (bk k)) (onW (fr k) (bk k))).1) ((fa (sdW (fr k) (bk k)) (onW (fr k) (bk k))).2) fk fo kp sp lt ib rw cl nu tv tm ta ml tn ([]))) (k := k) (i := i) (by omega) (by omega)) k_X5_disagreement ml_L_161 rfl rfl dL_law_1383 rfl rfl hl.1 (Nat.le_of_ble_eq_true rfl) ⟨Nat.le_of_ble_eq_true rfl, Nat.le_of_ble_eq_true rfl⟩ ⟨(by show _ ≤ 601024; omega), (by show _ ≤ 7293034; omega)⟩ (fun r W2 H locs hp G => ?_)
    obtain ⟨rfl, hw⟩ := hp
    have G := g_wc hw G
    refine W.eq (g2 := F0 m 1386 ls [.int (dlI (dgB ((fa (sdW (mf k) (mb k)) (onW (mf k) (mb k))).1) ((fa (sdW (mf k) (mb k)) (onW (mf k) (mb k))).2)) i)]) rfl ?_
    refine lv_istore (lv' := [(7, .int (dlI (dgB ((fa (sdW (mf k) (mb k)) (onW (mf k) (mb k))).1) ((fa (sdW (mf k) (mb k)) (onW (mf k) (mb k))).2)) i)), (6, .int 0), (0, .ref b), (1, .ref (ad 0)), (2, .ref (am 0)), (3, .ref ou), (4, .ref od), (5, .int (nI li))]) hx hb dL_law_1386 hl (by decide) rfl (fun ls hl => ?_)
    refine lv_aload_n hx hb dL_law_1388 rfl (lv_at hl 4 rfl) ?_
    refine g_callV (As := []) (rest := []) (q0 := 0) C0 G (c_X5_thrown l D cy (am := am) (mf := mf) (mb := mb) (mv := mv) (th := nI 0) (sv := kp) (X := X) (ln := tn) (ap := ap) (le := le) (fc := fc) (f1 := f1) (f2 := f2) (ha := ha) (R := ((ou, .inl (cy 2, 1, .inr (.inl (vp_updL og 0 (dlI (dgB ((fa (sdW (fr k) (bk k)) (onW (fr k) (bk k))).1) ((fa (sdW (fr k) (bk k)) (onW (fr k) (bk k))).2)) i).toInt64)))) :: (od, .inl (cy 3, 1, .inr (.inr (.inr (.inl oh))))) :: wC ad cy fr bk vw ((fa (sdW (fr k) (bk k)) (onW (fr k) (bk k))).1) ((fa (sdW (fr k) (bk k)) (onW (fr k) (bk k))).2) fk fo kp sp lt ib rw cl nu tv tm ta ml tn ([]))) (B := biF ((fa (sdW (mf k) (mb k)) (onW (mf k) (mb k))).1) ((fa (sdW (mf k) (mb k)) (onW (mf k) (mb k))).2))  ) k_X5_thrown ml_L_106 rfl rfl dL_law_1389 rfl rfl hl.1 (Nat.le_of_ble_eq_true rfl) ⟨Nat.le_of_ble_eq_true rfl, Nat.le_of_ble_eq_true rfl⟩ ⟨(by show _ ≤ 601024; omega), (by show _ ≤ 7293034; omega)⟩ (fun r W2 H locs hp G => ?_)
    obtain ⟨rfl, hw⟩ := hp
    have G := g_wc hw G
    refine W.eq (g2 := F0 m 1392 ls [.int (nI 0)]) rfl ?_
    refine g_topi (x' := 0) rfl ?_
    refine lv_iload hx hb dL_law_1392 (lv_at hl 1 rfl) ?_
    refine lv_icmp_eq (tgt := 1399) hx hb dL_law_1394 (by decide) (fun c_1394 => ?_) (fun c_1394 => ?_)
    · skip
      refine lv_iload hx hb dL_law_1399 (lv_at hl 1 rfl) ?_
      refine lv_if_ne (tgt := 1416) hx hb dL_law_1401 (by decide) (fun c_1401 => ?_) (fun c_1401 => ?_)
      · exact absurd c_1401 (by decide)
      · skip
        refine lv_aload_n hx hb dL_law_1404 rfl (lv_at hl 5 rfl) ?_
        refine lv_iconst (v := 0) hx hb dL_law_1405 (by decide) ?_
        refine g_topi (x' := nI 0) rfl ?_
        refine g_lald (q0 := 4) (n := 1) C0 G rfl 2 rfl (vp_in_nI (n := 0) (by omega) (by decide)) dL_law_1406 ?_
        refine g_topl (x' := (vp_updL og 0 (dlI (dgB ((fa (sdW (fr k) (bk k)) (onW (fr k) (bk k))).1) ((fa (sdW (fr k) (bk k)) (onW (fr k) (bk k))).2)) i).toInt64) 0) (congrArg (vp_updL og 0 (dlI (dgB ((fa (sdW (fr k) (bk k)) (onW (fr k) (bk k))).1) ((fa (sdW (fr k) (bk k)) (onW (fr k) (bk k))).2)) i).toInt64) (nI_clamp (n := 0) (by omega))) ?_
        refine g_topl (x' := (dlI (dgB ((fa (sdW (fr k) (bk k)) (onW (fr k) (bk k))).1) ((fa (sdW (fr k) (bk k)) (onW (fr k) (bk k))).2)) i).toInt64) (if_pos rfl) ?_
        refine lv_iload hx hb dL_law_1407 (lv_at hl 0 rfl) ?_
        refine lv_i2l hx hb dL_law_1409 rfl ?_
        refine W.lcmp hx hb dL_law_1410 ?_
        refine lv_if_eq (tgt := 1416) hx hb dL_law_1411 (by decide) (fun c_1411 => ?_) (fun c_1411 => ?_)
        · skip
          have c_1411 : ((dlI (dgB ((fa (sdW (fr k) (bk k)) (onW (fr k) (bk k))).1) ((fa (sdW (fr k) (bk k)) (onW (fr k) (bk k))).2)) i).toInt64) = ((dlI (dgB ((fa (sdW (mf k) (mb k)) (onW (mf k) (mb k))).1) ((fa (sdW (mf k) (mb k)) (onW (mf k) (mb k))).2)) i).toInt64) := lgc_eq.mp c_1411
          refine lv_goto (tgt := 1897) hx hb dL_law_1416 (by decide) ?_
          have G : gW D (wC ad cy fr bk vw ((fa (sdW (fr k) (bk k)) (onW (fr k) (bk k))).1) ((fa (sdW (fr k) (bk k)) (onW (fr k) (bk k))).2) fk fo kp sp lt ib rw cl nu tv tm ta ml tn ((ou, .inl (cy 2, 1, .inr (.inl (vp_updL og 0 (dlI (dgB ((fa (sdW (fr k) (bk k)) (onW (fr k) (bk k))).1) ((fa (sdW (fr k) (bk k)) (onW (fr k) (bk k))).2)) i).toInt64)))) :: (od, .inl (cy 3, 1, .inr (.inr (.inr (.inl oh))))) :: wM am cy (nI 0) (cS mf mb mv) kp X tn ap le fc f1 f2 (biF ((fa (sdW (mf k) (mb k)) (onW (mf k) (mb k))).1) ((fa (sdW (mf k) (mb k)) (onW (mf k) (mb k))).2)) ha ([]))) A s _ _ := g_swMC G
          refine W.widen (k := cells + 8) (n := slots + 400) (by omega) (by omega) ?_
          exact kk _ _ _ ⟨fr, bk, vw, ((fa (sdW (fr k) (bk k)) (onW (fr k) (bk k))).1), ((fa (sdW (fr k) (bk k)) (onW (fr k) (bk k))).2), fk, fo, kp, sp, lt, ib, rw, cl, nu, tv, tm, ta, ml, tn, mf, mb, mv, ((fa (sdW (mf k) (mb k)) (onW (mf k) (mb k))).1), ((fa (sdW (mf k) (mb k)) (onW (mf k) (mb k))).2), (nI 0), X, ap, le, fc, f1, f2, ha, (vp_updL og 0 (dlI (dgB ((fa (sdW (fr k) (bk k)) (onW (fr k) (bk k))).1) ((fa (sdW (fr k) (bk k)) (onW (fr k) (bk k))).2)) i).toInt64), oh, tx, hF, hT, hR, G⟩ (lv_sub hl [2, 3, 4, 5, 6, 7] rfl)
        · skip
          have c_1411 : ¬ ((dlI (dgB ((fa (sdW (fr k) (bk k)) (onW (fr k) (bk k))).1) ((fa (sdW (fr k) (bk k)) (onW (fr k) (bk k))).2)) i).toInt64) = ((dlI (dgB ((fa (sdW (mf k) (mb k)) (onW (mf k) (mb k))).1) ((fa (sdW (mf k) (mb k)) (onW (mf k) (mb k))).2)) i).toInt64) := fun h => c_1411 (lgc_eq.mpr h)
          exact absurd (by first | (simp only [mSv_sa, saU_lo hk, ← eF, ← eB, ← eV]; done) | (simp only [mSv_sa, saU_lo hk, ← eF, ← eB, ← eV]; rfl) | rfl) c_1411
    · exact absurd c_1394 (by decide)
  · skip
    have G : gW D (wC ad cy fr bk vw tk to fk fo kp sp lt ib rw cl nu tv tm ta ml tn ((ou, .inl (cy 2, 1, .inr (.inl og))) :: (od, .inl (cy 3, 1, .inr (.inr (.inr (.inl oh))))) :: wM am cy th (cS mf mb mv) kp X tn ap le fc f1 f2 (biF kn on) ha ([]))) A s _ _ := g_wc hw G
    refine W.eq (g2 := F0 m 1368 ls [.int 1]) rfl ?_
    refine lv_istore (lv' := [(6, .int 1), (0, .ref b), (1, .ref (ad 0)), (2, .ref (am 0)), (3, .ref ou), (4, .ref od), (5, .int (nI li))]) hx hb dL_law_1368 hl (by decide) rfl (fun ls hl => ?_)
    refine lv_aload_n hx hb dL_law_1370 rfl (lv_at hl 3 rfl) ?_
    refine lv_aload_n hx hb dL_law_1371 rfl (lv_at hl 1 rfl) ?_
    refine lv_iload hx hb dL_law_1372 (lv_at hl 6 rfl) ?_
    refine lv_iconst (v := 1) hx hb dL_law_1374 (by decide) ?_
    refine lv_iadd hx hb dL_law_1375 ?_
    refine g_topi (x' := nI (li + 1)) (nI_add li 1) ?_
    refine va_sld hx hb hXs hbl hbA G.2.2 (vp_in_nI (n := li + 1) (by omega) (by omega)) dL_law_1376 ?_
    refine g_topi (x' := p0) (by rw [nI_clamp (n := li + 1) (by omega)]; exact hp0.symm) ?_
    refine lv_aload_n hx hb dL_law_1377 rfl (lv_at hl 1 rfl) ?_
    refine lv_iload hx hb dL_law_1378 (lv_at hl 6 rfl) ?_
    refine lv_iconst (v := 2) hx hb dL_law_1380 (by decide) ?_
    refine lv_iadd hx hb dL_law_1381 ?_
    refine g_topi (x' := nI (li + 2)) (nI_add li 2) ?_
    refine va_sld hx hb hXs hbl hbA G.2.2 (vp_in_nI (n := li + 2) (by omega) (by omega)) dL_law_1382 ?_
    refine g_topi (x' := p1) (by rw [nI_clamp (n := li + 2) (by omega)]; exact hp1.symm) ?_
    have G : gW D (wM am cy th (cS mf mb mv) kp X tn ap le fc f1 f2 (biF kn on) ha ((ou, .inl (cy 2, 1, .inr (.inl og))) :: (od, .inl (cy 3, 1, .inr (.inr (.inr (.inl oh))))) :: wC ad cy fr bk vw tk to fk fo kp sp lt ib rw cl nu tv tm ta ml tn ([]))) A s _ _ := g_swCM G
    refine g_callV (As := [.int p0, .int p1]) (rest := []) (q0 := 0) C0 G (c_X5_disagreement_e1 l D cy (am := am) (mf := mf) (mb := mb) (mv := mv) (th := th) (sv := kp) (X := X) (ln := tn) (ap := ap) (le := le) (fc := fc) (f1 := f1) (f2 := f2) (ha := ha) (R := ((ou, .inl (cy 2, 1, .inr (.inl og))) :: (od, .inl (cy 3, 1, .inr (.inr (.inr (.inl oh))))) :: wC ad cy fr bk vw tk to fk fo kp sp lt ib rw cl nu tv tm ta ml tn ([]))) (B := biF kn on) (p0 := p0) (p1 := p1) (by rw [inB_ir (x := p0) (n := 2) (hi := 2) rfl (by decide)]; exact hx9)) k_X5_disagreement ml_L_161 rfl rfl dL_law_1383 rfl rfl hl.1 (Nat.le_of_ble_eq_true rfl) ⟨Nat.le_of_ble_eq_true rfl, Nat.le_of_ble_eq_true rfl⟩ ⟨(by show _ ≤ 601024; omega), (by show _ ≤ 7293034; omega)⟩ (fun r W2 H locs hp G => ?_)
    obtain ⟨rfl, hw⟩ := hp
    have G := g_wc hw G
    refine W.eq (g2 := F0 m 1386 ls [.int 0]) rfl ?_
    refine lv_istore (lv' := [(7, .int 0), (6, .int 1), (0, .ref b), (1, .ref (ad 0)), (2, .ref (am 0)), (3, .ref ou), (4, .ref od), (5, .int (nI li))]) hx hb dL_law_1386 hl (by decide) rfl (fun ls hl => ?_)
    refine lv_aload_n hx hb dL_law_1388 rfl (lv_at hl 4 rfl) ?_
    refine g_callV (As := []) (rest := []) (q0 := 0) C0 G (c_X5_thrown l D cy (am := am) (mf := mf) (mb := mb) (mv := mv) (th := nI 1) (sv := kp) (X := X) (ln := tn) (ap := ap) (le := le) (fc := fc) (f1 := f1) (f2 := f2) (ha := ha) (R := ((ou, .inl (cy 2, 1, .inr (.inl og))) :: (od, .inl (cy 3, 1, .inr (.inr (.inr (.inl oh))))) :: wC ad cy fr bk vw tk to fk fo kp sp lt ib rw cl nu tv tm ta ml tn ([]))) (B := biF kn on)  ) k_X5_thrown ml_L_106 rfl rfl dL_law_1389 rfl rfl hl.1 (Nat.le_of_ble_eq_true rfl) ⟨Nat.le_of_ble_eq_true rfl, Nat.le_of_ble_eq_true rfl⟩ ⟨(by show _ ≤ 601024; omega), (by show _ ≤ 7293034; omega)⟩ (fun r W2 H locs hp G => ?_)
    obtain ⟨rfl, hw⟩ := hp
    have G := g_wc hw G
    refine W.eq (g2 := F0 m 1392 ls [.int (nI 1)]) rfl ?_
    refine g_topi (x' := 1) rfl ?_
    refine lv_iload hx hb dL_law_1392 (lv_at hl 1 rfl) ?_
    refine lv_icmp_eq (tgt := 1399) hx hb dL_law_1394 (by decide) (fun c_1394 => ?_) (fun c_1394 => ?_)
    · skip
      refine lv_iload hx hb dL_law_1399 (lv_at hl 1 rfl) ?_
      refine lv_if_ne (tgt := 1416) hx hb dL_law_1401 (by decide) (fun c_1401 => ?_) (fun c_1401 => ?_)
      · skip
        refine lv_goto (tgt := 1897) hx hb dL_law_1416 (by decide) ?_
        have G : gW D (wC ad cy fr bk vw tk to fk fo kp sp lt ib rw cl nu tv tm ta ml tn ((ou, .inl (cy 2, 1, .inr (.inl og))) :: (od, .inl (cy 3, 1, .inr (.inr (.inr (.inl oh))))) :: wM am cy (nI 1) (cS mf mb mv) kp X tn ap le fc f1 f2 (biF kn on) ha ([]))) A s _ _ := g_swMC G
        refine W.widen (k := cells + 8) (n := slots + 400) (by omega) (by omega) ?_
        exact kk _ _ _ ⟨fr, bk, vw, tk, to, fk, fo, kp, sp, lt, ib, rw, cl, nu, tv, tm, ta, ml, tn, mf, mb, mv, kn, on, (nI 1), X, ap, le, fc, f1, f2, ha, og, oh, tx, hF, hT, hR, G⟩ (lv_sub hl [2, 3, 4, 5, 6, 7] rfl)
      · exact absurd c_1401 (by decide)
    · exact absurd c_1394 (by decide)

set_option maxHeartbeats 4000000 in
set_option maxRecDepth 100000 in
theorem lw_c18 {p : Program} {l : Launch} {e : Env} {s : State} {m : MethodId} {below : List Frame} {meth : Method} {c : Code} {H : Heap} {locs : List Loc} {cells slots : Nat} {Q : State → Prop} {D : va_G} {cy : Nat → ClassId} {A : Nat → Prop} {ad am : Nat → Nat} {ou od b L li : Nat} {xs : Nat → Int32} {ls : Array Slot} (C0 : gC p s m #[.ref b] meth c code 9 (some .boolean) RL D (gts cy) A) (hst : l.stackTraces = false) (hXs : va_X b L xs s s.heap) (hbl : b < s.heap.size) (hbA : ¬ A b) (hli : li + 3 < L) (hL : L ≤ 2048) (hce : cells + 8 ≤ 601024) (hsl : slots + 400 ≤ 7293034) (I : lwI D A s cy ad am ou od H locs) (hl : lv_has ls 9 [(0, .ref b), (1, .ref (ad 0)), (2, .ref (am 0)), (3, .ref ou), (4, .ref od), (5, .int (nI li))])
    (kk : ∀ (H : Heap) (locs : List Loc) (ls : Array Slot), lwI D A s cy ad am ou od H locs → lv_has ls 9 [(0, .ref b), (1, .ref (ad 0)), (2, .ref (am 0)), (3, .ref ou), (4, .ref od), (5, .int (nI li))] → W p l e room_1 s m #[.ref b] below meth c H locs (cells + 8) (slots + 400) Q (F0 m 1897 ls [])) : W p l e room_1 s m #[.ref b] below meth c H locs cells slots Q (F0 m 1419 ls []) := by
  obtain ⟨fr, bk, vw, tk, to, fk, fo, kp, sp, lt, ib, rw, cl, nu, tv, tm, ta, ml, tn, mf, mb, mv, kn, on, th, X, ap, le, fc, f1, f2, ha, og, oh, tx, hF, hT, hR, G⟩ := I
  have hx := C0.1
  have hb := C0.2.1
  have hown := C0.2.2.2.2.2.1
  have hts := C0.2.2.2.2.2.2.1
  have hRs : rsOk (0, lt, ib, rw, cl, nu) := ⟨by show 0 < 9; decide, hR.2⟩
  have hkp := hF.1
  have h60 := hT.2.2.1
  have htm := hT.1
  obtain ⟨p0, hp0⟩ : ∃ z : Int32, z = xs (li + 1) := ⟨_, rfl⟩
  refine lv_aload_n hx hb dL_law_1419 rfl (lv_at hl 1 rfl) ?_
  refine lv_aload_n hx hb dL_law_1420 rfl (lv_at hl 0 rfl) ?_
  refine lv_iload hx hb dL_law_1421 (lv_at hl 5 rfl) ?_
  refine lv_iconst (v := 1) hx hb dL_law_1423 (by decide) ?_
  refine lv_iadd hx hb dL_law_1424 ?_
  refine g_topi (x' := nI (li + 1)) (nI_add li 1) ?_
  refine va_sld hx hb hXs hbl hbA G.2.2 (vp_in_nI (n := li + 1) (by omega) (by omega)) dL_law_1425 ?_
  refine g_topi (x' := p0) (by rw [nI_clamp (n := li + 1) (by omega)]; exact hp0.symm) ?_
  refine lv_aload hx hb dL_law_1426 (lv_at hl 4 rfl) ?_
  refine g_callH (As := [.ref (ad 0), .int p0, .ref od]) (rest := []) C0 G (c_L_soundShare l D cy (ad := ad) (fr := fr) (bk := bk) (vw := vw) (tk := tk) (to := to) (fk := fk) (fo := fo) (kp := kp) (sp := sp) (lt := lt) (ib := ib) (rw := rw) (cl := cl) (nu := nu) (tv := tv) (tm := tm) (ta := ta) (ml := ml) (tn := tn) (R := wM am cy th (cS mf mb mv) kp X tn ap le fc f1 f2 (biF kn on) ha ([])) (ou := ou) (od := od) (og := og) (oh := oh) (p0 := p0) hst) k_L_soundShare ml_L_162 dL_law_1428 rfl rfl hl.1 (Nat.le_of_ble_eq_true rfl) ⟨Nat.le_of_ble_eq_true rfl, Nat.le_of_ble_eq_true rfl⟩ ⟨(by show _ ≤ 601024; omega), (by show _ ≤ 7293034; omega)⟩ (fun r W2 H locs hp G => ?_)
  rcases hp with ⟨k, hk, rfl, rfl, hw⟩ | ⟨rfl, hw, hx9⟩
  · skip
    obtain ⟨eF, eB, eV, hv4⟩ := hF.2 k (by omega)
    have G : gW D (wC ad cy fr bk vw tk to fk fo kp sp lt ib rw cl nu tv tm ta ml tn ((ou, .inl (cy 2, 1, .inr (.inl og))) :: (od, .inl (cy 3, 1, .inr (.inr (.inr (.inl (vf_upd oh 0 (n64 (pc (sdW (fr k) (bk k)))))))))) :: wM am cy th (cS mf mb mv) kp X tn ap le fc f1 f2 (biF kn on) ha ([]))) A s _ _ := g_wc hw G
    refine W.eq (g2 := F0 m 1431 ls [.int 0]) rfl ?_
    refine lv_istore (lv' := [(6, .int 0), (0, .ref b), (1, .ref (ad 0)), (2, .ref (am 0)), (3, .ref ou), (4, .ref od), (5, .int (nI li))]) hx hb dL_law_1431 hl (by decide) rfl (fun ls hl => ?_)
    refine lv_aload_n hx hb dL_law_1433 rfl (lv_at hl 3 rfl) ?_
    refine lv_aload_n hx hb dL_law_1434 rfl (lv_at hl 1 rfl) ?_
    refine lv_iload hx hb dL_law_1435 (lv_at hl 6 rfl) ?_
    refine lv_iconst (v := 1) hx hb dL_law_1437 (by decide) ?_
    refine lv_iadd hx hb dL_law_1438 ?_
    refine g_topi (x' := nI (li + 1)) (nI_add li 1) ?_
    refine va_sld hx hb hXs hbl hbA G.2.2 (vp_in_nI (n := li + 1) (by omega) (by omega)) dL_law_1439 ?_
    refine g_topi (x' := nI k) (by rw [nI_clamp (n := li + 1) (by omega)]; exact hp0.symm) ?_
    have G : gW D (wM am cy th (cS mf mb mv) kp X tn ap le fc f1 f2 (biF kn on) ha ((ou, .inl (cy 2, 1, .inr (.inl og))) :: (od, .inl (cy 3, 1, .inr (.inr (.inr (.inl (vf_upd oh 0 (n64 (pc (sdW (fr k) (bk k)))))))))) :: wC ad cy fr bk vw tk to fk fo kp sp lt ib rw cl nu tv tm ta ml tn ([]))) A s _ _ := g_swCM G
    refine g_callV (As := [.int (nI k)]) (rest := []) (q0 := 0) C0 G (c_X5_soundShare_ok l D cy (am := am) (mf := mf) (mb := mb) (mv := mv) (th := th) (sv := kp) (X := X) (ln := tn) (ap := ap) (le := le) (fc := fc) (f1 := f1) (f2 := f2) (ha := ha) (R := ((ou, .inl (cy 2, 1, .inr (.inl og))) :: (od, .inl (cy 3, 1, .inr (.inr (.inr (.inl (vf_upd oh 0 (n64 (pc (sdW (fr k) (bk k)))))))))) :: wC ad cy fr bk vw tk to fk fo kp sp lt ib rw cl nu tv tm ta ml tn ([]))) (B := biF kn on) (k := k) (by omega)) k_X5_soundShare ml_L_165 rfl rfl dL_law_1440 rfl rfl hl.1 (Nat.le_of_ble_eq_true rfl) ⟨Nat.le_of_ble_eq_true rfl, Nat.le_of_ble_eq_true rfl⟩ ⟨(by show _ ≤ 601024; omega), (by show _ ≤ 7293034; omega)⟩ (fun r W2 H locs hp G => ?_)
    obtain ⟨rfl, hw⟩ := hp
    have G := g_wc hw G
    refine W.eq (g2 := F0 m 1443 ls [.double (FP.ddiv (FP.i2d (nI ((cuN (mf k) (mb k) (0 : Int32)) + (cuN (mf k) (mb k) (1 : Int32))))) ((4634204016564240384) : UInt64))]) rfl ?_
    refine lv_dstore (lv' := [(7, .double (FP.ddiv (FP.i2d (nI ((cuN (mf k) (mb k) (0 : Int32)) + (cuN (mf k) (mb k) (1 : Int32))))) ((4634204016564240384) : UInt64))), (6, .int 0), (0, .ref b), (1, .ref (ad 0)), (2, .ref (am 0)), (3, .ref ou), (4, .ref od), (5, .int (nI li))]) hx hb dL_law_1443 hl (by decide) rfl (fun ls hl => ?_)
    refine lv_aload_n hx hb dL_law_1445 rfl (lv_at hl 4 rfl) ?_
    refine g_callV (As := []) (rest := []) (q0 := 0) C0 G (c_X5_thrown l D cy (am := am) (mf := mf) (mb := mb) (mv := mv) (th := nI 0) (sv := kp) (X := X) (ln := tn) (ap := ap) (le := le) (fc := fc) (f1 := f1) (f2 := f2) (ha := ha) (R := ((ou, .inl (cy 2, 1, .inr (.inl og))) :: (od, .inl (cy 3, 1, .inr (.inr (.inr (.inl (vf_upd oh 0 (n64 (pc (sdW (fr k) (bk k)))))))))) :: wC ad cy fr bk vw tk to fk fo kp sp lt ib rw cl nu tv tm ta ml tn ([]))) (B := biF kn on)  ) k_X5_thrown ml_L_106 rfl rfl dL_law_1446 rfl rfl hl.1 (Nat.le_of_ble_eq_true rfl) ⟨Nat.le_of_ble_eq_true rfl, Nat.le_of_ble_eq_true rfl⟩ ⟨(by show _ ≤ 601024; omega), (by show _ ≤ 7293034; omega)⟩ (fun r W2 H locs hp G => ?_)
    obtain ⟨rfl, hw⟩ := hp
    have G := g_wc hw G
    refine W.eq (g2 := F0 m 1449 ls [.int (nI 0)]) rfl ?_
    refine g_topi (x' := 0) rfl ?_
    refine lv_iload hx hb dL_law_1449 (lv_at hl 1 rfl) ?_
    refine lv_icmp_eq (tgt := 1456) hx hb dL_law_1451 (by decide) (fun c_1451 => ?_) (fun c_1451 => ?_)
    · skip
      refine lv_iload hx hb dL_law_1456 (lv_at hl 1 rfl) ?_
      refine lv_if_ne (tgt := 1493) hx hb dL_law_1458 (by decide) (fun c_1458 => ?_) (fun c_1458 => ?_)
      · exact absurd c_1458 (by decide)
      · skip
        refine lv_aload hx hb dL_law_1461 (lv_at hl 6 rfl) ?_
        refine lv_iconst (v := 0) hx hb dL_law_1463 (by decide) ?_
        refine g_topi (x' := nI 0) rfl ?_
        refine g_dald (q0 := 5) (n := 1) C0 G rfl 3 rfl (vp_in_nI (n := 0) (by omega) (by decide)) dL_law_1464 ?_
        refine g_topv (x' := .double ((vf_upd oh 0 (n64 (pc (sdW (fr k) (bk k))))) 0)) (congrArg (fun z => Value.double ((vf_upd oh 0 (n64 (pc (sdW (fr k) (bk k))))) z)) (nI_clamp (n := 0) (by omega))) ?_
        refine g_topv (x' := .double (n64 (pc (sdW (fr k) (bk k))))) (congrArg Value.double (if_pos rfl)) ?_
        refine lv_dload hx hb dL_law_1465 (lv_at hl 0 rfl) ?_
        refine lv_dcmp hx hb dL_law_1467 ?_
        refine g_topi (x' := 0) (by simp only [← eF, ← eB, cu_sd]; exact n64_c _ (by have := pc_le (sdW (fr k) (bk k)); omega)) ?_
        refine lv_if_eq (tgt := 1493) hx hb dL_law_1468 (by decide) (fun c_1468 => ?_) (fun c_1468 => ?_)
        · skip
          refine lv_goto (tgt := 1897) hx hb dL_law_1493 (by decide) ?_
          have G : gW D (wC ad cy fr bk vw tk to fk fo kp sp lt ib rw cl nu tv tm ta ml tn ((ou, .inl (cy 2, 1, .inr (.inl og))) :: (od, .inl (cy 3, 1, .inr (.inr (.inr (.inl (vf_upd oh 0 (n64 (pc (sdW (fr k) (bk k)))))))))) :: wM am cy (nI 0) (cS mf mb mv) kp X tn ap le fc f1 f2 (biF kn on) ha ([]))) A s _ _ := g_swMC G
          refine W.widen (k := cells + 8) (n := slots + 400) (by omega) (by omega) ?_
          exact kk _ _ _ ⟨fr, bk, vw, tk, to, fk, fo, kp, sp, lt, ib, rw, cl, nu, tv, tm, ta, ml, tn, mf, mb, mv, kn, on, (nI 0), X, ap, le, fc, f1, f2, ha, og, (vf_upd oh 0 (n64 (pc (sdW (fr k) (bk k))))), tx, hF, hT, hR, G⟩ (lv_sub hl [2, 3, 4, 5, 6, 7] rfl)
        · exact absurd c_1468 (by decide)
    · exact absurd c_1451 (by decide)
  · skip
    have G : gW D (wC ad cy fr bk vw tk to fk fo kp sp lt ib rw cl nu tv tm ta ml tn ((ou, .inl (cy 2, 1, .inr (.inl og))) :: (od, .inl (cy 3, 1, .inr (.inr (.inr (.inl oh))))) :: wM am cy th (cS mf mb mv) kp X tn ap le fc f1 f2 (biF kn on) ha ([]))) A s _ _ := g_wc hw G
    refine W.eq (g2 := F0 m 1431 ls [.int 1]) rfl ?_
    refine lv_istore (lv' := [(6, .int 1), (0, .ref b), (1, .ref (ad 0)), (2, .ref (am 0)), (3, .ref ou), (4, .ref od), (5, .int (nI li))]) hx hb dL_law_1431 hl (by decide) rfl (fun ls hl => ?_)
    refine lv_aload_n hx hb dL_law_1433 rfl (lv_at hl 3 rfl) ?_
    refine lv_aload_n hx hb dL_law_1434 rfl (lv_at hl 1 rfl) ?_
    refine lv_iload hx hb dL_law_1435 (lv_at hl 6 rfl) ?_
    refine lv_iconst (v := 1) hx hb dL_law_1437 (by decide) ?_
    refine lv_iadd hx hb dL_law_1438 ?_
    refine g_topi (x' := nI (li + 1)) (nI_add li 1) ?_
    refine va_sld hx hb hXs hbl hbA G.2.2 (vp_in_nI (n := li + 1) (by omega) (by omega)) dL_law_1439 ?_
    refine g_topi (x' := p0) (by rw [nI_clamp (n := li + 1) (by omega)]; exact hp0.symm) ?_
    have G : gW D (wM am cy th (cS mf mb mv) kp X tn ap le fc f1 f2 (biF kn on) ha ((ou, .inl (cy 2, 1, .inr (.inl og))) :: (od, .inl (cy 3, 1, .inr (.inr (.inr (.inl oh))))) :: wC ad cy fr bk vw tk to fk fo kp sp lt ib rw cl nu tv tm ta ml tn ([]))) A s _ _ := g_swCM G
    refine g_callV (As := [.int p0]) (rest := []) (q0 := 0) C0 G (c_X5_soundShare_e1 l D cy (am := am) (mf := mf) (mb := mb) (mv := mv) (th := th) (sv := kp) (X := X) (ln := tn) (ap := ap) (le := le) (fc := fc) (f1 := f1) (f2 := f2) (ha := ha) (R := ((ou, .inl (cy 2, 1, .inr (.inl og))) :: (od, .inl (cy 3, 1, .inr (.inr (.inr (.inl oh))))) :: wC ad cy fr bk vw tk to fk fo kp sp lt ib rw cl nu tv tm ta ml tn ([]))) (B := biF kn on) (p0 := p0) (by rw [inB_ir (x := p0) (n := 2) (hi := 2) rfl (by decide)]; exact hx9)) k_X5_soundShare ml_L_165 rfl rfl dL_law_1440 rfl rfl hl.1 (Nat.le_of_ble_eq_true rfl) ⟨Nat.le_of_ble_eq_true rfl, Nat.le_of_ble_eq_true rfl⟩ ⟨(by show _ ≤ 601024; omega), (by show _ ≤ 7293034; omega)⟩ (fun r W2 H locs hp G => ?_)
    obtain ⟨rfl, hw⟩ := hp
    have G := g_wc hw G
    refine W.eq (g2 := F0 m 1443 ls [.double FP.dconst0]) rfl ?_
    refine lv_dstore (lv' := [(7, .double FP.dconst0), (6, .int 1), (0, .ref b), (1, .ref (ad 0)), (2, .ref (am 0)), (3, .ref ou), (4, .ref od), (5, .int (nI li))]) hx hb dL_law_1443 hl (by decide) rfl (fun ls hl => ?_)
    refine lv_aload_n hx hb dL_law_1445 rfl (lv_at hl 4 rfl) ?_
    refine g_callV (As := []) (rest := []) (q0 := 0) C0 G (c_X5_thrown l D cy (am := am) (mf := mf) (mb := mb) (mv := mv) (th := nI 1) (sv := kp) (X := X) (ln := tn) (ap := ap) (le := le) (fc := fc) (f1 := f1) (f2 := f2) (ha := ha) (R := ((ou, .inl (cy 2, 1, .inr (.inl og))) :: (od, .inl (cy 3, 1, .inr (.inr (.inr (.inl oh))))) :: wC ad cy fr bk vw tk to fk fo kp sp lt ib rw cl nu tv tm ta ml tn ([]))) (B := biF kn on)  ) k_X5_thrown ml_L_106 rfl rfl dL_law_1446 rfl rfl hl.1 (Nat.le_of_ble_eq_true rfl) ⟨Nat.le_of_ble_eq_true rfl, Nat.le_of_ble_eq_true rfl⟩ ⟨(by show _ ≤ 601024; omega), (by show _ ≤ 7293034; omega)⟩ (fun r W2 H locs hp G => ?_)
    obtain ⟨rfl, hw⟩ := hp
    have G := g_wc hw G
    refine W.eq (g2 := F0 m 1449 ls [.int (nI 1)]) rfl ?_
    refine g_topi (x' := 1) rfl ?_
    refine lv_iload hx hb dL_law_1449 (lv_at hl 1 rfl) ?_
    refine lv_icmp_eq (tgt := 1456) hx hb dL_law_1451 (by decide) (fun c_1451 => ?_) (fun c_1451 => ?_)
    · skip
      refine lv_iload hx hb dL_law_1456 (lv_at hl 1 rfl) ?_
      refine lv_if_ne (tgt := 1493) hx hb dL_law_1458 (by decide) (fun c_1458 => ?_) (fun c_1458 => ?_)
      · skip
        refine lv_goto (tgt := 1897) hx hb dL_law_1493 (by decide) ?_
        have G : gW D (wC ad cy fr bk vw tk to fk fo kp sp lt ib rw cl nu tv tm ta ml tn ((ou, .inl (cy 2, 1, .inr (.inl og))) :: (od, .inl (cy 3, 1, .inr (.inr (.inr (.inl oh))))) :: wM am cy (nI 1) (cS mf mb mv) kp X tn ap le fc f1 f2 (biF kn on) ha ([]))) A s _ _ := g_swMC G
        refine W.widen (k := cells + 8) (n := slots + 400) (by omega) (by omega) ?_
        exact kk _ _ _ ⟨fr, bk, vw, tk, to, fk, fo, kp, sp, lt, ib, rw, cl, nu, tv, tm, ta, ml, tn, mf, mb, mv, kn, on, (nI 1), X, ap, le, fc, f1, f2, ha, og, oh, tx, hF, hT, hR, G⟩ (lv_sub hl [2, 3, 4, 5, 6, 7] rfl)
      · exact absurd c_1458 (by decide)
    · exact absurd c_1451 (by decide)
