set_option maxHeartbeats 4000000 in
set_option maxRecDepth 100000 in
theorem lw_c25 {p : Program} {l : Launch} {e : Env} {s : State} {m : MethodId} {below : List Frame} {meth : Method} {c : Code} {H : Heap} {locs : List Loc} {cells slots : Nat} {Q : State → Prop} {D : va_G} {cy : Nat → ClassId} {A : Nat → Prop} {ad am : Nat → Nat} {ou od b L li : Nat} {xs : Nat → Int32} {ls : Array Slot} (C0 : gC p s m #[.ref b] meth c code 9 (some .boolean) RL D (gts cy) A) (hst : l.stackTraces = false) (hXs : va_X b L xs s s.heap) (hbl : b < s.heap.size) (hbA : ¬ A b) (hli : li + 3 < L) (hL : L ≤ 2048) (hce : cells + 8 ≤ 601024) (hsl : slots + 400 ≤ 7293034) (I : lwI D A s cy ad am ou od H locs) (hl : lv_has ls 9 [(0, .ref b), (1, .ref (ad 0)), (2, .ref (am 0)), (3, .ref ou), (4, .ref od), (5, .int (nI li))])
    (kk : ∀ (H : Heap) (locs : List Loc) (ls : Array Slot), lwI D A s cy ad am ou od H locs → lv_has ls 9 [(0, .ref b), (1, .ref (ad 0)), (2, .ref (am 0)), (3, .ref ou), (4, .ref od), (5, .int (nI li))] → W p l e room_1 s m #[.ref b] below meth c H locs (cells + 8) (slots + 400) Q (F0 m 1897 ls [])) : W p l e room_1 s m #[.ref b] below meth c H locs cells slots Q (F0 m 1782 ls []) := by
  obtain ⟨fr, bk, vw, tk, to, fk, fo, kp, sp, lt, ib, rw, cl, nu, tv, tm, ta, ml, tn, mf, mb, mv, kn, on, th, X, ap, le, fc, f1, f2, ha, og, oh, tx, hF, hT, hR, G⟩ := I
  have hx := C0.1
  have hb := C0.2.1
  have hown := C0.2.2.2.2.2.1
  have hts := C0.2.2.2.2.2.2.1
  have hRs : rsOk (0, lt, ib, rw, cl, nu) := ⟨by show 0 < 9; decide, hR.2⟩
  have hkp := hF.1
  have h60 := hT.2.2.1
  have htm := hT.1
  refine lv_aload_n hx hb dL_law_1782 rfl (lv_at hl 1 rfl) ?_
  refine lv_aload_n hx hb dL_law_1783 rfl (lv_at hl 3 rfl) ?_
  refine g_callH (As := [.ref (ad 0), .ref ou]) (rest := []) C0 G (c_L_run l D cy (ad := ad) (fr := fr) (bk := bk) (vw := vw) (tk := tk) (to := to) (fk := fk) (fo := fo) (kp := kp) (sp := sp) (lt := lt) (ib := ib) (rw := rw) (cl := cl) (nu := nu) (tv := tv) (tm := tm) (ta := ta) (ml := ml) (tn := tn) (R := wM am cy th (cS mf mb mv) kp X tn ap le fc f1 f2 (biF kn on) ha ([])) (ou := ou) (od := od) (og := og) (oh := oh)  (tx := tx) hst hF.1 hT.2.1 (by have h8 := hT.1; omega) (fun j hj => ⟨(hT.2.2.2.2 j hj).1, (hT.2.2.2.2 j hj).2.2⟩) hRs) k_L_run ml_L_186 dL_law_1784 rfl rfl hl.1 (Nat.le_of_ble_eq_true rfl) ⟨Nat.le_of_ble_eq_true rfl, Nat.le_of_ble_eq_true rfl⟩ ⟨(by show _ ≤ 601024; omega), (by show _ ≤ 7293034; omega)⟩ (fun r W2 H locs hp G => ?_)
  rcases hp with ⟨hwk, q1, sp2, lt2, ib2, rw2, cl2, nu2, ml2, hq10, hq1, hrs2, rfl, hw⟩ | ⟨hwk, sp2, lt2, ib2, rw2, cl2, nu2, hrs2, rfl, hw⟩
  · skip
    obtain ⟨eF, eB, eV, hv4⟩ := hF.2 0 (by omega)
    have hre := re_0 (q := (0, lt, ib, rw, cl, nu)) (q' := q1) rfl hq10
    have hwk1 : wkB tx q1 tn = true := by rw [← re_wkB hre]; exact hwk
    have hvd := dp_v4 (f := fr 0) (b := bk 0) (fun j hj => (hT.2.2.2.2 j hj).2.2) hq1 hq10 hwk1 hv4 tn (Nat.le_refl _)
    have G : gW D (wC ad cy (va_up (saU fr kp) 0 (dpS tx q1 tn (saU fr kp 0) (saU bk kp 0) (saU vw kp 0) tn).1) (va_up (saU bk kp) 0 (dpS tx q1 tn (saU fr kp 0) (saU bk kp 0) (saU vw kp 0) tn).2.1) (va_up (saU vw kp) 0 (dpS tx q1 tn (saU fr kp 0) (saU bk kp 0) (saU vw kp 0) tn).2.2.1) tk to fk fo (saK kp) sp2 lt2 ib2 rw2 cl2 nu2 tv tm ta ml2 0 ((ou, .inl (cy 2, 1, .inr (.inl (vp_updL og 0 (nI ((dpS tx q1 tn (saU fr kp 0) (saU bk kp 0) (saU vw kp 0) tn).2.2.2.1)).toInt64)))) :: (od, .inl (cy 3, 1, .inr (.inr (.inr (.inl oh))))) :: wM am cy th (cS mf mb mv) kp X tn ap le fc f1 f2 (biF kn on) ha ([]))) A s _ _ := g_wc hw G
    refine W.eq (g2 := F0 m 1787 ls [.int 0]) rfl ?_
    refine lv_istore (lv' := [(6, .int 0), (0, .ref b), (1, .ref (ad 0)), (2, .ref (am 0)), (3, .ref ou), (4, .ref od), (5, .int (nI li))]) hx hb dL_law_1787 hl (by decide) rfl (fun ls hl => ?_)
    refine lv_aload_n hx hb dL_law_1789 rfl (lv_at hl 3 rfl) ?_
    have G : gW D (wM am cy th (cS mf mb mv) kp X tn ap le fc f1 f2 (biF kn on) ha ((ou, .inl (cy 2, 1, .inr (.inl (vp_updL og 0 (nI ((dpS tx q1 tn (saU fr kp 0) (saU bk kp 0) (saU vw kp 0) tn).2.2.2.1)).toInt64)))) :: (od, .inl (cy 3, 1, .inr (.inr (.inr (.inl oh))))) :: wC ad cy (va_up (saU fr kp) 0 (dpS tx q1 tn (saU fr kp 0) (saU bk kp 0) (saU vw kp 0) tn).1) (va_up (saU bk kp) 0 (dpS tx q1 tn (saU fr kp 0) (saU bk kp 0) (saU vw kp 0) tn).2.1) (va_up (saU vw kp) 0 (dpS tx q1 tn (saU fr kp 0) (saU bk kp 0) (saU vw kp 0) tn).2.2.1) tk to fk fo (saK kp) sp2 lt2 ib2 rw2 cl2 nu2 tv tm ta ml2 0 ([]))) A s _ _ := g_swCM G
    refine g_callV (As := []) (rest := []) (q0 := 0) C0 G (c_X5_run_ok l D cy (am := am) (mf := mf) (mb := mb) (mv := mv) (th := th) (sv := kp) (X := X) (ln := tn) (ap := ap) (le := le) (fc := fc) (f1 := f1) (f2 := f2) (ha := ha) (R := ((ou, .inl (cy 2, 1, .inr (.inl (vp_updL og 0 (nI ((dpS tx q1 tn (saU fr kp 0) (saU bk kp 0) (saU vw kp 0) tn).2.2.2.1)).toInt64)))) :: (od, .inl (cy 3, 1, .inr (.inr (.inr (.inl oh))))) :: wC ad cy (va_up (saU fr kp) 0 (dpS tx q1 tn (saU fr kp 0) (saU bk kp 0) (saU vw kp 0) tn).1) (va_up (saU bk kp) 0 (dpS tx q1 tn (saU fr kp 0) (saU bk kp 0) (saU vw kp 0) tn).2.1) (va_up (saU vw kp) 0 (dpS tx q1 tn (saU fr kp 0) (saU bk kp 0) (saU vw kp 0) tn).2.2.1) tk to fk fo (saK kp) sp2 lt2 ib2 rw2 cl2 nu2 tv tm ta ml2 0 ([]))) (B := biF kn on) (tx := tx) (q := q1) (by omega) (fun j hj => (hT.2.2.2.2 j hj).2) hq1 hq10 hwk1 hkp) k_X5_run ml_L_189 rfl rfl dL_law_1790 rfl rfl hl.1 (Nat.le_of_ble_eq_true rfl) ⟨Nat.le_of_ble_eq_true rfl, Nat.le_of_ble_eq_true rfl⟩ ⟨(by show _ ≤ 601024; omega), (by show _ ≤ 7293034; omega)⟩ (fun r W2 H locs hp G => ?_)
    obtain ⟨ap3, le3, fc3, g1, g2, rfl, hw⟩ := hp
    have G := g_wc hw G
    refine W.eq (g2 := F0 m 1793 ls [.int (nI ((dpS tx q1 tn (mSv mf kp 0) (mSv mb kp 0) (mSv mv kp 0) tn).2.2.2.1))]) rfl ?_
    refine lv_istore (lv' := [(7, .int (nI ((dpS tx q1 tn (mSv mf kp 0) (mSv mb kp 0) (mSv mv kp 0) tn).2.2.2.1))), (6, .int 0), (0, .ref b), (1, .ref (ad 0)), (2, .ref (am 0)), (3, .ref ou), (4, .ref od), (5, .int (nI li))]) hx hb dL_law_1793 hl (by decide) rfl (fun ls hl => ?_)
    refine lv_aload_n hx hb dL_law_1795 rfl (lv_at hl 4 rfl) ?_
    refine g_callV (As := []) (rest := []) (q0 := 0) C0 G (c_X5_thrown l D cy (am := am) (mf := (va_up (mSv mf kp) 0 (dpS tx q1 tn (mSv mf kp 0) (mSv mb kp 0) (mSv mv kp 0) tn).1)) (mb := (va_up (mSv mb kp) 0 (dpS tx q1 tn (mSv mf kp 0) (mSv mb kp 0) (mSv mv kp 0) tn).2.1)) (mv := (va_up (mSv mv kp) 0 (dpS tx q1 tn (mSv mf kp 0) (mSv mb kp 0) (mSv mv kp 0) tn).2.2.1)) (th := (nI 0)) (sv := (saK kp)) (X := X) (ln := 0) (ap := ap3) (le := le3) (fc := fc3) (f1 := g1) (f2 := g2) (ha := ha) (R := ((ou, .inl (cy 2, 1, .inr (.inl (vp_updL og 0 (nI ((dpS tx q1 tn (saU fr kp 0) (saU bk kp 0) (saU vw kp 0) tn).2.2.2.1)).toInt64)))) :: (od, .inl (cy 3, 1, .inr (.inr (.inr (.inl oh))))) :: wC ad cy (va_up (saU fr kp) 0 (dpS tx q1 tn (saU fr kp 0) (saU bk kp 0) (saU vw kp 0) tn).1) (va_up (saU bk kp) 0 (dpS tx q1 tn (saU fr kp 0) (saU bk kp 0) (saU vw kp 0) tn).2.1) (va_up (saU vw kp) 0 (dpS tx q1 tn (saU fr kp 0) (saU bk kp 0) (saU vw kp 0) tn).2.2.1) tk to fk fo (saK kp) sp2 lt2 ib2 rw2 cl2 nu2 tv tm ta ml2 0 ([]))) (B := biF kn on)  ) k_X5_thrown ml_L_106 rfl rfl dL_law_1796 rfl rfl hl.1 (Nat.le_of_ble_eq_true rfl) ⟨Nat.le_of_ble_eq_true rfl, Nat.le_of_ble_eq_true rfl⟩ ⟨(by show _ ≤ 601024; omega), (by show _ ≤ 7293034; omega)⟩ (fun r W2 H locs hp G => ?_)
    obtain ⟨rfl, hw⟩ := hp
    have G := g_wc hw G
    refine W.eq (g2 := F0 m 1799 ls [.int (nI 0)]) rfl ?_
    refine g_topi (x' := 0) rfl ?_
    refine lv_iload hx hb dL_law_1799 (lv_at hl 1 rfl) ?_
    refine lv_icmp_eq (tgt := 1806) hx hb dL_law_1801 (by decide) (fun c_1801 => ?_) (fun c_1801 => ?_)
    · skip
      refine lv_iload hx hb dL_law_1806 (lv_at hl 1 rfl) ?_
      refine lv_if_ne (tgt := 1823) hx hb dL_law_1808 (by decide) (fun c_1808 => ?_) (fun c_1808 => ?_)
      · exact absurd c_1808 (by decide)
      · skip
        refine lv_aload_n hx hb dL_law_1811 rfl (lv_at hl 5 rfl) ?_
        refine lv_iconst (v := 0) hx hb dL_law_1812 (by decide) ?_
        refine g_topi (x' := nI 0) rfl ?_
        refine g_lald (q0 := 4) (n := 1) C0 G rfl 2 rfl (vp_in_nI (n := 0) (by omega) (by decide)) dL_law_1813 ?_
        refine g_topl (x' := (vp_updL og 0 (nI ((dpS tx q1 tn (saU fr kp 0) (saU bk kp 0) (saU vw kp 0) tn).2.2.2.1)).toInt64) 0) (congrArg (vp_updL og 0 (nI ((dpS tx q1 tn (saU fr kp 0) (saU bk kp 0) (saU vw kp 0) tn).2.2.2.1)).toInt64) (nI_clamp (n := 0) (by omega))) ?_
        refine g_topl (x' := (nI ((dpS tx q1 tn (saU fr kp 0) (saU bk kp 0) (saU vw kp 0) tn).2.2.2.1)).toInt64) (if_pos rfl) ?_
        refine lv_iload hx hb dL_law_1814 (lv_at hl 0 rfl) ?_
        refine lv_i2l hx hb dL_law_1816 rfl ?_
        refine W.lcmp hx hb dL_law_1817 ?_
        refine lv_if_eq (tgt := 1823) hx hb dL_law_1818 (by decide) (fun c_1818 => ?_) (fun c_1818 => ?_)
        · skip
          have c_1818 : ((nI ((dpS tx q1 tn (saU fr kp 0) (saU bk kp 0) (saU vw kp 0) tn).2.2.2.1)).toInt64) = ((nI ((dpS tx q1 tn (mSv mf kp 0) (mSv mb kp 0) (mSv mv kp 0) tn).2.2.2.1)).toInt64) := lgc_eq.mp c_1818
          refine lv_goto (tgt := 1897) hx hb dL_law_1823 (by decide) ?_
          have G : gW D (wC ad cy (va_up (saU fr kp) 0 (dpS tx q1 tn (saU fr kp 0) (saU bk kp 0) (saU vw kp 0) tn).1) (va_up (saU bk kp) 0 (dpS tx q1 tn (saU fr kp 0) (saU bk kp 0) (saU vw kp 0) tn).2.1) (va_up (saU vw kp) 0 (dpS tx q1 tn (saU fr kp 0) (saU bk kp 0) (saU vw kp 0) tn).2.2.1) tk to fk fo (saK kp) sp2 lt2 ib2 rw2 cl2 nu2 tv tm ta ml2 0 ((ou, .inl (cy 2, 1, .inr (.inl (vp_updL og 0 (nI ((dpS tx q1 tn (saU fr kp 0) (saU bk kp 0) (saU vw kp 0) tn).2.2.2.1)).toInt64)))) :: (od, .inl (cy 3, 1, .inr (.inr (.inr (.inl oh))))) :: wM am cy (nI 0) (cS (va_up (mSv mf kp) 0 (dpS tx q1 tn (mSv mf kp 0) (mSv mb kp 0) (mSv mv kp 0) tn).1) (va_up (mSv mb kp) 0 (dpS tx q1 tn (mSv mf kp 0) (mSv mb kp 0) (mSv mv kp 0) tn).2.1) (va_up (mSv mv kp) 0 (dpS tx q1 tn (mSv mf kp 0) (mSv mb kp 0) (mSv mv kp 0) tn).2.2.1)) (saK kp) X 0 ap3 le3 fc3 g1 g2 (biF kn on) ha ([]))) A s _ _ := g_swMC G
          refine W.widen (k := cells + 8) (n := slots + 400) (by omega) (by omega) ?_
          exact kk _ _ _ ⟨(va_up (saU fr kp) 0 (dpS tx q1 tn (saU fr kp 0) (saU bk kp 0) (saU vw kp 0) tn).1), (va_up (saU bk kp) 0 (dpS tx q1 tn (saU fr kp 0) (saU bk kp 0) (saU vw kp 0) tn).2.1), (va_up (saU vw kp) 0 (dpS tx q1 tn (saU fr kp 0) (saU bk kp 0) (saU vw kp 0) tn).2.2.1), tk, to, fk, fo, (saK kp), sp2, lt2, ib2, rw2, cl2, nu2, tv, tm, ta, ml2, 0, (va_up (mSv mf kp) 0 (dpS tx q1 tn (mSv mf kp 0) (mSv mb kp 0) (mSv mv kp 0) tn).1), (va_up (mSv mb kp) 0 (dpS tx q1 tn (mSv mf kp 0) (mSv mb kp 0) (mSv mv kp 0) tn).2.1), (va_up (mSv mv kp) 0 (dpS tx q1 tn (mSv mf kp 0) (mSv mb kp 0) (mSv mv kp 0) tn).2.2.1), kn, on, (nI 0), X, ap3, le3, fc3, g1, g2, ha, (vp_updL og 0 (nI ((dpS tx q1 tn (saU fr kp 0) (saU bk kp 0) (saU vw kp 0) tn).2.2.2.1)).toInt64), oh, tx, (by simp only [mSv_sa, saU_lo (show 0 < 3 by decide), ← eF, ← eB, ← eV]; exact lwF_v (lwF_b (lwF_f (lwF_sa hF))) hvd), (lwT_0 hT), hrs2, G⟩ (lv_sub hl [2, 3, 4, 5, 6, 7] rfl)
        · skip
          have c_1818 : ¬ ((nI ((dpS tx q1 tn (saU fr kp 0) (saU bk kp 0) (saU vw kp 0) tn).2.2.2.1)).toInt64) = ((nI ((dpS tx q1 tn (mSv mf kp 0) (mSv mb kp 0) (mSv mv kp 0) tn).2.2.2.1)).toInt64) := fun h => c_1818 (lgc_eq.mpr h)
          exact absurd (by simp only [mSv_sa, saU_lo (show 0 < 3 by decide), ← eF, ← eB, ← eV]) c_1818
    · exact absurd c_1801 (by decide)
  · skip
    have G : gW D (wC ad cy fr bk vw tk to fk fo kp sp2 lt2 ib2 rw2 cl2 nu2 tv tm ta ml tn ((ou, .inl (cy 2, 1, .inr (.inl og))) :: (od, .inl (cy 3, 1, .inr (.inr (.inr (.inl oh))))) :: wM am cy th (cS mf mb mv) kp X tn ap le fc f1 f2 (biF kn on) ha ([]))) A s _ _ := g_wc hw G
    refine W.eq (g2 := F0 m 1787 ls [.int 1]) rfl ?_
    refine lv_istore (lv' := [(6, .int 1), (0, .ref b), (1, .ref (ad 0)), (2, .ref (am 0)), (3, .ref ou), (4, .ref od), (5, .int (nI li))]) hx hb dL_law_1787 hl (by decide) rfl (fun ls hl => ?_)
    refine lv_aload_n hx hb dL_law_1789 rfl (lv_at hl 3 rfl) ?_
    have G : gW D (wM am cy th (cS mf mb mv) kp X tn ap le fc f1 f2 (biF kn on) ha ((ou, .inl (cy 2, 1, .inr (.inl og))) :: (od, .inl (cy 3, 1, .inr (.inr (.inr (.inl oh))))) :: wC ad cy fr bk vw tk to fk fo kp sp2 lt2 ib2 rw2 cl2 nu2 tv tm ta ml tn ([]))) A s _ _ := g_swCM G
    refine g_callV (As := []) (rest := []) (q0 := 0) C0 G (c_X5_run_e1 l D cy (am := am) (mf := mf) (mb := mb) (mv := mv) (th := th) (sv := kp) (X := X) (ln := tn) (ap := ap) (le := le) (fc := fc) (f1 := f1) (f2 := f2) (ha := ha) (R := ((ou, .inl (cy 2, 1, .inr (.inl og))) :: (od, .inl (cy 3, 1, .inr (.inr (.inr (.inl oh))))) :: wC ad cy fr bk vw tk to fk fo kp sp2 lt2 ib2 rw2 cl2 nu2 tv tm ta ml tn ([]))) (B := biF kn on) (tx := tx) (q := (0, lt, ib, rw, cl, nu)) (by omega) (fun j hj => (hT.2.2.2.2 j hj).2) hRs rfl hwk) k_X5_run ml_L_189 rfl rfl dL_law_1790 rfl rfl hl.1 (Nat.le_of_ble_eq_true rfl) ⟨Nat.le_of_ble_eq_true rfl, Nat.le_of_ble_eq_true rfl⟩ ⟨(by show _ ≤ 601024; omega), (by show _ ≤ 7293034; omega)⟩ (fun r W2 H locs hp G => ?_)
    obtain ⟨ap3, le3, fc3, g1, g2, rfl, hw⟩ := hp
    have G := g_wc hw G
    refine W.eq (g2 := F0 m 1793 ls [.int 0]) rfl ?_
    refine lv_istore (lv' := [(7, .int 0), (6, .int 1), (0, .ref b), (1, .ref (ad 0)), (2, .ref (am 0)), (3, .ref ou), (4, .ref od), (5, .int (nI li))]) hx hb dL_law_1793 hl (by decide) rfl (fun ls hl => ?_)
    refine lv_aload_n hx hb dL_law_1795 rfl (lv_at hl 4 rfl) ?_
    refine g_callV (As := []) (rest := []) (q0 := 0) C0 G (c_X5_thrown l D cy (am := am) (mf := mf) (mb := mb) (mv := mv) (th := (nI 1)) (sv := kp) (X := X) (ln := tn) (ap := ap3) (le := le3) (fc := fc3) (f1 := g1) (f2 := g2) (ha := ha) (R := ((ou, .inl (cy 2, 1, .inr (.inl og))) :: (od, .inl (cy 3, 1, .inr (.inr (.inr (.inl oh))))) :: wC ad cy fr bk vw tk to fk fo kp sp2 lt2 ib2 rw2 cl2 nu2 tv tm ta ml tn ([]))) (B := biF kn on)  ) k_X5_thrown ml_L_106 rfl rfl dL_law_1796 rfl rfl hl.1 (Nat.le_of_ble_eq_true rfl) ⟨Nat.le_of_ble_eq_true rfl, Nat.le_of_ble_eq_true rfl⟩ ⟨(by show _ ≤ 601024; omega), (by show _ ≤ 7293034; omega)⟩ (fun r W2 H locs hp G => ?_)
    obtain ⟨rfl, hw⟩ := hp
    have G := g_wc hw G
    refine W.eq (g2 := F0 m 1799 ls [.int (nI 1)]) rfl ?_
    refine g_topi (x' := 1) rfl ?_
    refine lv_iload hx hb dL_law_1799 (lv_at hl 1 rfl) ?_
    refine lv_icmp_eq (tgt := 1806) hx hb dL_law_1801 (by decide) (fun c_1801 => ?_) (fun c_1801 => ?_)
    · skip
      refine lv_iload hx hb dL_law_1806 (lv_at hl 1 rfl) ?_
      refine lv_if_ne (tgt := 1823) hx hb dL_law_1808 (by decide) (fun c_1808 => ?_) (fun c_1808 => ?_)
      · skip
        refine lv_goto (tgt := 1897) hx hb dL_law_1823 (by decide) ?_
        have G : gW D (wC ad cy fr bk vw tk to fk fo kp sp2 lt2 ib2 rw2 cl2 nu2 tv tm ta ml tn ((ou, .inl (cy 2, 1, .inr (.inl og))) :: (od, .inl (cy 3, 1, .inr (.inr (.inr (.inl oh))))) :: wM am cy (nI 1) (cS mf mb mv) kp X tn ap3 le3 fc3 g1 g2 (biF kn on) ha ([]))) A s _ _ := g_swMC G
        refine W.widen (k := cells + 8) (n := slots + 400) (by omega) (by omega) ?_
        exact kk _ _ _ ⟨fr, bk, vw, tk, to, fk, fo, kp, sp2, lt2, ib2, rw2, cl2, nu2, tv, tm, ta, ml, tn, mf, mb, mv, kn, on, (nI 1), X, ap3, le3, fc3, g1, g2, ha, og, oh, tx, hF, hT, hrs2, G⟩ (lv_sub hl [2, 3, 4, 5, 6, 7] rfl)
      · exact absurd c_1808 (by decide)
    · exact absurd c_1801 (by decide)

set_option maxHeartbeats 4000000 in
set_option maxRecDepth 100000 in
theorem lw_c26 {p : Program} {l : Launch} {e : Env} {s : State} {m : MethodId} {below : List Frame} {meth : Method} {c : Code} {H : Heap} {locs : List Loc} {cells slots : Nat} {Q : State → Prop} {D : va_G} {cy : Nat → ClassId} {A : Nat → Prop} {ad am : Nat → Nat} {ou od b L li : Nat} {xs : Nat → Int32} {ls : Array Slot} (C0 : gC p s m #[.ref b] meth c code 9 (some .boolean) RL D (gts cy) A) (hst : l.stackTraces = false) (hXs : va_X b L xs s s.heap) (hbl : b < s.heap.size) (hbA : ¬ A b) (hli : li + 3 < L) (hL : L ≤ 2048) (hce : cells + 8 ≤ 601024) (hsl : slots + 400 ≤ 7293034) (I : lwI D A s cy ad am ou od H locs) (hl : lv_has ls 9 [(0, .ref b), (1, .ref (ad 0)), (2, .ref (am 0)), (3, .ref ou), (4, .ref od), (5, .int (nI li))])
    (kk : ∀ (H : Heap) (locs : List Loc) (ls : Array Slot), lwI D A s cy ad am ou od H locs → lv_has ls 9 [(0, .ref b), (1, .ref (ad 0)), (2, .ref (am 0)), (3, .ref ou), (4, .ref od), (5, .int (nI li))] → W p l e room_1 s m #[.ref b] below meth c H locs (cells + 8) (slots + 400) Q (F0 m 1897 ls [])) : W p l e room_1 s m #[.ref b] below meth c H locs cells slots Q (F0 m 1826 ls []) := by
  obtain ⟨fr, bk, vw, tk, to, fk, fo, kp, sp, lt, ib, rw, cl, nu, tv, tm, ta, ml, tn, mf, mb, mv, kn, on, th, X, ap, le, fc, f1, f2, ha, og, oh, tx, hF, hT, hR, G⟩ := I
  have hx := C0.1
  have hb := C0.2.1
  have hown := C0.2.2.2.2.2.1
  have hts := C0.2.2.2.2.2.2.1
  have hRs : rsOk (0, lt, ib, rw, cl, nu) := ⟨by show 0 < 9; decide, hR.2⟩
  have hkp := hF.1
  have h60 := hT.2.2.1
  have htm := hT.1
  refine lv_aload_n hx hb dL_law_1826 rfl (lv_at hl 1 rfl) ?_
  refine lv_aload_n hx hb dL_law_1827 rfl (lv_at hl 3 rfl) ?_
  refine g_callH (As := [.ref (ad 0), .ref ou]) (rest := []) C0 G (c_L_undo l D cy (ad := ad) (fr := fr) (bk := bk) (vw := vw) (tk := tk) (to := to) (fk := fk) (fo := fo) (kp := kp) (sp := sp) (lt := lt) (ib := ib) (rw := rw) (cl := cl) (nu := nu) (tv := tv) (tm := tm) (ta := ta) (ml := ml) (tn := tn) (R := wM am cy th (cS mf mb mv) kp X tn ap le fc f1 f2 (biF kn on) ha ([])) (ou := ou) (od := od) (og := og) (oh := oh)  hst hF.1) k_L_undo ml_L_190 dL_law_1828 rfl rfl hl.1 (Nat.le_of_ble_eq_true rfl) ⟨Nat.le_of_ble_eq_true rfl, Nat.le_of_ble_eq_true rfl⟩ ⟨(by show _ ≤ 601024; omega), (by show _ ≤ 7293034; omega)⟩ (fun r W2 H locs hp G => ?_)
  rcases hp with ⟨hcd0, rfl, hw⟩ | ⟨rfl, hw, hx9⟩
  · skip
    have G : gW D (wC ad cy (if 0 < kp then rsU fr ((kp - 1) * 3) 3 else fr) (if 0 < kp then rsU bk ((kp - 1) * 3) 3 else bk) (if 0 < kp then rsU vw ((kp - 1) * 3) 3 else vw) tk to fk fo (kp - 1) sp lt ib rw cl nu tv tm ta ml tn ((ou, .inl (cy 2, 1, .inr (.inl (vp_updL og 0 (nI (kp - 1)).toInt64)))) :: (od, .inl (cy 3, 1, .inr (.inr (.inr (.inl oh))))) :: wM am cy th (cS mf mb mv) kp X tn ap le fc f1 f2 (biF kn on) ha ([]))) A s _ _ := g_wc hw G
    refine W.eq (g2 := F0 m 1831 ls [.int 0]) rfl ?_
    refine lv_istore (lv' := [(6, .int 0), (0, .ref b), (1, .ref (ad 0)), (2, .ref (am 0)), (3, .ref ou), (4, .ref od), (5, .int (nI li))]) hx hb dL_law_1831 hl (by decide) rfl (fun ls hl => ?_)
    refine lv_aload_n hx hb dL_law_1833 rfl (lv_at hl 3 rfl) ?_
    have G : gW D (wM am cy th (cS mf mb mv) kp X tn ap le fc f1 f2 (biF kn on) ha ((ou, .inl (cy 2, 1, .inr (.inl (vp_updL og 0 (nI (kp - 1)).toInt64)))) :: (od, .inl (cy 3, 1, .inr (.inr (.inr (.inl oh))))) :: wC ad cy (if 0 < kp then rsU fr ((kp - 1) * 3) 3 else fr) (if 0 < kp then rsU bk ((kp - 1) * 3) 3 else bk) (if 0 < kp then rsU vw ((kp - 1) * 3) 3 else vw) tk to fk fo (kp - 1) sp lt ib rw cl nu tv tm ta ml tn ([]))) A s _ _ := g_swCM G
    refine g_callV (As := []) (rest := []) (q0 := 0) C0 G (c_X5_undo_ok l D cy (am := am) (mf := mf) (mb := mb) (mv := mv) (th := th) (sv := kp) (X := X) (ln := tn) (ap := ap) (le := le) (fc := fc) (f1 := f1) (f2 := f2) (ha := ha) (R := ((ou, .inl (cy 2, 1, .inr (.inl (vp_updL og 0 (nI (kp - 1)).toInt64)))) :: (od, .inl (cy 3, 1, .inr (.inr (.inr (.inl oh))))) :: wC ad cy (if 0 < kp then rsU fr ((kp - 1) * 3) 3 else fr) (if 0 < kp then rsU bk ((kp - 1) * 3) 3 else bk) (if 0 < kp then rsU vw ((kp - 1) * 3) 3 else vw) tk to fk fo (kp - 1) sp lt ib rw cl nu tv tm ta ml tn ([]))) (B := biF kn on)  (by omega) (by omega)) k_X5_undo ml_L_192 rfl rfl dL_law_1834 rfl rfl hl.1 (Nat.le_of_ble_eq_true rfl) ⟨Nat.le_of_ble_eq_true rfl, Nat.le_of_ble_eq_true rfl⟩ ⟨(by show _ ≤ 601024; omega), (by show _ ≤ 7293034; omega)⟩ (fun r W2 H locs hp G => ?_)
    obtain ⟨rfl, hw⟩ := hp
    have G := g_wc hw G
    refine W.eq (g2 := F0 m 1837 ls [.int (nI (kp - 1))]) rfl ?_
    refine lv_istore (lv' := [(7, .int (nI (kp - 1))), (6, .int 0), (0, .ref b), (1, .ref (ad 0)), (2, .ref (am 0)), (3, .ref ou), (4, .ref od), (5, .int (nI li))]) hx hb dL_law_1837 hl (by decide) rfl (fun ls hl => ?_)
    refine lv_aload_n hx hb dL_law_1839 rfl (lv_at hl 4 rfl) ?_
    refine g_callV (As := []) (rest := []) (q0 := 0) C0 G (c_X5_thrown l D cy (am := am) (mf := cpU mf kp 0) (mb := cpU mb kp 0) (mv := cpU mv kp 0) (th := nI 0) (sv := kp - 1) (X := X) (ln := tn) (ap := ap) (le := le) (fc := fc) (f1 := f1) (f2 := f2) (ha := ha) (R := ((ou, .inl (cy 2, 1, .inr (.inl (vp_updL og 0 (nI (kp - 1)).toInt64)))) :: (od, .inl (cy 3, 1, .inr (.inr (.inr (.inl oh))))) :: wC ad cy (if 0 < kp then rsU fr ((kp - 1) * 3) 3 else fr) (if 0 < kp then rsU bk ((kp - 1) * 3) 3 else bk) (if 0 < kp then rsU vw ((kp - 1) * 3) 3 else vw) tk to fk fo (kp - 1) sp lt ib rw cl nu tv tm ta ml tn ([]))) (B := biF kn on)  ) k_X5_thrown ml_L_106 rfl rfl dL_law_1840 rfl rfl hl.1 (Nat.le_of_ble_eq_true rfl) ⟨Nat.le_of_ble_eq_true rfl, Nat.le_of_ble_eq_true rfl⟩ ⟨(by show _ ≤ 601024; omega), (by show _ ≤ 7293034; omega)⟩ (fun r W2 H locs hp G => ?_)
    obtain ⟨rfl, hw⟩ := hp
    have G := g_wc hw G
    refine W.eq (g2 := F0 m 1843 ls [.int (nI 0)]) rfl ?_
    refine g_topi (x' := 0) rfl ?_
    refine lv_iload hx hb dL_law_1843 (lv_at hl 1 rfl) ?_
    refine lv_icmp_eq (tgt := 1850) hx hb dL_law_1845 (by decide) (fun c_1845 => ?_) (fun c_1845 => ?_)
    · skip
      refine lv_iload hx hb dL_law_1850 (lv_at hl 1 rfl) ?_
      refine lv_if_ne (tgt := 1867) hx hb dL_law_1852 (by decide) (fun c_1852 => ?_) (fun c_1852 => ?_)
      · exact absurd c_1852 (by decide)
      · skip
        refine lv_aload_n hx hb dL_law_1855 rfl (lv_at hl 5 rfl) ?_
        refine lv_iconst (v := 0) hx hb dL_law_1856 (by decide) ?_
        refine g_topi (x' := nI 0) rfl ?_
        refine g_lald (q0 := 4) (n := 1) C0 G rfl 2 rfl (vp_in_nI (n := 0) (by omega) (by decide)) dL_law_1857 ?_
        refine g_topl (x' := (vp_updL og 0 (nI (kp - 1)).toInt64) 0) (congrArg (vp_updL og 0 (nI (kp - 1)).toInt64) (nI_clamp (n := 0) (by omega))) ?_
        refine g_topl (x' := (nI (kp - 1)).toInt64) (if_pos rfl) ?_
        refine lv_iload hx hb dL_law_1858 (lv_at hl 0 rfl) ?_
        refine lv_i2l hx hb dL_law_1860 rfl ?_
        refine W.lcmp hx hb dL_law_1861 ?_
        refine lv_if_eq (tgt := 1867) hx hb dL_law_1862 (by decide) (fun c_1862 => ?_) (fun c_1862 => ?_)
        · skip
          have c_1862 : ((nI (kp - 1)).toInt64) = ((nI (kp - 1)).toInt64) := lgc_eq.mp c_1862
          refine lv_goto (tgt := 1897) hx hb dL_law_1867 (by decide) ?_
          have G : gW D (wC ad cy (if 0 < kp then rsU fr ((kp - 1) * 3) 3 else fr) (if 0 < kp then rsU bk ((kp - 1) * 3) 3 else bk) (if 0 < kp then rsU vw ((kp - 1) * 3) 3 else vw) tk to fk fo (kp - 1) sp lt ib rw cl nu tv tm ta ml tn ((ou, .inl (cy 2, 1, .inr (.inl (vp_updL og 0 (nI (kp - 1)).toInt64)))) :: (od, .inl (cy 3, 1, .inr (.inr (.inr (.inl oh))))) :: wM am cy (nI 0) (cS (cpU mf kp 0) (cpU mb kp 0) (cpU mv kp 0)) (kp - 1) X tn ap le fc f1 f2 (biF kn on) ha ([]))) A s _ _ := g_swMC G
          refine W.widen (k := cells + 8) (n := slots + 400) (by omega) (by omega) ?_
          exact kk _ _ _ ⟨(if 0 < kp then rsU fr ((kp - 1) * 3) 3 else fr), (if 0 < kp then rsU bk ((kp - 1) * 3) 3 else bk), (if 0 < kp then rsU vw ((kp - 1) * 3) 3 else vw), tk, to, fk, fo, (kp - 1), sp, lt, ib, rw, cl, nu, tv, tm, ta, ml, tn, (cpU mf kp 0), (cpU mb kp 0), (cpU mv kp 0), kn, on, (nI 0), X, ap, le, fc, f1, f2, ha, (vp_updL og 0 (nI (kp - 1)).toInt64), oh, tx, (by simp only [if_pos hcd0, cpU_rs _ hcd0]; exact lwF_rs hF hcd0), hT, hR, G⟩ (lv_sub hl [2, 3, 4, 5, 6, 7] rfl)
        · skip
          have c_1862 : ¬ ((nI (kp - 1)).toInt64) = ((nI (kp - 1)).toInt64) := fun h => c_1862 (lgc_eq.mpr h)
          exact absurd rfl c_1862
    · exact absurd c_1845 (by decide)
  · skip
    have G : gW D (wC ad cy fr bk vw tk to fk fo kp sp lt ib rw cl nu tv tm ta ml tn ((ou, .inl (cy 2, 1, .inr (.inl og))) :: (od, .inl (cy 3, 1, .inr (.inr (.inr (.inl oh))))) :: wM am cy th (cS mf mb mv) kp X tn ap le fc f1 f2 (biF kn on) ha ([]))) A s _ _ := g_wc hw G
    refine W.eq (g2 := F0 m 1831 ls [.int 1]) rfl ?_
    refine lv_istore (lv' := [(6, .int 1), (0, .ref b), (1, .ref (ad 0)), (2, .ref (am 0)), (3, .ref ou), (4, .ref od), (5, .int (nI li))]) hx hb dL_law_1831 hl (by decide) rfl (fun ls hl => ?_)
    refine lv_aload_n hx hb dL_law_1833 rfl (lv_at hl 3 rfl) ?_
    have G : gW D (wM am cy th (cS mf mb mv) kp X tn ap le fc f1 f2 (biF kn on) ha ((ou, .inl (cy 2, 1, .inr (.inl og))) :: (od, .inl (cy 3, 1, .inr (.inr (.inr (.inl oh))))) :: wC ad cy fr bk vw tk to fk fo kp sp lt ib rw cl nu tv tm ta ml tn ([]))) A s _ _ := g_swCM G
    refine g_callV (As := []) (rest := []) (q0 := 0) C0 G (c_X5_undo_e1 l D cy (am := am) (mf := mf) (mb := mb) (mv := mv) (th := th) (sv := kp) (X := X) (ln := tn) (ap := ap) (le := le) (fc := fc) (f1 := f1) (f2 := f2) (ha := ha) (R := ((ou, .inl (cy 2, 1, .inr (.inl og))) :: (od, .inl (cy 3, 1, .inr (.inr (.inr (.inl oh))))) :: wC ad cy fr bk vw tk to fk fo kp sp lt ib rw cl nu tv tm ta ml tn ([]))) (B := biF kn on)  (by omega)) k_X5_undo ml_L_192 rfl rfl dL_law_1834 rfl rfl hl.1 (Nat.le_of_ble_eq_true rfl) ⟨Nat.le_of_ble_eq_true rfl, Nat.le_of_ble_eq_true rfl⟩ ⟨(by show _ ≤ 601024; omega), (by show _ ≤ 7293034; omega)⟩ (fun r W2 H locs hp G => ?_)
    obtain ⟨rfl, hw⟩ := hp
    have G := g_wc hw G
    refine W.eq (g2 := F0 m 1837 ls [.int 0]) rfl ?_
    refine lv_istore (lv' := [(7, .int 0), (6, .int 1), (0, .ref b), (1, .ref (ad 0)), (2, .ref (am 0)), (3, .ref ou), (4, .ref od), (5, .int (nI li))]) hx hb dL_law_1837 hl (by decide) rfl (fun ls hl => ?_)
    refine lv_aload_n hx hb dL_law_1839 rfl (lv_at hl 4 rfl) ?_
    refine g_callV (As := []) (rest := []) (q0 := 0) C0 G (c_X5_thrown l D cy (am := am) (mf := mf) (mb := mb) (mv := mv) (th := nI 1) (sv := kp) (X := X) (ln := tn) (ap := ap) (le := le) (fc := fc) (f1 := f1) (f2 := f2) (ha := ha) (R := ((ou, .inl (cy 2, 1, .inr (.inl og))) :: (od, .inl (cy 3, 1, .inr (.inr (.inr (.inl oh))))) :: wC ad cy fr bk vw tk to fk fo kp sp lt ib rw cl nu tv tm ta ml tn ([]))) (B := biF kn on)  ) k_X5_thrown ml_L_106 rfl rfl dL_law_1840 rfl rfl hl.1 (Nat.le_of_ble_eq_true rfl) ⟨Nat.le_of_ble_eq_true rfl, Nat.le_of_ble_eq_true rfl⟩ ⟨(by show _ ≤ 601024; omega), (by show _ ≤ 7293034; omega)⟩ (fun r W2 H locs hp G => ?_)
    obtain ⟨rfl, hw⟩ := hp
    have G := g_wc hw G
    refine W.eq (g2 := F0 m 1843 ls [.int (nI 1)]) rfl ?_
    refine g_topi (x' := 1) rfl ?_
    refine lv_iload hx hb dL_law_1843 (lv_at hl 1 rfl) ?_
    refine lv_icmp_eq (tgt := 1850) hx hb dL_law_1845 (by decide) (fun c_1845 => ?_) (fun c_1845 => ?_)
    · skip
      refine lv_iload hx hb dL_law_1850 (lv_at hl 1 rfl) ?_
      refine lv_if_ne (tgt := 1867) hx hb dL_law_1852 (by decide) (fun c_1852 => ?_) (fun c_1852 => ?_)
      · skip
        refine lv_goto (tgt := 1897) hx hb dL_law_1867 (by decide) ?_
        have G : gW D (wC ad cy fr bk vw tk to fk fo kp sp lt ib rw cl nu tv tm ta ml tn ((ou, .inl (cy 2, 1, .inr (.inl og))) :: (od, .inl (cy 3, 1, .inr (.inr (.inr (.inl oh))))) :: wM am cy (nI 1) (cS mf mb mv) kp X tn ap le fc f1 f2 (biF kn on) ha ([]))) A s _ _ := g_swMC G
        refine W.widen (k := cells + 8) (n := slots + 400) (by omega) (by omega) ?_
        exact kk _ _ _ ⟨fr, bk, vw, tk, to, fk, fo, kp, sp, lt, ib, rw, cl, nu, tv, tm, ta, ml, tn, mf, mb, mv, kn, on, (nI 1), X, ap, le, fc, f1, f2, ha, og, oh, tx, hF, hT, hR, G⟩ (lv_sub hl [2, 3, 4, 5, 6, 7] rfl)
      · exact absurd c_1852 (by decide)
    · exact absurd c_1845 (by decide)

set_option maxHeartbeats 4000000 in
set_option maxRecDepth 100000 in
theorem lw_c27 {p : Program} {l : Launch} {e : Env} {s : State} {m : MethodId} {below : List Frame} {meth : Method} {c : Code} {H : Heap} {locs : List Loc} {cells slots : Nat} {Q : State → Prop} {D : va_G} {cy : Nat → ClassId} {A : Nat → Prop} {ad am : Nat → Nat} {ou od b L li : Nat} {xs : Nat → Int32} {ls : Array Slot} (C0 : gC p s m #[.ref b] meth c code 9 (some .boolean) RL D (gts cy) A) (hst : l.stackTraces = false) (hXs : va_X b L xs s s.heap) (hbl : b < s.heap.size) (hbA : ¬ A b) (hli : li + 3 < L) (hL : L ≤ 2048) (hce : cells + 8 ≤ 601024) (hsl : slots + 400 ≤ 7293034) (I : lwI D A s cy ad am ou od H locs) (hl : lv_has ls 9 [(0, .ref b), (1, .ref (ad 0)), (2, .ref (am 0)), (3, .ref ou), (4, .ref od), (5, .int (nI li))])
    (kk : ∀ (H : Heap) (locs : List Loc) (ls : Array Slot), lwI D A s cy ad am ou od H locs → lv_has ls 9 [(0, .ref b), (1, .ref (ad 0)), (2, .ref (am 0)), (3, .ref ou), (4, .ref od), (5, .int (nI li))] → W p l e room_1 s m #[.ref b] below meth c H locs (cells + 8) (slots + 400) Q (F0 m 1897 ls [])) : W p l e room_1 s m #[.ref b] below meth c H locs cells slots Q (F0 m 1870 ls []) := by
  obtain ⟨fr, bk, vw, tk, to, fk, fo, kp, sp, lt, ib, rw, cl, nu, tv, tm, ta, ml, tn, mf, mb, mv, kn, on, th, X, ap, le, fc, f1, f2, ha, og, oh, tx, hF, hT, hR, G⟩ := I
  have hx := C0.1
  have hb := C0.2.1
  have hown := C0.2.2.2.2.2.1
  have hts := C0.2.2.2.2.2.2.1
  have hRs : rsOk (0, lt, ib, rw, cl, nu) := ⟨by show 0 < 9; decide, hR.2⟩
  have hkp := hF.1
  have h60 := hT.2.2.1
  have htm := hT.1
  refine lv_aload_n hx hb dL_law_1870 rfl (lv_at hl 1 rfl) ?_
  refine g_callV (As := []) (rest := []) (q0 := 0) C0 G (c_X4_savedStates l D cy (ad := ad) (fr := fr) (bk := bk) (vw := vw) (tk := tk) (to := to) (fk := fk) (fo := fo) (kp := kp) (sp := sp) (lt := lt) (ib := ib) (rw := rw) (cl := cl) (nu := nu) (tv := tv) (tm := tm) (ta := ta) (ml := ml) (tn := tn) (R := ((ou, .inl (cy 2, 1, .inr (.inl og))) :: (od, .inl (cy 3, 1, .inr (.inr (.inr (.inl oh))))) :: wM am cy th (cS mf mb mv) kp X tn ap le fc f1 f2 (biF kn on) ha ([])))  ) k_X4_savedStates ml_L_193 rfl rfl dL_law_1871 rfl rfl hl.1 (Nat.le_of_ble_eq_true rfl) ⟨Nat.le_of_ble_eq_true rfl, Nat.le_of_ble_eq_true rfl⟩ ⟨(by show _ ≤ 601024; omega), (by show _ ≤ 7293034; omega)⟩ (fun r W2 H locs hp G => ?_)
  obtain ⟨rfl, hw⟩ := hp
  have G := g_wc hw G
  refine W.eq (g2 := F0 m 1874 ls [.int (nI kp)]) rfl ?_
  refine lv_aload_n hx hb dL_law_1874 rfl (lv_at hl 2 rfl) ?_
  have G : gW D (wM am cy th (cS mf mb mv) kp X tn ap le fc f1 f2 (biF kn on) ha ((ou, .inl (cy 2, 1, .inr (.inl og))) :: (od, .inl (cy 3, 1, .inr (.inr (.inr (.inl oh))))) :: wC ad cy fr bk vw tk to fk fo kp sp lt ib rw cl nu tv tm ta ml tn ([]))) A s _ _ := g_swCM G
  refine g_callV (As := []) (rest := [.int (nI kp)]) (q0 := 0) C0 G (c_X5_savedStates_ok l D cy (am := am) (mf := mf) (mb := mb) (mv := mv) (th := th) (sv := kp) (X := X) (ln := tn) (ap := ap) (le := le) (fc := fc) (f1 := f1) (f2 := f2) (ha := ha) (R := ((ou, .inl (cy 2, 1, .inr (.inl og))) :: (od, .inl (cy 3, 1, .inr (.inr (.inr (.inl oh))))) :: wC ad cy fr bk vw tk to fk fo kp sp lt ib rw cl nu tv tm ta ml tn ([]))) (B := biF kn on)  ) k_X5_savedStates ml_L_196 rfl rfl dL_law_1875 rfl rfl hl.1 (Nat.le_of_ble_eq_true rfl) ⟨Nat.le_of_ble_eq_true rfl, Nat.le_of_ble_eq_true rfl⟩ ⟨(by show _ ≤ 601024; omega), (by show _ ≤ 7293034; omega)⟩ (fun r W2 H locs hp G => ?_)
  obtain ⟨rfl, hw⟩ := hp
  have G := g_wc hw G
  refine W.eq (g2 := F0 m 1878 ls [.int (nI kp), .int (nI kp)]) rfl ?_
  refine lv_icmp_eq (tgt := 1897) hx hb dL_law_1878 (by decide) (fun c_1878 => ?_) (fun c_1878 => ?_)
  · skip
    have c_1878 : kp = kp := (nI_eq (a := kp) (b := kp) (by omega) (by omega)).mp c_1878
    have G : gW D (wC ad cy fr bk vw tk to fk fo kp sp lt ib rw cl nu tv tm ta ml tn ((ou, .inl (cy 2, 1, .inr (.inl og))) :: (od, .inl (cy 3, 1, .inr (.inr (.inr (.inl oh))))) :: wM am cy 0 (cS mf mb mv) kp X tn ap le fc f1 f2 (biF kn on) ha ([]))) A s _ _ := g_swMC G
    refine W.widen (k := cells + 8) (n := slots + 400) (by omega) (by omega) ?_
    exact kk _ _ _ ⟨fr, bk, vw, tk, to, fk, fo, kp, sp, lt, ib, rw, cl, nu, tv, tm, ta, ml, tn, mf, mb, mv, kn, on, 0, X, ap, le, fc, f1, f2, ha, og, oh, tx, hF, hT, hR, G⟩ (lv_sub hl [0, 1, 2, 3, 4, 5] rfl)
  · skip
    have c_1878 : ¬ (kp = kp) := fun h => c_1878 ((nI_eq (a := kp) (b := kp) (by omega) (by omega)).mpr h)
    exact absurd rfl c_1878

set_option maxHeartbeats 4000000 in
set_option maxRecDepth 100000 in
theorem lw_c28 {p : Program} {l : Launch} {e : Env} {s : State} {m : MethodId} {below : List Frame} {meth : Method} {c : Code} {H : Heap} {locs : List Loc} {cells slots : Nat} {Q : State → Prop} {D : va_G} {cy : Nat → ClassId} {A : Nat → Prop} {ad am : Nat → Nat} {ou od b L li : Nat} {xs : Nat → Int32} {ls : Array Slot} (C0 : gC p s m #[.ref b] meth c code 9 (some .boolean) RL D (gts cy) A) (hst : l.stackTraces = false) (hXs : va_X b L xs s s.heap) (hbl : b < s.heap.size) (hbA : ¬ A b) (hli : li + 3 < L) (hL : L ≤ 2048) (hce : cells + 8 ≤ 601024) (hsl : slots + 400 ≤ 7293034) (I : lwI D A s cy ad am ou od H locs) (hl : lv_has ls 9 [(0, .ref b), (1, .ref (ad 0)), (2, .ref (am 0)), (3, .ref ou), (4, .ref od), (5, .int (nI li))])
    (kk : ∀ (H : Heap) (locs : List Loc) (ls : Array Slot), lwI D A s cy ad am ou od H locs → lv_has ls 9 [(0, .ref b), (1, .ref (ad 0)), (2, .ref (am 0)), (3, .ref ou), (4, .ref od), (5, .int (nI li))] → W p l e room_1 s m #[.ref b] below meth c H locs (cells + 8) (slots + 400) Q (F0 m 1897 ls [])) : W p l e room_1 s m #[.ref b] below meth c H locs cells slots Q (F0 m 1883 ls []) := by
  obtain ⟨fr, bk, vw, tk, to, fk, fo, kp, sp, lt, ib, rw, cl, nu, tv, tm, ta, ml, tn, mf, mb, mv, kn, on, th, X, ap, le, fc, f1, f2, ha, og, oh, tx, hF, hT, hR, G⟩ := I
  have hx := C0.1
  have hb := C0.2.1
  have hown := C0.2.2.2.2.2.1
  have hts := C0.2.2.2.2.2.2.1
  have hRs : rsOk (0, lt, ib, rw, cl, nu) := ⟨by show 0 < 9; decide, hR.2⟩
  have hkp := hF.1
  have h60 := hT.2.2.1
  have htm := hT.1
  refine lv_aload_n hx hb dL_law_1883 rfl (lv_at hl 1 rfl) ?_
  refine g_callV (As := []) (rest := []) (q0 := 0) C0 G (c_X4_digest l D cy (ad := ad) (fr := fr) (bk := bk) (vw := vw) (tk := tk) (to := to) (fk := fk) (fo := fo) (kp := kp) (sp := sp) (lt := lt) (ib := ib) (rw := rw) (cl := cl) (nu := nu) (tv := tv) (tm := tm) (ta := ta) (ml := ml) (tn := tn) (R := ((ou, .inl (cy 2, 1, .inr (.inl og))) :: (od, .inl (cy 3, 1, .inr (.inr (.inr (.inl oh))))) :: wM am cy th (cS mf mb mv) kp X tn ap le fc f1 f2 (biF kn on) ha ([])))  (fun k hk => (hF.2 k (by omega)).2.2.2)) k_X4_digest ml_L_197 rfl rfl dL_law_1884 rfl rfl hl.1 (Nat.le_of_ble_eq_true rfl) ⟨Nat.le_of_ble_eq_true rfl, Nat.le_of_ble_eq_true rfl⟩ ⟨(by show _ ≤ 601024; omega), (by show _ ≤ 7293034; omega)⟩ (fun r W2 H locs hp G => ?_)
  obtain ⟨rfl, hw⟩ := hp
  have G := g_wc hw G
  refine W.eq (g2 := F0 m 1887 ls [.long (dgH fr bk vw 3)]) rfl ?_
  refine lv_aload_n hx hb dL_law_1887 rfl (lv_at hl 2 rfl) ?_
  have G : gW D (wM am cy th (cS mf mb mv) kp X tn ap le fc f1 f2 (biF kn on) ha ((ou, .inl (cy 2, 1, .inr (.inl og))) :: (od, .inl (cy 3, 1, .inr (.inr (.inr (.inl oh))))) :: wC ad cy fr bk vw ((dgT fr bk (tk, to) 3).1) ((dgT fr bk (tk, to) 3).2) ((dgF fr bk (fk, fo) 3).1) ((dgF fr bk (fk, fo) 3).2) kp sp lt ib rw cl nu tv tm ta ml tn ([]))) A s _ _ := g_swCM G
  refine g_callV (As := []) (rest := [.long (dgH fr bk vw 3)]) (q0 := 0) C0 G (c_X5_digest_ok l D cy (am := am) (mf := mf) (mb := mb) (mv := mv) (kn := kn) (on := on) (th := th) (sv := kp) (X := X) (ln := tn) (ap := ap) (le := le) (fc := fc) (f1 := f1) (f2 := f2) (ha := ha) (R := ((ou, .inl (cy 2, 1, .inr (.inl og))) :: (od, .inl (cy 3, 1, .inr (.inr (.inr (.inl oh))))) :: wC ad cy fr bk vw ((dgT fr bk (tk, to) 3).1) ((dgT fr bk (tk, to) 3).2) ((dgF fr bk (fk, fo) 3).1) ((dgF fr bk (fk, fo) 3).2) kp sp lt ib rw cl nu tv tm ta ml tn ([])))  (fun k hk => by rw [← (hF.2 k (by omega)).2.2.1]; exact (hF.2 k (by omega)).2.2.2)) k_X5_digest ml_L_201 rfl rfl dL_law_1888 rfl rfl hl.1 (Nat.le_of_ble_eq_true rfl) ⟨Nat.le_of_ble_eq_true rfl, Nat.le_of_ble_eq_true rfl⟩ ⟨(by show _ ≤ 601024; omega), (by show _ ≤ 7293034; omega)⟩ (fun r W2 H locs hp G => ?_)
  obtain ⟨rfl, hw⟩ := hp
  have G := g_wc hw G
  refine W.eq (g2 := F0 m 1891 ls [.long (dgH mf mb mv 3), .long (dgH fr bk vw 3)]) rfl ?_
  refine W.lcmp hx hb dL_law_1891 ?_
  refine lv_if_eq (tgt := 1897) hx hb dL_law_1892 (by decide) (fun c_1892 => ?_) (fun c_1892 => ?_)
  · skip
    have c_1892 : (dgH fr bk vw 3) = (dgH mf mb mv 3) := lgc_eq.mp c_1892
    have G : gW D (wC ad cy fr bk vw ((dgT fr bk (tk, to) 3).1) ((dgT fr bk (tk, to) 3).2) ((dgF fr bk (fk, fo) 3).1) ((dgF fr bk (fk, fo) 3).2) kp sp lt ib rw cl nu tv tm ta ml tn ((ou, .inl (cy 2, 1, .inr (.inl og))) :: (od, .inl (cy 3, 1, .inr (.inr (.inr (.inl oh))))) :: wM am cy 0 (cS mf mb mv) kp X tn ap le fc f1 f2 (biF ((dgT mf mb (kn, on) 3).1) ((dgT mf mb (kn, on) 3).2)) (dgH mf mb mv 3) ([]))) A s _ _ := g_swMC G
    refine W.widen (k := cells + 8) (n := slots + 400) (by omega) (by omega) ?_
    exact kk _ _ _ ⟨fr, bk, vw, ((dgT fr bk (tk, to) 3).1), ((dgT fr bk (tk, to) 3).2), ((dgF fr bk (fk, fo) 3).1), ((dgF fr bk (fk, fo) 3).2), kp, sp, lt, ib, rw, cl, nu, tv, tm, ta, ml, tn, mf, mb, mv, ((dgT mf mb (kn, on) 3).1), ((dgT mf mb (kn, on) 3).2), 0, X, ap, le, fc, f1, f2, (dgH mf mb mv 3), og, oh, tx, hF, hT, hR, G⟩ (lv_sub hl [0, 1, 2, 3, 4, 5] rfl)
  · skip
    have c_1892 : ¬ (dgH fr bk vw 3) = (dgH mf mb mv 3) := fun h => c_1892 (lgc_eq.mpr h)
    exact absurd (dg_eq (fun z hz => ⟨(hF.2 z (by omega)).1, (hF.2 z (by omega)).2.1, (hF.2 z (by omega)).2.2.1⟩)) c_1892
