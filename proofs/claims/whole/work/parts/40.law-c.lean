set_option maxHeartbeats 4000000 in
set_option maxRecDepth 100000 in
theorem lw_c8 {p : Program} {l : Launch} {e : Env} {s : State} {m : MethodId} {below : List Frame} {meth : Method} {c : Code} {H : Heap} {locs : List Loc} {cells slots : Nat} {Q : State → Prop} {D : va_G} {cy : Nat → ClassId} {A : Nat → Prop} {ad am : Nat → Nat} {ou od b L li : Nat} {xs : Nat → Int32} {ls : Array Slot} (C0 : gC p s m #[.ref b] meth c code 9 (some .boolean) RL D (gts cy) A) (hst : l.stackTraces = false) (hXs : va_X b L xs s s.heap) (hbl : b < s.heap.size) (hbA : ¬ A b) (hli : li + 3 < L) (hL : L ≤ 2048) (hce : cells + 8 ≤ 601024) (hsl : slots + 400 ≤ 7293034) (I : lwI D A s cy ad am ou od H locs) (hl : lv_has ls 9 [(0, .ref b), (1, .ref (ad 0)), (2, .ref (am 0)), (3, .ref ou), (4, .ref od), (5, .int (nI li))])
    (kk : ∀ (H : Heap) (locs : List Loc) (ls : Array Slot), lwI D A s cy ad am ou od H locs → lv_has ls 9 [(0, .ref b), (1, .ref (ad 0)), (2, .ref (am 0)), (3, .ref ou), (4, .ref od), (5, .int (nI li))] → W p l e room_1 s m #[.ref b] below meth c H locs (cells + 8) (slots + 400) Q (F0 m 1897 ls [])) : W p l e room_1 s m #[.ref b] below meth c H locs cells slots Q (F0 m 720 ls []) := by
  obtain ⟨fr, bk, vw, tk, to, fk, fo, kp, sp, lt, ib, rw, cl, nu, tv, tm, ta, ml, tn, mf, mb, mv, kn, on, th, X, ap, le, fc, f1, f2, ha, og, oh, tx, hF, hT, hR, G⟩ := I
  have hx := C0.1
  have hb := C0.2.1
  have hown := C0.2.2.2.2.2.1
  have hts := C0.2.2.2.2.2.2.1
  have hRs : rsOk (0, lt, ib, rw, cl, nu) := ⟨by show 0 < 9; decide, hR.2⟩
  have hkp := hF.1
  have h60 := hT.2.2.1
  have htm := hT.1
  obtain ⟨p0, hp0⟩ : ∃ z : Int32, z = xs (li + 1) := ⟨_, rfl⟩
  obtain ⟨p1, hp1⟩ : ∃ z : Int32, z = xs (li + 2) := ⟨_, rfl⟩
  obtain ⟨p2, hp2⟩ : ∃ z : Int32, z = xs (li + 3) := ⟨_, rfl⟩
  refine lv_aload_n hx hb dL_law_720 rfl (lv_at hl 1 rfl) ?_
  refine lv_aload_n hx hb dL_law_721 rfl (lv_at hl 0 rfl) ?_
  refine lv_iload hx hb dL_law_722 (lv_at hl 5 rfl) ?_
  refine lv_iconst (v := 1) hx hb dL_law_724 (by decide) ?_
  refine lv_iadd hx hb dL_law_725 ?_
  refine g_topi (x' := nI (li + 1)) (nI_add li 1) ?_
  refine va_sld hx hb hXs hbl hbA G.2.2 (vp_in_nI (n := li + 1) (by omega) (by omega)) dL_law_726 ?_
  refine g_topi (x' := p0) (by rw [nI_clamp (n := li + 1) (by omega)]; exact hp0.symm) ?_
  refine lv_aload_n hx hb dL_law_727 rfl (lv_at hl 0 rfl) ?_
  refine lv_iload hx hb dL_law_728 (lv_at hl 5 rfl) ?_
  refine lv_iconst (v := 2) hx hb dL_law_730 (by decide) ?_
  refine lv_iadd hx hb dL_law_731 ?_
  refine g_topi (x' := nI (li + 2)) (nI_add li 2) ?_
  refine va_sld hx hb hXs hbl hbA G.2.2 (vp_in_nI (n := li + 2) (by omega) (by omega)) dL_law_732 ?_
  refine g_topi (x' := p1) (by rw [nI_clamp (n := li + 2) (by omega)]; exact hp1.symm) ?_
  refine lv_aload_n hx hb dL_law_733 rfl (lv_at hl 0 rfl) ?_
  refine lv_iload hx hb dL_law_734 (lv_at hl 5 rfl) ?_
  refine lv_iconst (v := 3) hx hb dL_law_736 (by decide) ?_
  refine lv_iadd hx hb dL_law_737 ?_
  refine g_topi (x' := nI (li + 3)) (nI_add li 3) ?_
  refine va_sld hx hb hXs hbl hbA G.2.2 (vp_in_nI (n := li + 3) (by omega) (by omega)) dL_law_738 ?_
  refine g_topi (x' := p2) (by rw [nI_clamp (n := li + 3) (by omega)]; exact hp2.symm) ?_
  refine lv_aload_n hx hb dL_law_739 rfl (lv_at hl 3 rfl) ?_
  refine g_callH (As := [.ref (ad 0), .int p0, .int p1, .int p2, .ref ou]) (rest := []) C0 G (c_L_sees l D cy (ad := ad) (fr := fr) (bk := bk) (vw := vw) (tk := tk) (to := to) (fk := fk) (fo := fo) (kp := kp) (sp := sp) (lt := lt) (ib := ib) (rw := rw) (cl := cl) (nu := nu) (tv := tv) (tm := tm) (ta := ta) (ml := ml) (tn := tn) (R := wM am cy th (cS mf mb mv) kp X tn ap le fc f1 f2 (biF kn on) ha ([])) (ou := ou) (od := od) (og := og) (oh := oh) (p0 := p0) (p1 := p1) (p2 := p2) hst (fun k hk => (hF.2 k (by omega)).2.2.2)) k_L_sees ml_L_132 dL_law_740 rfl rfl hl.1 (Nat.le_of_ble_eq_true rfl) ⟨Nat.le_of_ble_eq_true rfl, Nat.le_of_ble_eq_true rfl⟩ ⟨(by show _ ≤ 601024; omega), (by show _ ≤ 7293034; omega)⟩ (fun r W2 H locs hp G => ?_)
  rcases hp with ⟨k, hk, rfl, i, hi, rfl, j, hj, rfl, rfl, hw⟩ | ⟨rfl, hw, hx9⟩
  · skip
    obtain ⟨eF, eB, eV, hv4⟩ := hF.2 k (by omega)
    have G : gW D (wC ad cy fr bk vw tk to fk fo kp sp lt ib rw cl nu tv tm ta ml tn ((ou, .inl (cy 2, 1, .inr (.inl (vp_updL og 0 (bL (shB1 (fr k) (bk k) (vw k) i j)))))) :: (od, .inl (cy 3, 1, .inr (.inr (.inr (.inl oh))))) :: wM am cy th (cS mf mb mv) kp X tn ap le fc f1 f2 (biF kn on) ha ([]))) A s _ _ := g_wc hw G
    refine W.eq (g2 := F0 m 743 ls [.int 0]) rfl ?_
    refine lv_istore (lv' := [(6, .int 0), (0, .ref b), (1, .ref (ad 0)), (2, .ref (am 0)), (3, .ref ou), (4, .ref od), (5, .int (nI li))]) hx hb dL_law_743 hl (by decide) rfl (fun ls hl => ?_)
    refine lv_aload_n hx hb dL_law_745 rfl (lv_at hl 3 rfl) ?_
    refine lv_aload_n hx hb dL_law_746 rfl (lv_at hl 1 rfl) ?_
    refine lv_iload hx hb dL_law_747 (lv_at hl 6 rfl) ?_
    refine lv_iconst (v := 1) hx hb dL_law_749 (by decide) ?_
    refine lv_iadd hx hb dL_law_750 ?_
    refine g_topi (x' := nI (li + 1)) (nI_add li 1) ?_
    refine va_sld hx hb hXs hbl hbA G.2.2 (vp_in_nI (n := li + 1) (by omega) (by omega)) dL_law_751 ?_
    refine g_topi (x' := nI k) (by rw [nI_clamp (n := li + 1) (by omega)]; exact hp0.symm) ?_
    refine lv_aload_n hx hb dL_law_752 rfl (lv_at hl 1 rfl) ?_
    refine lv_iload hx hb dL_law_753 (lv_at hl 6 rfl) ?_
    refine lv_iconst (v := 2) hx hb dL_law_755 (by decide) ?_
    refine lv_iadd hx hb dL_law_756 ?_
    refine g_topi (x' := nI (li + 2)) (nI_add li 2) ?_
    refine va_sld hx hb hXs hbl hbA G.2.2 (vp_in_nI (n := li + 2) (by omega) (by omega)) dL_law_757 ?_
    refine g_topi (x' := nI i) (by rw [nI_clamp (n := li + 2) (by omega)]; exact hp1.symm) ?_
    refine lv_aload_n hx hb dL_law_758 rfl (lv_at hl 1 rfl) ?_
    refine lv_iload hx hb dL_law_759 (lv_at hl 6 rfl) ?_
    refine lv_iconst (v := 3) hx hb dL_law_761 (by decide) ?_
    refine lv_iadd hx hb dL_law_762 ?_
    refine g_topi (x' := nI (li + 3)) (nI_add li 3) ?_
    refine va_sld hx hb hXs hbl hbA G.2.2 (vp_in_nI (n := li + 3) (by omega) (by omega)) dL_law_763 ?_
    refine g_topi (x' := nI j) (by rw [nI_clamp (n := li + 3) (by omega)]; exact hp2.symm) ?_
    have G : gW D (wM am cy th (cS mf mb mv) kp X tn ap le fc f1 f2 (biF kn on) ha ((ou, .inl (cy 2, 1, .inr (.inl (vp_updL og 0 (bL (shB1 (fr k) (bk k) (vw k) i j)))))) :: (od, .inl (cy 3, 1, .inr (.inr (.inr (.inl oh))))) :: wC ad cy fr bk vw tk to fk fo kp sp lt ib rw cl nu tv tm ta ml tn ([]))) A s _ _ := g_swCM G
    refine g_callV (As := [.int (nI k), .int (nI i), .int (nI j)]) (rest := []) (q0 := 0) C0 G (c_X5_sees_ok l D cy (am := am) (mf := mf) (mb := mb) (mv := mv) (th := th) (sv := kp) (X := X) (ln := tn) (ap := ap) (le := le) (fc := fc) (f1 := f1) (f2 := f2) (ha := ha) (R := ((ou, .inl (cy 2, 1, .inr (.inl (vp_updL og 0 (bL (shB1 (fr k) (bk k) (vw k) i j)))))) :: (od, .inl (cy 3, 1, .inr (.inr (.inr (.inl oh))))) :: wC ad cy fr bk vw tk to fk fo kp sp lt ib rw cl nu tv tm ta ml tn ([]))) (B := biF kn on) (k := k) (i := i) (j := j) (by omega) (by omega) (by omega) (by rw [← eV]; exact hv4)) k_X5_sees ml_L_134 rfl rfl dL_law_764 rfl rfl hl.1 (Nat.le_of_ble_eq_true rfl) ⟨Nat.le_of_ble_eq_true rfl, Nat.le_of_ble_eq_true rfl⟩ ⟨(by show _ ≤ 601024; omega), (by show _ ≤ 7293034; omega)⟩ (fun r W2 H locs hp G => ?_)
    obtain ⟨rfl, hw⟩ := hp
    have G := g_wc hw G
    refine W.eq (g2 := F0 m 767 ls [.int (bI (shB1 (mf k) (mb k) (mv k) i j))]) rfl ?_
    refine lv_istore (lv' := [(7, .int (bI (shB1 (mf k) (mb k) (mv k) i j))), (6, .int 0), (0, .ref b), (1, .ref (ad 0)), (2, .ref (am 0)), (3, .ref ou), (4, .ref od), (5, .int (nI li))]) hx hb dL_law_767 hl (by decide) rfl (fun ls hl => ?_)
    refine lv_aload_n hx hb dL_law_769 rfl (lv_at hl 4 rfl) ?_
    refine g_callV (As := []) (rest := []) (q0 := 0) C0 G (c_X5_thrown l D cy (am := am) (mf := mf) (mb := mb) (mv := mv) (th := nI 0) (sv := kp) (X := X) (ln := tn) (ap := ap) (le := le) (fc := fc) (f1 := f1) (f2 := f2) (ha := ha) (R := ((ou, .inl (cy 2, 1, .inr (.inl (vp_updL og 0 (bL (shB1 (fr k) (bk k) (vw k) i j)))))) :: (od, .inl (cy 3, 1, .inr (.inr (.inr (.inl oh))))) :: wC ad cy fr bk vw tk to fk fo kp sp lt ib rw cl nu tv tm ta ml tn ([]))) (B := biF kn on)  ) k_X5_thrown ml_L_106 rfl rfl dL_law_770 rfl rfl hl.1 (Nat.le_of_ble_eq_true rfl) ⟨Nat.le_of_ble_eq_true rfl, Nat.le_of_ble_eq_true rfl⟩ ⟨(by show _ ≤ 601024; omega), (by show _ ≤ 7293034; omega)⟩ (fun r W2 H locs hp G => ?_)
    obtain ⟨rfl, hw⟩ := hp
    have G := g_wc hw G
    refine W.eq (g2 := F0 m 773 ls [.int (nI 0)]) rfl ?_
    refine g_topi (x' := 0) rfl ?_
    refine lv_iload hx hb dL_law_773 (lv_at hl 1 rfl) ?_
    refine lv_icmp_eq (tgt := 780) hx hb dL_law_775 (by decide) (fun c_775 => ?_) (fun c_775 => ?_)
    · skip
      refine lv_iload hx hb dL_law_780 (lv_at hl 1 rfl) ?_
      refine lv_if_ne (tgt := 804) hx hb dL_law_782 (by decide) (fun c_782 => ?_) (fun c_782 => ?_)
      · exact absurd c_782 (by decide)
      · skip
        refine lv_aload_n hx hb dL_law_785 rfl (lv_at hl 5 rfl) ?_
        refine lv_iconst (v := 0) hx hb dL_law_786 (by decide) ?_
        refine g_topi (x' := nI 0) rfl ?_
        refine g_lald (q0 := 4) (n := 1) C0 G rfl 2 rfl (vp_in_nI (n := 0) (by omega) (by decide)) dL_law_787 ?_
        refine g_topl (x' := (vp_updL og 0 (bL (shB1 (fr k) (bk k) (vw k) i j))) 0) (congrArg (vp_updL og 0 (bL (shB1 (fr k) (bk k) (vw k) i j))) (nI_clamp (n := 0) (by omega))) ?_
        refine g_topl (x' := bL (shB1 (fr k) (bk k) (vw k) i j)) (if_pos rfl) ?_
        refine lv_iload hx hb dL_law_788 (lv_at hl 0 rfl) ?_
        refine lv_if_eq (tgt := 797) hx hb dL_law_790 (by decide) (fun c_790 => ?_) (fun c_790 => ?_)
        · skip
          have c_790 : (shB1 (mf k) (mb k) (mv k) i j) = false := bI_f c_790
          refine lv_lconst (v := 0) hx hb dL_law_797 (by decide) ?_
          refine W.lcmp hx hb dL_law_798 ?_
          refine lv_if_eq (tgt := 804) hx hb dL_law_799 (by decide) (fun c_799 => ?_) (fun c_799 => ?_)
          · skip
            have c_799 : (bL (shB1 (fr k) (bk k) (vw k) i j)) = (0 : Int64) := lgc_eq.mp c_799
            refine lv_goto (tgt := 1897) hx hb dL_law_804 (by decide) ?_
            have G : gW D (wC ad cy fr bk vw tk to fk fo kp sp lt ib rw cl nu tv tm ta ml tn ((ou, .inl (cy 2, 1, .inr (.inl (vp_updL og 0 (bL (shB1 (fr k) (bk k) (vw k) i j)))))) :: (od, .inl (cy 3, 1, .inr (.inr (.inr (.inl oh))))) :: wM am cy (nI 0) (cS mf mb mv) kp X tn ap le fc f1 f2 (biF kn on) ha ([]))) A s _ _ := g_swMC G
            refine W.widen (k := cells + 8) (n := slots + 400) (by omega) (by omega) ?_
            exact kk _ _ _ ⟨fr, bk, vw, tk, to, fk, fo, kp, sp, lt, ib, rw, cl, nu, tv, tm, ta, ml, tn, mf, mb, mv, kn, on, (nI 0), X, ap, le, fc, f1, f2, ha, (vp_updL og 0 (bL (shB1 (fr k) (bk k) (vw k) i j))), oh, tx, hF, hT, hR, G⟩ (lv_sub hl [2, 3, 4, 5, 6, 7] rfl)
          · skip
            have c_799 : ¬ (bL (shB1 (fr k) (bk k) (vw k) i j)) = (0 : Int64) := fun h => c_799 (lgc_eq.mpr h)
            exact absurd (by rw [eF, eB, eV, c_790]; rfl) c_799
        · skip
          have c_790 : (shB1 (mf k) (mb k) (mv k) i j) = true := bI_t c_790
          refine lv_lconst (v := 1) hx hb dL_law_793 (by decide) ?_
          refine lv_goto (tgt := 798) hx hb dL_law_794 (by decide) ?_
          refine W.lcmp hx hb dL_law_798 ?_
          refine lv_if_eq (tgt := 804) hx hb dL_law_799 (by decide) (fun c_799 => ?_) (fun c_799 => ?_)
          · skip
            have c_799 : (bL (shB1 (fr k) (bk k) (vw k) i j)) = (1 : Int64) := lgc_eq.mp c_799
            refine lv_goto (tgt := 1897) hx hb dL_law_804 (by decide) ?_
            have G : gW D (wC ad cy fr bk vw tk to fk fo kp sp lt ib rw cl nu tv tm ta ml tn ((ou, .inl (cy 2, 1, .inr (.inl (vp_updL og 0 (bL (shB1 (fr k) (bk k) (vw k) i j)))))) :: (od, .inl (cy 3, 1, .inr (.inr (.inr (.inl oh))))) :: wM am cy (nI 0) (cS mf mb mv) kp X tn ap le fc f1 f2 (biF kn on) ha ([]))) A s _ _ := g_swMC G
            refine W.widen (k := cells + 8) (n := slots + 400) (by omega) (by omega) ?_
            exact kk _ _ _ ⟨fr, bk, vw, tk, to, fk, fo, kp, sp, lt, ib, rw, cl, nu, tv, tm, ta, ml, tn, mf, mb, mv, kn, on, (nI 0), X, ap, le, fc, f1, f2, ha, (vp_updL og 0 (bL (shB1 (fr k) (bk k) (vw k) i j))), oh, tx, hF, hT, hR, G⟩ (lv_sub hl [2, 3, 4, 5, 6, 7] rfl)
          · skip
            have c_799 : ¬ (bL (shB1 (fr k) (bk k) (vw k) i j)) = (1 : Int64) := fun h => c_799 (lgc_eq.mpr h)
            exact absurd (by rw [eF, eB, eV, c_790]; rfl) c_799
    · exact absurd c_775 (by decide)
  · skip
    have G : gW D (wC ad cy fr bk vw tk to fk fo kp sp lt ib rw cl nu tv tm ta ml tn ((ou, .inl (cy 2, 1, .inr (.inl og))) :: (od, .inl (cy 3, 1, .inr (.inr (.inr (.inl oh))))) :: wM am cy th (cS mf mb mv) kp X tn ap le fc f1 f2 (biF kn on) ha ([]))) A s _ _ := g_wc hw G
    refine W.eq (g2 := F0 m 743 ls [.int 1]) rfl ?_
    refine lv_istore (lv' := [(6, .int 1), (0, .ref b), (1, .ref (ad 0)), (2, .ref (am 0)), (3, .ref ou), (4, .ref od), (5, .int (nI li))]) hx hb dL_law_743 hl (by decide) rfl (fun ls hl => ?_)
    refine lv_aload_n hx hb dL_law_745 rfl (lv_at hl 3 rfl) ?_
    refine lv_aload_n hx hb dL_law_746 rfl (lv_at hl 1 rfl) ?_
    refine lv_iload hx hb dL_law_747 (lv_at hl 6 rfl) ?_
    refine lv_iconst (v := 1) hx hb dL_law_749 (by decide) ?_
    refine lv_iadd hx hb dL_law_750 ?_
    refine g_topi (x' := nI (li + 1)) (nI_add li 1) ?_
    refine va_sld hx hb hXs hbl hbA G.2.2 (vp_in_nI (n := li + 1) (by omega) (by omega)) dL_law_751 ?_
    refine g_topi (x' := p0) (by rw [nI_clamp (n := li + 1) (by omega)]; exact hp0.symm) ?_
    refine lv_aload_n hx hb dL_law_752 rfl (lv_at hl 1 rfl) ?_
    refine lv_iload hx hb dL_law_753 (lv_at hl 6 rfl) ?_
    refine lv_iconst (v := 2) hx hb dL_law_755 (by decide) ?_
    refine lv_iadd hx hb dL_law_756 ?_
    refine g_topi (x' := nI (li + 2)) (nI_add li 2) ?_
    refine va_sld hx hb hXs hbl hbA G.2.2 (vp_in_nI (n := li + 2) (by omega) (by omega)) dL_law_757 ?_
    refine g_topi (x' := p1) (by rw [nI_clamp (n := li + 2) (by omega)]; exact hp1.symm) ?_
    refine lv_aload_n hx hb dL_law_758 rfl (lv_at hl 1 rfl) ?_
    refine lv_iload hx hb dL_law_759 (lv_at hl 6 rfl) ?_
    refine lv_iconst (v := 3) hx hb dL_law_761 (by decide) ?_
    refine lv_iadd hx hb dL_law_762 ?_
    refine g_topi (x' := nI (li + 3)) (nI_add li 3) ?_
    refine va_sld hx hb hXs hbl hbA G.2.2 (vp_in_nI (n := li + 3) (by omega) (by omega)) dL_law_763 ?_
    refine g_topi (x' := p2) (by rw [nI_clamp (n := li + 3) (by omega)]; exact hp2.symm) ?_
    have G : gW D (wM am cy th (cS mf mb mv) kp X tn ap le fc f1 f2 (biF kn on) ha ((ou, .inl (cy 2, 1, .inr (.inl og))) :: (od, .inl (cy 3, 1, .inr (.inr (.inr (.inl oh))))) :: wC ad cy fr bk vw tk to fk fo kp sp lt ib rw cl nu tv tm ta ml tn ([]))) A s _ _ := g_swCM G
    refine g_callV (As := [.int p0, .int p1, .int p2]) (rest := []) (q0 := 0) C0 G (c_X5_sees_e1 l D cy (am := am) (mf := mf) (mb := mb) (mv := mv) (th := th) (sv := kp) (X := X) (ln := tn) (ap := ap) (le := le) (fc := fc) (f1 := f1) (f2 := f2) (ha := ha) (R := ((ou, .inl (cy 2, 1, .inr (.inl og))) :: (od, .inl (cy 3, 1, .inr (.inr (.inr (.inl oh))))) :: wC ad cy fr bk vw tk to fk fo kp sp lt ib rw cl nu tv tm ta ml tn ([]))) (B := biF kn on) (p0 := p0) (p1 := p1) (p2 := p2) (by rw [inB_ir (x := p0) (n := 2) (hi := 2) rfl (by decide), inB_ir (x := p1) (n := 7) (hi := 7) rfl (by decide), inB_ir (x := p2) (n := 7) (hi := 7) rfl (by decide), ← Bool.and_assoc]; exact hx9)) k_X5_sees ml_L_134 rfl rfl dL_law_764 rfl rfl hl.1 (Nat.le_of_ble_eq_true rfl) ⟨Nat.le_of_ble_eq_true rfl, Nat.le_of_ble_eq_true rfl⟩ ⟨(by show _ ≤ 601024; omega), (by show _ ≤ 7293034; omega)⟩ (fun r W2 H locs hp G => ?_)
    obtain ⟨rfl, hw⟩ := hp
    have G := g_wc hw G
    refine W.eq (g2 := F0 m 767 ls [.int 0]) rfl ?_
    refine lv_istore (lv' := [(7, .int 0), (6, .int 1), (0, .ref b), (1, .ref (ad 0)), (2, .ref (am 0)), (3, .ref ou), (4, .ref od), (5, .int (nI li))]) hx hb dL_law_767 hl (by decide) rfl (fun ls hl => ?_)
    refine lv_aload_n hx hb dL_law_769 rfl (lv_at hl 4 rfl) ?_
    refine g_callV (As := []) (rest := []) (q0 := 0) C0 G (c_X5_thrown l D cy (am := am) (mf := mf) (mb := mb) (mv := mv) (th := nI 1) (sv := kp) (X := X) (ln := tn) (ap := ap) (le := le) (fc := fc) (f1 := f1) (f2 := f2) (ha := ha) (R := ((ou, .inl (cy 2, 1, .inr (.inl og))) :: (od, .inl (cy 3, 1, .inr (.inr (.inr (.inl oh))))) :: wC ad cy fr bk vw tk to fk fo kp sp lt ib rw cl nu tv tm ta ml tn ([]))) (B := biF kn on)  ) k_X5_thrown ml_L_106 rfl rfl dL_law_770 rfl rfl hl.1 (Nat.le_of_ble_eq_true rfl) ⟨Nat.le_of_ble_eq_true rfl, Nat.le_of_ble_eq_true rfl⟩ ⟨(by show _ ≤ 601024; omega), (by show _ ≤ 7293034; omega)⟩ (fun r W2 H locs hp G => ?_)
    obtain ⟨rfl, hw⟩ := hp
    have G := g_wc hw G
    refine W.eq (g2 := F0 m 773 ls [.int (nI 1)]) rfl ?_
    refine g_topi (x' := 1) rfl ?_
    refine lv_iload hx hb dL_law_773 (lv_at hl 1 rfl) ?_
    refine lv_icmp_eq (tgt := 780) hx hb dL_law_775 (by decide) (fun c_775 => ?_) (fun c_775 => ?_)
    · skip
      refine lv_iload hx hb dL_law_780 (lv_at hl 1 rfl) ?_
      refine lv_if_ne (tgt := 804) hx hb dL_law_782 (by decide) (fun c_782 => ?_) (fun c_782 => ?_)
      · skip
        refine lv_goto (tgt := 1897) hx hb dL_law_804 (by decide) ?_
        have G : gW D (wC ad cy fr bk vw tk to fk fo kp sp lt ib rw cl nu tv tm ta ml tn ((ou, .inl (cy 2, 1, .inr (.inl og))) :: (od, .inl (cy 3, 1, .inr (.inr (.inr (.inl oh))))) :: wM am cy (nI 1) (cS mf mb mv) kp X tn ap le fc f1 f2 (biF kn on) ha ([]))) A s _ _ := g_swMC G
        refine W.widen (k := cells + 8) (n := slots + 400) (by omega) (by omega) ?_
        exact kk _ _ _ ⟨fr, bk, vw, tk, to, fk, fo, kp, sp, lt, ib, rw, cl, nu, tv, tm, ta, ml, tn, mf, mb, mv, kn, on, (nI 1), X, ap, le, fc, f1, f2, ha, og, oh, tx, hF, hT, hR, G⟩ (lv_sub hl [2, 3, 4, 5, 6, 7] rfl)
      · exact absurd c_782 (by decide)
    · exact absurd c_775 (by decide)

set_option maxHeartbeats 4000000 in
set_option maxRecDepth 100000 in
theorem lw_c9 {p : Program} {l : Launch} {e : Env} {s : State} {m : MethodId} {below : List Frame} {meth : Method} {c : Code} {H : Heap} {locs : List Loc} {cells slots : Nat} {Q : State → Prop} {D : va_G} {cy : Nat → ClassId} {A : Nat → Prop} {ad am : Nat → Nat} {ou od b L li : Nat} {xs : Nat → Int32} {ls : Array Slot} (C0 : gC p s m #[.ref b] meth c code 9 (some .boolean) RL D (gts cy) A) (hst : l.stackTraces = false) (hXs : va_X b L xs s s.heap) (hbl : b < s.heap.size) (hbA : ¬ A b) (hli : li + 3 < L) (hL : L ≤ 2048) (hce : cells + 8 ≤ 601024) (hsl : slots + 400 ≤ 7293034) (I : lwI D A s cy ad am ou od H locs) (hl : lv_has ls 9 [(0, .ref b), (1, .ref (ad 0)), (2, .ref (am 0)), (3, .ref ou), (4, .ref od), (5, .int (nI li))])
    (kk : ∀ (H : Heap) (locs : List Loc) (ls : Array Slot), lwI D A s cy ad am ou od H locs → lv_has ls 9 [(0, .ref b), (1, .ref (ad 0)), (2, .ref (am 0)), (3, .ref ou), (4, .ref od), (5, .int (nI li))] → W p l e room_1 s m #[.ref b] below meth c H locs (cells + 8) (slots + 400) Q (F0 m 1897 ls [])) : W p l e room_1 s m #[.ref b] below meth c H locs cells slots Q (F0 m 807 ls []) := by
  obtain ⟨fr, bk, vw, tk, to, fk, fo, kp, sp, lt, ib, rw, cl, nu, tv, tm, ta, ml, tn, mf, mb, mv, kn, on, th, X, ap, le, fc, f1, f2, ha, og, oh, tx, hF, hT, hR, G⟩ := I
  have hx := C0.1
  have hb := C0.2.1
  have hown := C0.2.2.2.2.2.1
  have hts := C0.2.2.2.2.2.2.1
  have hRs : rsOk (0, lt, ib, rw, cl, nu) := ⟨by show 0 < 9; decide, hR.2⟩
  have hkp := hF.1
  have h60 := hT.2.2.1
  have htm := hT.1
  obtain ⟨p0, hp0⟩ : ∃ z : Int32, z = xs (li + 1) := ⟨_, rfl⟩
  obtain ⟨p1, hp1⟩ : ∃ z : Int32, z = xs (li + 2) := ⟨_, rfl⟩
  refine lv_aload_n hx hb dL_law_807 rfl (lv_at hl 1 rfl) ?_
  refine lv_aload_n hx hb dL_law_808 rfl (lv_at hl 0 rfl) ?_
  refine lv_iload hx hb dL_law_809 (lv_at hl 5 rfl) ?_
  refine lv_iconst (v := 1) hx hb dL_law_811 (by decide) ?_
  refine lv_iadd hx hb dL_law_812 ?_
  refine g_topi (x' := nI (li + 1)) (nI_add li 1) ?_
  refine va_sld hx hb hXs hbl hbA G.2.2 (vp_in_nI (n := li + 1) (by omega) (by omega)) dL_law_813 ?_
  refine g_topi (x' := p0) (by rw [nI_clamp (n := li + 1) (by omega)]; exact hp0.symm) ?_
  refine lv_aload_n hx hb dL_law_814 rfl (lv_at hl 0 rfl) ?_
  refine lv_iload hx hb dL_law_815 (lv_at hl 5 rfl) ?_
  refine lv_iconst (v := 2) hx hb dL_law_817 (by decide) ?_
  refine lv_iadd hx hb dL_law_818 ?_
  refine g_topi (x' := nI (li + 2)) (nI_add li 2) ?_
  refine va_sld hx hb hXs hbl hbA G.2.2 (vp_in_nI (n := li + 2) (by omega) (by omega)) dL_law_819 ?_
  refine g_topi (x' := p1) (by rw [nI_clamp (n := li + 2) (by omega)]; exact hp1.symm) ?_
  refine lv_aload_n hx hb dL_law_820 rfl (lv_at hl 3 rfl) ?_
  refine g_callH (As := [.ref (ad 0), .int p0, .int p1, .ref ou]) (rest := []) C0 G (c_L_raw l D cy (ad := ad) (fr := fr) (bk := bk) (vw := vw) (tk := tk) (to := to) (fk := fk) (fo := fo) (kp := kp) (sp := sp) (lt := lt) (ib := ib) (rw := rw) (cl := cl) (nu := nu) (tv := tv) (tm := tm) (ta := ta) (ml := ml) (tn := tn) (R := wM am cy th (cS mf mb mv) kp X tn ap le fc f1 f2 (biF kn on) ha ([])) (ou := ou) (od := od) (og := og) (oh := oh) (p0 := p0) (p1 := p1) hst (fun k hk => (hF.2 k (by omega)).2.2.2)) k_L_raw ml_L_135 dL_law_821 rfl rfl hl.1 (Nat.le_of_ble_eq_true rfl) ⟨Nat.le_of_ble_eq_true rfl, Nat.le_of_ble_eq_true rfl⟩ ⟨(by show _ ≤ 601024; omega), (by show _ ≤ 7293034; omega)⟩ (fun r W2 H locs hp G => ?_)
  rcases hp with ⟨k, hk, rfl, i, hi, rfl, rfl, hw⟩ | ⟨rfl, hw, hx9⟩
  · skip
    obtain ⟨eF, eB, eV, hv4⟩ := hF.2 k (by omega)
    have G : gW D (wC ad cy fr bk vw tk to fk fo kp sp lt ib rw cl nu tv tm ta ml tn ((ou, .inl (cy 2, 1, .inr (.inl (vp_updL og 0 (nI (rwN (fr k) (bk k) (vw k) i 8)).toInt64)))) :: (od, .inl (cy 3, 1, .inr (.inr (.inr (.inl oh))))) :: wM am cy th (cS mf mb mv) kp X tn ap le fc f1 f2 (biF kn on) ha ([]))) A s _ _ := g_wc hw G
    refine W.eq (g2 := F0 m 824 ls [.int 0]) rfl ?_
    refine lv_istore (lv' := [(6, .int 0), (0, .ref b), (1, .ref (ad 0)), (2, .ref (am 0)), (3, .ref ou), (4, .ref od), (5, .int (nI li))]) hx hb dL_law_824 hl (by decide) rfl (fun ls hl => ?_)
    refine lv_aload_n hx hb dL_law_826 rfl (lv_at hl 3 rfl) ?_
    refine lv_aload_n hx hb dL_law_827 rfl (lv_at hl 1 rfl) ?_
    refine lv_iload hx hb dL_law_828 (lv_at hl 6 rfl) ?_
    refine lv_iconst (v := 1) hx hb dL_law_830 (by decide) ?_
    refine lv_iadd hx hb dL_law_831 ?_
    refine g_topi (x' := nI (li + 1)) (nI_add li 1) ?_
    refine va_sld hx hb hXs hbl hbA G.2.2 (vp_in_nI (n := li + 1) (by omega) (by omega)) dL_law_832 ?_
    refine g_topi (x' := nI k) (by rw [nI_clamp (n := li + 1) (by omega)]; exact hp0.symm) ?_
    refine lv_aload_n hx hb dL_law_833 rfl (lv_at hl 1 rfl) ?_
    refine lv_iload hx hb dL_law_834 (lv_at hl 6 rfl) ?_
    refine lv_iconst (v := 2) hx hb dL_law_836 (by decide) ?_
    refine lv_iadd hx hb dL_law_837 ?_
    refine g_topi (x' := nI (li + 2)) (nI_add li 2) ?_
    refine va_sld hx hb hXs hbl hbA G.2.2 (vp_in_nI (n := li + 2) (by omega) (by omega)) dL_law_838 ?_
    refine g_topi (x' := nI i) (by rw [nI_clamp (n := li + 2) (by omega)]; exact hp1.symm) ?_
    have G : gW D (wM am cy th (cS mf mb mv) kp X tn ap le fc f1 f2 (biF kn on) ha ((ou, .inl (cy 2, 1, .inr (.inl (vp_updL og 0 (nI (rwN (fr k) (bk k) (vw k) i 8)).toInt64)))) :: (od, .inl (cy 3, 1, .inr (.inr (.inr (.inl oh))))) :: wC ad cy fr bk vw tk to fk fo kp sp lt ib rw cl nu tv tm ta ml tn ([]))) A s _ _ := g_swCM G
    refine g_callV (As := [.int (nI k), .int (nI i)]) (rest := []) (q0 := 0) C0 G (c_X5_raw_ok l D cy (am := am) (mf := mf) (mb := mb) (mv := mv) (th := th) (sv := kp) (X := X) (ln := tn) (ap := ap) (le := le) (fc := fc) (f1 := f1) (f2 := f2) (ha := ha) (R := ((ou, .inl (cy 2, 1, .inr (.inl (vp_updL og 0 (nI (rwN (fr k) (bk k) (vw k) i 8)).toInt64)))) :: (od, .inl (cy 3, 1, .inr (.inr (.inr (.inl oh))))) :: wC ad cy fr bk vw tk to fk fo kp sp lt ib rw cl nu tv tm ta ml tn ([]))) (B := biF kn on) (k := k) (i := i) (by omega) (by omega) (by rw [← eV]; exact hv4)) k_X5_raw ml_L_137 rfl rfl dL_law_839 rfl rfl hl.1 (Nat.le_of_ble_eq_true rfl) ⟨Nat.le_of_ble_eq_true rfl, Nat.le_of_ble_eq_true rfl⟩ ⟨(by show _ ≤ 601024; omega), (by show _ ≤ 7293034; omega)⟩ (fun r W2 H locs hp G => ?_)
    obtain ⟨rfl, hw⟩ := hp
    have G := g_wc hw G
    refine W.eq (g2 := F0 m 842 ls [.int (nI (rwN (mf k) (mb k) (mv k) i 8))]) rfl ?_
    refine lv_istore (lv' := [(7, .int (nI (rwN (mf k) (mb k) (mv k) i 8))), (6, .int 0), (0, .ref b), (1, .ref (ad 0)), (2, .ref (am 0)), (3, .ref ou), (4, .ref od), (5, .int (nI li))]) hx hb dL_law_842 hl (by decide) rfl (fun ls hl => ?_)
    refine lv_aload_n hx hb dL_law_844 rfl (lv_at hl 4 rfl) ?_
    refine g_callV (As := []) (rest := []) (q0 := 0) C0 G (c_X5_thrown l D cy (am := am) (mf := mf) (mb := mb) (mv := mv) (th := nI 0) (sv := kp) (X := X) (ln := tn) (ap := ap) (le := le) (fc := fc) (f1 := f1) (f2 := f2) (ha := ha) (R := ((ou, .inl (cy 2, 1, .inr (.inl (vp_updL og 0 (nI (rwN (fr k) (bk k) (vw k) i 8)).toInt64)))) :: (od, .inl (cy 3, 1, .inr (.inr (.inr (.inl oh))))) :: wC ad cy fr bk vw tk to fk fo kp sp lt ib rw cl nu tv tm ta ml tn ([]))) (B := biF kn on)  ) k_X5_thrown ml_L_106 rfl rfl dL_law_845 rfl rfl hl.1 (Nat.le_of_ble_eq_true rfl) ⟨Nat.le_of_ble_eq_true rfl, Nat.le_of_ble_eq_true rfl⟩ ⟨(by show _ ≤ 601024; omega), (by show _ ≤ 7293034; omega)⟩ (fun r W2 H locs hp G => ?_)
    obtain ⟨rfl, hw⟩ := hp
    have G := g_wc hw G
    refine W.eq (g2 := F0 m 848 ls [.int (nI 0)]) rfl ?_
    refine g_topi (x' := 0) rfl ?_
    refine lv_iload hx hb dL_law_848 (lv_at hl 1 rfl) ?_
    refine lv_icmp_eq (tgt := 855) hx hb dL_law_850 (by decide) (fun c_850 => ?_) (fun c_850 => ?_)
    · skip
      refine lv_iload hx hb dL_law_855 (lv_at hl 1 rfl) ?_
      refine lv_if_ne (tgt := 872) hx hb dL_law_857 (by decide) (fun c_857 => ?_) (fun c_857 => ?_)
      · exact absurd c_857 (by decide)
      · skip
        refine lv_aload_n hx hb dL_law_860 rfl (lv_at hl 5 rfl) ?_
        refine lv_iconst (v := 0) hx hb dL_law_861 (by decide) ?_
        refine g_topi (x' := nI 0) rfl ?_
        refine g_lald (q0 := 4) (n := 1) C0 G rfl 2 rfl (vp_in_nI (n := 0) (by omega) (by decide)) dL_law_862 ?_
        refine g_topl (x' := (vp_updL og 0 (nI (rwN (fr k) (bk k) (vw k) i 8)).toInt64) 0) (congrArg (vp_updL og 0 (nI (rwN (fr k) (bk k) (vw k) i 8)).toInt64) (nI_clamp (n := 0) (by omega))) ?_
        refine g_topl (x' := (nI (rwN (fr k) (bk k) (vw k) i 8)).toInt64) (if_pos rfl) ?_
        refine lv_iload hx hb dL_law_863 (lv_at hl 0 rfl) ?_
        refine lv_i2l hx hb dL_law_865 rfl ?_
        refine W.lcmp hx hb dL_law_866 ?_
        refine lv_if_eq (tgt := 872) hx hb dL_law_867 (by decide) (fun c_867 => ?_) (fun c_867 => ?_)
        · skip
          have c_867 : ((nI (rwN (fr k) (bk k) (vw k) i 8)).toInt64) = ((nI (rwN (mf k) (mb k) (mv k) i 8)).toInt64) := lgc_eq.mp c_867
          refine lv_goto (tgt := 1897) hx hb dL_law_872 (by decide) ?_
          have G : gW D (wC ad cy fr bk vw tk to fk fo kp sp lt ib rw cl nu tv tm ta ml tn ((ou, .inl (cy 2, 1, .inr (.inl (vp_updL og 0 (nI (rwN (fr k) (bk k) (vw k) i 8)).toInt64)))) :: (od, .inl (cy 3, 1, .inr (.inr (.inr (.inl oh))))) :: wM am cy (nI 0) (cS mf mb mv) kp X tn ap le fc f1 f2 (biF kn on) ha ([]))) A s _ _ := g_swMC G
          refine W.widen (k := cells + 8) (n := slots + 400) (by omega) (by omega) ?_
          exact kk _ _ _ ⟨fr, bk, vw, tk, to, fk, fo, kp, sp, lt, ib, rw, cl, nu, tv, tm, ta, ml, tn, mf, mb, mv, kn, on, (nI 0), X, ap, le, fc, f1, f2, ha, (vp_updL og 0 (nI (rwN (fr k) (bk k) (vw k) i 8)).toInt64), oh, tx, hF, hT, hR, G⟩ (lv_sub hl [2, 3, 4, 5, 6, 7] rfl)
        · skip
          have c_867 : ¬ ((nI (rwN (fr k) (bk k) (vw k) i 8)).toInt64) = ((nI (rwN (mf k) (mb k) (mv k) i 8)).toInt64) := fun h => c_867 (lgc_eq.mpr h)
          exact absurd (by first | (simp only [mSv_sa, saU_lo hk, ← eF, ← eB, ← eV]; done) | (simp only [mSv_sa, saU_lo hk, ← eF, ← eB, ← eV]; rfl) | rfl) c_867
    · exact absurd c_850 (by decide)
  · skip
    have G : gW D (wC ad cy fr bk vw tk to fk fo kp sp lt ib rw cl nu tv tm ta ml tn ((ou, .inl (cy 2, 1, .inr (.inl og))) :: (od, .inl (cy 3, 1, .inr (.inr (.inr (.inl oh))))) :: wM am cy th (cS mf mb mv) kp X tn ap le fc f1 f2 (biF kn on) ha ([]))) A s _ _ := g_wc hw G
    refine W.eq (g2 := F0 m 824 ls [.int 1]) rfl ?_
    refine lv_istore (lv' := [(6, .int 1), (0, .ref b), (1, .ref (ad 0)), (2, .ref (am 0)), (3, .ref ou), (4, .ref od), (5, .int (nI li))]) hx hb dL_law_824 hl (by decide) rfl (fun ls hl => ?_)
    refine lv_aload_n hx hb dL_law_826 rfl (lv_at hl 3 rfl) ?_
    refine lv_aload_n hx hb dL_law_827 rfl (lv_at hl 1 rfl) ?_
    refine lv_iload hx hb dL_law_828 (lv_at hl 6 rfl) ?_
    refine lv_iconst (v := 1) hx hb dL_law_830 (by decide) ?_
    refine lv_iadd hx hb dL_law_831 ?_
    refine g_topi (x' := nI (li + 1)) (nI_add li 1) ?_
    refine va_sld hx hb hXs hbl hbA G.2.2 (vp_in_nI (n := li + 1) (by omega) (by omega)) dL_law_832 ?_
    refine g_topi (x' := p0) (by rw [nI_clamp (n := li + 1) (by omega)]; exact hp0.symm) ?_
    refine lv_aload_n hx hb dL_law_833 rfl (lv_at hl 1 rfl) ?_
    refine lv_iload hx hb dL_law_834 (lv_at hl 6 rfl) ?_
    refine lv_iconst (v := 2) hx hb dL_law_836 (by decide) ?_
    refine lv_iadd hx hb dL_law_837 ?_
    refine g_topi (x' := nI (li + 2)) (nI_add li 2) ?_
    refine va_sld hx hb hXs hbl hbA G.2.2 (vp_in_nI (n := li + 2) (by omega) (by omega)) dL_law_838 ?_
    refine g_topi (x' := p1) (by rw [nI_clamp (n := li + 2) (by omega)]; exact hp1.symm) ?_
    have G : gW D (wM am cy th (cS mf mb mv) kp X tn ap le fc f1 f2 (biF kn on) ha ((ou, .inl (cy 2, 1, .inr (.inl og))) :: (od, .inl (cy 3, 1, .inr (.inr (.inr (.inl oh))))) :: wC ad cy fr bk vw tk to fk fo kp sp lt ib rw cl nu tv tm ta ml tn ([]))) A s _ _ := g_swCM G
    refine g_callV (As := [.int p0, .int p1]) (rest := []) (q0 := 0) C0 G (c_X5_raw_e1 l D cy (am := am) (mf := mf) (mb := mb) (mv := mv) (th := th) (sv := kp) (X := X) (ln := tn) (ap := ap) (le := le) (fc := fc) (f1 := f1) (f2 := f2) (ha := ha) (R := ((ou, .inl (cy 2, 1, .inr (.inl og))) :: (od, .inl (cy 3, 1, .inr (.inr (.inr (.inl oh))))) :: wC ad cy fr bk vw tk to fk fo kp sp lt ib rw cl nu tv tm ta ml tn ([]))) (B := biF kn on) (p0 := p0) (p1 := p1) (by rw [inB_ir (x := p0) (n := 2) (hi := 2) rfl (by decide), inB_ir (x := p1) (n := 7) (hi := 7) rfl (by decide)]; exact hx9)) k_X5_raw ml_L_137 rfl rfl dL_law_839 rfl rfl hl.1 (Nat.le_of_ble_eq_true rfl) ⟨Nat.le_of_ble_eq_true rfl, Nat.le_of_ble_eq_true rfl⟩ ⟨(by show _ ≤ 601024; omega), (by show _ ≤ 7293034; omega)⟩ (fun r W2 H locs hp G => ?_)
    obtain ⟨rfl, hw⟩ := hp
    have G := g_wc hw G
    refine W.eq (g2 := F0 m 842 ls [.int 0]) rfl ?_
    refine lv_istore (lv' := [(7, .int 0), (6, .int 1), (0, .ref b), (1, .ref (ad 0)), (2, .ref (am 0)), (3, .ref ou), (4, .ref od), (5, .int (nI li))]) hx hb dL_law_842 hl (by decide) rfl (fun ls hl => ?_)
    refine lv_aload_n hx hb dL_law_844 rfl (lv_at hl 4 rfl) ?_
    refine g_callV (As := []) (rest := []) (q0 := 0) C0 G (c_X5_thrown l D cy (am := am) (mf := mf) (mb := mb) (mv := mv) (th := nI 1) (sv := kp) (X := X) (ln := tn) (ap := ap) (le := le) (fc := fc) (f1 := f1) (f2 := f2) (ha := ha) (R := ((ou, .inl (cy 2, 1, .inr (.inl og))) :: (od, .inl (cy 3, 1, .inr (.inr (.inr (.inl oh))))) :: wC ad cy fr bk vw tk to fk fo kp sp lt ib rw cl nu tv tm ta ml tn ([]))) (B := biF kn on)  ) k_X5_thrown ml_L_106 rfl rfl dL_law_845 rfl rfl hl.1 (Nat.le_of_ble_eq_true rfl) ⟨Nat.le_of_ble_eq_true rfl, Nat.le_of_ble_eq_true rfl⟩ ⟨(by show _ ≤ 601024; omega), (by show _ ≤ 7293034; omega)⟩ (fun r W2 H locs hp G => ?_)
    obtain ⟨rfl, hw⟩ := hp
    have G := g_wc hw G
    refine W.eq (g2 := F0 m 848 ls [.int (nI 1)]) rfl ?_
    refine g_topi (x' := 1) rfl ?_
    refine lv_iload hx hb dL_law_848 (lv_at hl 1 rfl) ?_
    refine lv_icmp_eq (tgt := 855) hx hb dL_law_850 (by decide) (fun c_850 => ?_) (fun c_850 => ?_)
    · skip
      refine lv_iload hx hb dL_law_855 (lv_at hl 1 rfl) ?_
      refine lv_if_ne (tgt := 872) hx hb dL_law_857 (by decide) (fun c_857 => ?_) (fun c_857 => ?_)
      · skip
        refine lv_goto (tgt := 1897) hx hb dL_law_872 (by decide) ?_
        have G : gW D (wC ad cy fr bk vw tk to fk fo kp sp lt ib rw cl nu tv tm ta ml tn ((ou, .inl (cy 2, 1, .inr (.inl og))) :: (od, .inl (cy 3, 1, .inr (.inr (.inr (.inl oh))))) :: wM am cy (nI 1) (cS mf mb mv) kp X tn ap le fc f1 f2 (biF kn on) ha ([]))) A s _ _ := g_swMC G
        refine W.widen (k := cells + 8) (n := slots + 400) (by omega) (by omega) ?_
        exact kk _ _ _ ⟨fr, bk, vw, tk, to, fk, fo, kp, sp, lt, ib, rw, cl, nu, tv, tm, ta, ml, tn, mf, mb, mv, kn, on, (nI 1), X, ap, le, fc, f1, f2, ha, og, oh, tx, hF, hT, hR, G⟩ (lv_sub hl [2, 3, 4, 5, 6, 7] rfl)
      · exact absurd c_857 (by decide)
    · exact absurd c_850 (by decide)

set_option maxHeartbeats 4000000 in
set_option maxRecDepth 100000 in
theorem lw_c10 {p : Program} {l : Launch} {e : Env} {s : State} {m : MethodId} {below : List Frame} {meth : Method} {c : Code} {H : Heap} {locs : List Loc} {cells slots : Nat} {Q : State → Prop} {D : va_G} {cy : Nat → ClassId} {A : Nat → Prop} {ad am : Nat → Nat} {ou od b L li : Nat} {xs : Nat → Int32} {ls : Array Slot} (C0 : gC p s m #[.ref b] meth c code 9 (some .boolean) RL D (gts cy) A) (hst : l.stackTraces = false) (hXs : va_X b L xs s s.heap) (hbl : b < s.heap.size) (hbA : ¬ A b) (hli : li + 3 < L) (hL : L ≤ 2048) (hce : cells + 8 ≤ 601024) (hsl : slots + 400 ≤ 7293034) (I : lwI D A s cy ad am ou od H locs) (hl : lv_has ls 9 [(0, .ref b), (1, .ref (ad 0)), (2, .ref (am 0)), (3, .ref ou), (4, .ref od), (5, .int (nI li))])
    (kk : ∀ (H : Heap) (locs : List Loc) (ls : Array Slot), lwI D A s cy ad am ou od H locs → lv_has ls 9 [(0, .ref b), (1, .ref (ad 0)), (2, .ref (am 0)), (3, .ref ou), (4, .ref od), (5, .int (nI li))] → W p l e room_1 s m #[.ref b] below meth c H locs (cells + 8) (slots + 400) Q (F0 m 1897 ls [])) : W p l e room_1 s m #[.ref b] below meth c H locs cells slots Q (F0 m 875 ls []) := by
  obtain ⟨fr, bk, vw, tk, to, fk, fo, kp, sp, lt, ib, rw, cl, nu, tv, tm, ta, ml, tn, mf, mb, mv, kn, on, th, X, ap, le, fc, f1, f2, ha, og, oh, tx, hF, hT, hR, G⟩ := I
  have hx := C0.1
  have hb := C0.2.1
  have hown := C0.2.2.2.2.2.1
  have hts := C0.2.2.2.2.2.2.1
  have hRs : rsOk (0, lt, ib, rw, cl, nu) := ⟨by show 0 < 9; decide, hR.2⟩
  have hkp := hF.1
  have h60 := hT.2.2.1
  have htm := hT.1
  obtain ⟨p0, hp0⟩ : ∃ z : Int32, z = xs (li + 1) := ⟨_, rfl⟩
  obtain ⟨p1, hp1⟩ : ∃ z : Int32, z = xs (li + 2) := ⟨_, rfl⟩
  obtain ⟨p2, hp2⟩ : ∃ z : Int32, z = xs (li + 3) := ⟨_, rfl⟩
  refine lv_aload_n hx hb dL_law_875 rfl (lv_at hl 1 rfl) ?_
  refine lv_aload_n hx hb dL_law_876 rfl (lv_at hl 0 rfl) ?_
  refine lv_iload hx hb dL_law_877 (lv_at hl 5 rfl) ?_
  refine lv_iconst (v := 1) hx hb dL_law_879 (by decide) ?_
  refine lv_iadd hx hb dL_law_880 ?_
  refine g_topi (x' := nI (li + 1)) (nI_add li 1) ?_
  refine va_sld hx hb hXs hbl hbA G.2.2 (vp_in_nI (n := li + 1) (by omega) (by omega)) dL_law_881 ?_
  refine g_topi (x' := p0) (by rw [nI_clamp (n := li + 1) (by omega)]; exact hp0.symm) ?_
  refine lv_aload_n hx hb dL_law_882 rfl (lv_at hl 0 rfl) ?_
  refine lv_iload hx hb dL_law_883 (lv_at hl 5 rfl) ?_
  refine lv_iconst (v := 2) hx hb dL_law_885 (by decide) ?_
  refine lv_iadd hx hb dL_law_886 ?_
  refine g_topi (x' := nI (li + 2)) (nI_add li 2) ?_
  refine va_sld hx hb hXs hbl hbA G.2.2 (vp_in_nI (n := li + 2) (by omega) (by omega)) dL_law_887 ?_
  refine g_topi (x' := p1) (by rw [nI_clamp (n := li + 2) (by omega)]; exact hp1.symm) ?_
  refine lv_aload_n hx hb dL_law_888 rfl (lv_at hl 0 rfl) ?_
  refine lv_iload hx hb dL_law_889 (lv_at hl 5 rfl) ?_
  refine lv_iconst (v := 3) hx hb dL_law_891 (by decide) ?_
  refine lv_iadd hx hb dL_law_892 ?_
  refine g_topi (x' := nI (li + 3)) (nI_add li 3) ?_
  refine va_sld hx hb hXs hbl hbA G.2.2 (vp_in_nI (n := li + 3) (by omega) (by omega)) dL_law_893 ?_
  refine g_topi (x' := p2) (by rw [nI_clamp (n := li + 3) (by omega)]; exact hp2.symm) ?_
  refine lv_aload_n hx hb dL_law_894 rfl (lv_at hl 3 rfl) ?_
  refine g_callH (As := [.ref (ad 0), .int p0, .int p1, .int p2, .ref ou]) (rest := []) C0 G (c_L_kind l D cy (ad := ad) (fr := fr) (bk := bk) (vw := vw) (tk := tk) (to := to) (fk := fk) (fo := fo) (kp := kp) (sp := sp) (lt := lt) (ib := ib) (rw := rw) (cl := cl) (nu := nu) (tv := tv) (tm := tm) (ta := ta) (ml := ml) (tn := tn) (R := wM am cy th (cS mf mb mv) kp X tn ap le fc f1 f2 (biF kn on) ha ([])) (ou := ou) (od := od) (og := og) (oh := oh) (p0 := p0) (p1 := p1) (p2 := p2) hst) k_L_kind ml_L_138 dL_law_895 rfl rfl hl.1 (Nat.le_of_ble_eq_true rfl) ⟨Nat.le_of_ble_eq_true rfl, Nat.le_of_ble_eq_true rfl⟩ ⟨(by show _ ≤ 601024; omega), (by show _ ≤ 7293034; omega)⟩ (fun r W2 H locs hp G => ?_)
  rcases hp with ⟨k, hk, rfl, i, hi, rfl, j, hj, rfl, rfl, hw⟩ | ⟨rfl, hw, hx9⟩
  · skip
    obtain ⟨eF, eB, eV, hv4⟩ := hF.2 k (by omega)
    have G : gW D (wC ad cy fr bk vw tk to fk fo kp sp lt ib rw cl nu tv tm ta ml tn ((ou, .inl (cy 2, 1, .inr (.inl (vp_updL og 0 (kdI (fr k) (bk k) (8 * i + j)).toInt64)))) :: (od, .inl (cy 3, 1, .inr (.inr (.inr (.inl oh))))) :: wM am cy th (cS mf mb mv) kp X tn ap le fc f1 f2 (biF kn on) ha ([]))) A s _ _ := g_wc hw G
    refine W.eq (g2 := F0 m 898 ls [.int 0]) rfl ?_
    refine lv_istore (lv' := [(6, .int 0), (0, .ref b), (1, .ref (ad 0)), (2, .ref (am 0)), (3, .ref ou), (4, .ref od), (5, .int (nI li))]) hx hb dL_law_898 hl (by decide) rfl (fun ls hl => ?_)
    refine lv_aload_n hx hb dL_law_900 rfl (lv_at hl 3 rfl) ?_
    refine lv_aload_n hx hb dL_law_901 rfl (lv_at hl 1 rfl) ?_
    refine lv_iload hx hb dL_law_902 (lv_at hl 6 rfl) ?_
    refine lv_iconst (v := 1) hx hb dL_law_904 (by decide) ?_
    refine lv_iadd hx hb dL_law_905 ?_
    refine g_topi (x' := nI (li + 1)) (nI_add li 1) ?_
    refine va_sld hx hb hXs hbl hbA G.2.2 (vp_in_nI (n := li + 1) (by omega) (by omega)) dL_law_906 ?_
    refine g_topi (x' := nI k) (by rw [nI_clamp (n := li + 1) (by omega)]; exact hp0.symm) ?_
    refine lv_aload_n hx hb dL_law_907 rfl (lv_at hl 1 rfl) ?_
    refine lv_iload hx hb dL_law_908 (lv_at hl 6 rfl) ?_
    refine lv_iconst (v := 2) hx hb dL_law_910 (by decide) ?_
    refine lv_iadd hx hb dL_law_911 ?_
    refine g_topi (x' := nI (li + 2)) (nI_add li 2) ?_
    refine va_sld hx hb hXs hbl hbA G.2.2 (vp_in_nI (n := li + 2) (by omega) (by omega)) dL_law_912 ?_
    refine g_topi (x' := nI i) (by rw [nI_clamp (n := li + 2) (by omega)]; exact hp1.symm) ?_
    refine lv_aload_n hx hb dL_law_913 rfl (lv_at hl 1 rfl) ?_
    refine lv_iload hx hb dL_law_914 (lv_at hl 6 rfl) ?_
    refine lv_iconst (v := 3) hx hb dL_law_916 (by decide) ?_
    refine lv_iadd hx hb dL_law_917 ?_
    refine g_topi (x' := nI (li + 3)) (nI_add li 3) ?_
    refine va_sld hx hb hXs hbl hbA G.2.2 (vp_in_nI (n := li + 3) (by omega) (by omega)) dL_law_918 ?_
    refine g_topi (x' := nI j) (by rw [nI_clamp (n := li + 3) (by omega)]; exact hp2.symm) ?_
    have G : gW D (wM am cy th (cS mf mb mv) kp X tn ap le fc f1 f2 (biF kn on) ha ((ou, .inl (cy 2, 1, .inr (.inl (vp_updL og 0 (kdI (fr k) (bk k) (8 * i + j)).toInt64)))) :: (od, .inl (cy 3, 1, .inr (.inr (.inr (.inl oh))))) :: wC ad cy fr bk vw tk to fk fo kp sp lt ib rw cl nu tv tm ta ml tn ([]))) A s _ _ := g_swCM G
    refine g_callV (As := [.int (nI k), .int (nI i), .int (nI j)]) (rest := []) (q0 := 0) C0 G (c_X5_kind_ok l D cy (am := am) (mf := mf) (mb := mb) (mv := mv) (th := th) (sv := kp) (X := X) (ln := tn) (ap := ap) (le := le) (fc := fc) (f1 := f1) (f2 := f2) (ha := ha) (R := ((ou, .inl (cy 2, 1, .inr (.inl (vp_updL og 0 (kdI (fr k) (bk k) (8 * i + j)).toInt64)))) :: (od, .inl (cy 3, 1, .inr (.inr (.inr (.inl oh))))) :: wC ad cy fr bk vw tk to fk fo kp sp lt ib rw cl nu tv tm ta ml tn ([]))) (B := biF kn on) (k := k) (i := i) (j := j) (by omega) (by omega) (by omega)) k_X5_kind ml_L_140 rfl rfl dL_law_919 rfl rfl hl.1 (Nat.le_of_ble_eq_true rfl) ⟨Nat.le_of_ble_eq_true rfl, Nat.le_of_ble_eq_true rfl⟩ ⟨(by show _ ≤ 601024; omega), (by show _ ≤ 7293034; omega)⟩ (fun r W2 H locs hp G => ?_)
    obtain ⟨rfl, hw⟩ := hp
    have G := g_wc hw G
    refine W.eq (g2 := F0 m 922 ls [.int (kdI (mf k) (mb k) ((8 * i) + j))]) rfl ?_
    refine lv_istore (lv' := [(7, .int (kdI (mf k) (mb k) ((8 * i) + j))), (6, .int 0), (0, .ref b), (1, .ref (ad 0)), (2, .ref (am 0)), (3, .ref ou), (4, .ref od), (5, .int (nI li))]) hx hb dL_law_922 hl (by decide) rfl (fun ls hl => ?_)
    refine lv_aload_n hx hb dL_law_924 rfl (lv_at hl 4 rfl) ?_
    refine g_callV (As := []) (rest := []) (q0 := 0) C0 G (c_X5_thrown l D cy (am := am) (mf := mf) (mb := mb) (mv := mv) (th := nI 0) (sv := kp) (X := X) (ln := tn) (ap := ap) (le := le) (fc := fc) (f1 := f1) (f2 := f2) (ha := ha) (R := ((ou, .inl (cy 2, 1, .inr (.inl (vp_updL og 0 (kdI (fr k) (bk k) (8 * i + j)).toInt64)))) :: (od, .inl (cy 3, 1, .inr (.inr (.inr (.inl oh))))) :: wC ad cy fr bk vw tk to fk fo kp sp lt ib rw cl nu tv tm ta ml tn ([]))) (B := biF kn on)  ) k_X5_thrown ml_L_106 rfl rfl dL_law_925 rfl rfl hl.1 (Nat.le_of_ble_eq_true rfl) ⟨Nat.le_of_ble_eq_true rfl, Nat.le_of_ble_eq_true rfl⟩ ⟨(by show _ ≤ 601024; omega), (by show _ ≤ 7293034; omega)⟩ (fun r W2 H locs hp G => ?_)
    obtain ⟨rfl, hw⟩ := hp
    have G := g_wc hw G
    refine W.eq (g2 := F0 m 928 ls [.int (nI 0)]) rfl ?_
    refine g_topi (x' := 0) rfl ?_
    refine lv_iload hx hb dL_law_928 (lv_at hl 1 rfl) ?_
    refine lv_icmp_eq (tgt := 935) hx hb dL_law_930 (by decide) (fun c_930 => ?_) (fun c_930 => ?_)
    · skip
      refine lv_iload hx hb dL_law_935 (lv_at hl 1 rfl) ?_
      refine lv_if_ne (tgt := 952) hx hb dL_law_937 (by decide) (fun c_937 => ?_) (fun c_937 => ?_)
      · exact absurd c_937 (by decide)
      · skip
        refine lv_aload_n hx hb dL_law_940 rfl (lv_at hl 5 rfl) ?_
        refine lv_iconst (v := 0) hx hb dL_law_941 (by decide) ?_
        refine g_topi (x' := nI 0) rfl ?_
        refine g_lald (q0 := 4) (n := 1) C0 G rfl 2 rfl (vp_in_nI (n := 0) (by omega) (by decide)) dL_law_942 ?_
        refine g_topl (x' := (vp_updL og 0 (kdI (fr k) (bk k) (8 * i + j)).toInt64) 0) (congrArg (vp_updL og 0 (kdI (fr k) (bk k) (8 * i + j)).toInt64) (nI_clamp (n := 0) (by omega))) ?_
        refine g_topl (x' := (kdI (fr k) (bk k) (8 * i + j)).toInt64) (if_pos rfl) ?_
        refine lv_iload hx hb dL_law_943 (lv_at hl 0 rfl) ?_
        refine lv_i2l hx hb dL_law_945 rfl ?_
        refine W.lcmp hx hb dL_law_946 ?_
        refine lv_if_eq (tgt := 952) hx hb dL_law_947 (by decide) (fun c_947 => ?_) (fun c_947 => ?_)
        · skip
          have c_947 : ((kdI (fr k) (bk k) (8 * i + j)).toInt64) = ((kdI (mf k) (mb k) ((8 * i) + j)).toInt64) := lgc_eq.mp c_947
          refine lv_goto (tgt := 1897) hx hb dL_law_952 (by decide) ?_
          have G : gW D (wC ad cy fr bk vw tk to fk fo kp sp lt ib rw cl nu tv tm ta ml tn ((ou, .inl (cy 2, 1, .inr (.inl (vp_updL og 0 (kdI (fr k) (bk k) (8 * i + j)).toInt64)))) :: (od, .inl (cy 3, 1, .inr (.inr (.inr (.inl oh))))) :: wM am cy (nI 0) (cS mf mb mv) kp X tn ap le fc f1 f2 (biF kn on) ha ([]))) A s _ _ := g_swMC G
          refine W.widen (k := cells + 8) (n := slots + 400) (by omega) (by omega) ?_
          exact kk _ _ _ ⟨fr, bk, vw, tk, to, fk, fo, kp, sp, lt, ib, rw, cl, nu, tv, tm, ta, ml, tn, mf, mb, mv, kn, on, (nI 0), X, ap, le, fc, f1, f2, ha, (vp_updL og 0 (kdI (fr k) (bk k) (8 * i + j)).toInt64), oh, tx, hF, hT, hR, G⟩ (lv_sub hl [2, 3, 4, 5, 6, 7] rfl)
        · skip
          have c_947 : ¬ ((kdI (fr k) (bk k) (8 * i + j)).toInt64) = ((kdI (mf k) (mb k) ((8 * i) + j)).toInt64) := fun h => c_947 (lgc_eq.mpr h)
          exact absurd (by first | (simp only [mSv_sa, saU_lo hk, ← eF, ← eB, ← eV]; done) | (simp only [mSv_sa, saU_lo hk, ← eF, ← eB, ← eV]; rfl) | rfl) c_947
    · exact absurd c_930 (by decide)
  · skip
    have G : gW D (wC ad cy fr bk vw tk to fk fo kp sp lt ib rw cl nu tv tm ta ml tn ((ou, .inl (cy 2, 1, .inr (.inl og))) :: (od, .inl (cy 3, 1, .inr (.inr (.inr (.inl oh))))) :: wM am cy th (cS mf mb mv) kp X tn ap le fc f1 f2 (biF kn on) ha ([]))) A s _ _ := g_wc hw G
    refine W.eq (g2 := F0 m 898 ls [.int 1]) rfl ?_
    refine lv_istore (lv' := [(6, .int 1), (0, .ref b), (1, .ref (ad 0)), (2, .ref (am 0)), (3, .ref ou), (4, .ref od), (5, .int (nI li))]) hx hb dL_law_898 hl (by decide) rfl (fun ls hl => ?_)
    refine lv_aload_n hx hb dL_law_900 rfl (lv_at hl 3 rfl) ?_
    refine lv_aload_n hx hb dL_law_901 rfl (lv_at hl 1 rfl) ?_
    refine lv_iload hx hb dL_law_902 (lv_at hl 6 rfl) ?_
    refine lv_iconst (v := 1) hx hb dL_law_904 (by decide) ?_
    refine lv_iadd hx hb dL_law_905 ?_
    refine g_topi (x' := nI (li + 1)) (nI_add li 1) ?_
    refine va_sld hx hb hXs hbl hbA G.2.2 (vp_in_nI (n := li + 1) (by omega) (by omega)) dL_law_906 ?_
    refine g_topi (x' := p0) (by rw [nI_clamp (n := li + 1) (by omega)]; exact hp0.symm) ?_
    refine lv_aload_n hx hb dL_law_907 rfl (lv_at hl 1 rfl) ?_
    refine lv_iload hx hb dL_law_908 (lv_at hl 6 rfl) ?_
    refine lv_iconst (v := 2) hx hb dL_law_910 (by decide) ?_
    refine lv_iadd hx hb dL_law_911 ?_
    refine g_topi (x' := nI (li + 2)) (nI_add li 2) ?_
    refine va_sld hx hb hXs hbl hbA G.2.2 (vp_in_nI (n := li + 2) (by omega) (by omega)) dL_law_912 ?_
    refine g_topi (x' := p1) (by rw [nI_clamp (n := li + 2) (by omega)]; exact hp1.symm) ?_
    refine lv_aload_n hx hb dL_law_913 rfl (lv_at hl 1 rfl) ?_
    refine lv_iload hx hb dL_law_914 (lv_at hl 6 rfl) ?_
    refine lv_iconst (v := 3) hx hb dL_law_916 (by decide) ?_
    refine lv_iadd hx hb dL_law_917 ?_
    refine g_topi (x' := nI (li + 3)) (nI_add li 3) ?_
    refine va_sld hx hb hXs hbl hbA G.2.2 (vp_in_nI (n := li + 3) (by omega) (by omega)) dL_law_918 ?_
    refine g_topi (x' := p2) (by rw [nI_clamp (n := li + 3) (by omega)]; exact hp2.symm) ?_
    have G : gW D (wM am cy th (cS mf mb mv) kp X tn ap le fc f1 f2 (biF kn on) ha ((ou, .inl (cy 2, 1, .inr (.inl og))) :: (od, .inl (cy 3, 1, .inr (.inr (.inr (.inl oh))))) :: wC ad cy fr bk vw tk to fk fo kp sp lt ib rw cl nu tv tm ta ml tn ([]))) A s _ _ := g_swCM G
    refine g_callV (As := [.int p0, .int p1, .int p2]) (rest := []) (q0 := 0) C0 G (c_X5_kind_e1 l D cy (am := am) (mf := mf) (mb := mb) (mv := mv) (th := th) (sv := kp) (X := X) (ln := tn) (ap := ap) (le := le) (fc := fc) (f1 := f1) (f2 := f2) (ha := ha) (R := ((ou, .inl (cy 2, 1, .inr (.inl og))) :: (od, .inl (cy 3, 1, .inr (.inr (.inr (.inl oh))))) :: wC ad cy fr bk vw tk to fk fo kp sp lt ib rw cl nu tv tm ta ml tn ([]))) (B := biF kn on) (p0 := p0) (p1 := p1) (p2 := p2) (by rw [inB_ir (x := p0) (n := 2) (hi := 2) rfl (by decide), inB_ir (x := p1) (n := 7) (hi := 7) rfl (by decide), inB_ir (x := p2) (n := 7) (hi := 7) rfl (by decide), ← Bool.and_assoc]; exact hx9)) k_X5_kind ml_L_140 rfl rfl dL_law_919 rfl rfl hl.1 (Nat.le_of_ble_eq_true rfl) ⟨Nat.le_of_ble_eq_true rfl, Nat.le_of_ble_eq_true rfl⟩ ⟨(by show _ ≤ 601024; omega), (by show _ ≤ 7293034; omega)⟩ (fun r W2 H locs hp G => ?_)
    obtain ⟨rfl, hw⟩ := hp
    have G := g_wc hw G
    refine W.eq (g2 := F0 m 922 ls [.int 0]) rfl ?_
    refine lv_istore (lv' := [(7, .int 0), (6, .int 1), (0, .ref b), (1, .ref (ad 0)), (2, .ref (am 0)), (3, .ref ou), (4, .ref od), (5, .int (nI li))]) hx hb dL_law_922 hl (by decide) rfl (fun ls hl => ?_)
    refine lv_aload_n hx hb dL_law_924 rfl (lv_at hl 4 rfl) ?_
    refine g_callV (As := []) (rest := []) (q0 := 0) C0 G (c_X5_thrown l D cy (am := am) (mf := mf) (mb := mb) (mv := mv) (th := nI 1) (sv := kp) (X := X) (ln := tn) (ap := ap) (le := le) (fc := fc) (f1 := f1) (f2 := f2) (ha := ha) (R := ((ou, .inl (cy 2, 1, .inr (.inl og))) :: (od, .inl (cy 3, 1, .inr (.inr (.inr (.inl oh))))) :: wC ad cy fr bk vw tk to fk fo kp sp lt ib rw cl nu tv tm ta ml tn ([]))) (B := biF kn on)  ) k_X5_thrown ml_L_106 rfl rfl dL_law_925 rfl rfl hl.1 (Nat.le_of_ble_eq_true rfl) ⟨Nat.le_of_ble_eq_true rfl, Nat.le_of_ble_eq_true rfl⟩ ⟨(by show _ ≤ 601024; omega), (by show _ ≤ 7293034; omega)⟩ (fun r W2 H locs hp G => ?_)
    obtain ⟨rfl, hw⟩ := hp
    have G := g_wc hw G
    refine W.eq (g2 := F0 m 928 ls [.int (nI 1)]) rfl ?_
    refine g_topi (x' := 1) rfl ?_
    refine lv_iload hx hb dL_law_928 (lv_at hl 1 rfl) ?_
    refine lv_icmp_eq (tgt := 935) hx hb dL_law_930 (by decide) (fun c_930 => ?_) (fun c_930 => ?_)
    · skip
      refine lv_iload hx hb dL_law_935 (lv_at hl 1 rfl) ?_
      refine lv_if_ne (tgt := 952) hx hb dL_law_937 (by decide) (fun c_937 => ?_) (fun c_937 => ?_)
      · skip
        refine lv_goto (tgt := 1897) hx hb dL_law_952 (by decide) ?_
        have G : gW D (wC ad cy fr bk vw tk to fk fo kp sp lt ib rw cl nu tv tm ta ml tn ((ou, .inl (cy 2, 1, .inr (.inl og))) :: (od, .inl (cy 3, 1, .inr (.inr (.inr (.inl oh))))) :: wM am cy (nI 1) (cS mf mb mv) kp X tn ap le fc f1 f2 (biF kn on) ha ([]))) A s _ _ := g_swMC G
        refine W.widen (k := cells + 8) (n := slots + 400) (by omega) (by omega) ?_
        exact kk _ _ _ ⟨fr, bk, vw, tk, to, fk, fo, kp, sp, lt, ib, rw, cl, nu, tv, tm, ta, ml, tn, mf, mb, mv, kn, on, (nI 1), X, ap, le, fc, f1, f2, ha, og, oh, tx, hF, hT, hR, G⟩ (lv_sub hl [2, 3, 4, 5, 6, 7] rfl)
      · exact absurd c_937 (by decide)
    · exact absurd c_930 (by decide)

set_option maxHeartbeats 4000000 in
set_option maxRecDepth 100000 in
theorem lw_c11 {p : Program} {l : Launch} {e : Env} {s : State} {m : MethodId} {below : List Frame} {meth : Method} {c : Code} {H : Heap} {locs : List Loc} {cells slots : Nat} {Q : State → Prop} {D : va_G} {cy : Nat → ClassId} {A : Nat → Prop} {ad am : Nat → Nat} {ou od b L li : Nat} {xs : Nat → Int32} {ls : Array Slot} (C0 : gC p s m #[.ref b] meth c code 9 (some .boolean) RL D (gts cy) A) (hst : l.stackTraces = false) (hXs : va_X b L xs s s.heap) (hbl : b < s.heap.size) (hbA : ¬ A b) (hli : li + 3 < L) (hL : L ≤ 2048) (hce : cells + 8 ≤ 601024) (hsl : slots + 400 ≤ 7293034) (I : lwI D A s cy ad am ou od H locs) (hl : lv_has ls 9 [(0, .ref b), (1, .ref (ad 0)), (2, .ref (am 0)), (3, .ref ou), (4, .ref od), (5, .int (nI li))])
    (kk : ∀ (H : Heap) (locs : List Loc) (ls : Array Slot), lwI D A s cy ad am ou od H locs → lv_has ls 9 [(0, .ref b), (1, .ref (ad 0)), (2, .ref (am 0)), (3, .ref ou), (4, .ref od), (5, .int (nI li))] → W p l e room_1 s m #[.ref b] below meth c H locs (cells + 8) (slots + 400) Q (F0 m 1897 ls [])) : W p l e room_1 s m #[.ref b] below meth c H locs cells slots Q (F0 m 955 ls []) := by
  obtain ⟨fr, bk, vw, tk, to, fk, fo, kp, sp, lt, ib, rw, cl, nu, tv, tm, ta, ml, tn, mf, mb, mv, kn, on, th, X, ap, le, fc, f1, f2, ha, og, oh, tx, hF, hT, hR, G⟩ := I
  have hx := C0.1
  have hb := C0.2.1
  have hown := C0.2.2.2.2.2.1
  have hts := C0.2.2.2.2.2.2.1
  have hRs : rsOk (0, lt, ib, rw, cl, nu) := ⟨by show 0 < 9; decide, hR.2⟩
  have hkp := hF.1
  have h60 := hT.2.2.1
  have htm := hT.1
  obtain ⟨p0, hp0⟩ : ∃ z : Int32, z = xs (li + 1) := ⟨_, rfl⟩
  obtain ⟨p1, hp1⟩ : ∃ z : Int32, z = xs (li + 2) := ⟨_, rfl⟩
  obtain ⟨p2, hp2⟩ : ∃ z : Int32, z = xs (li + 3) := ⟨_, rfl⟩
  refine lv_aload_n hx hb dL_law_955 rfl (lv_at hl 1 rfl) ?_
  refine lv_aload_n hx hb dL_law_956 rfl (lv_at hl 0 rfl) ?_
  refine lv_iload hx hb dL_law_957 (lv_at hl 5 rfl) ?_
  refine lv_iconst (v := 1) hx hb dL_law_959 (by decide) ?_
  refine lv_iadd hx hb dL_law_960 ?_
  refine g_topi (x' := nI (li + 1)) (nI_add li 1) ?_
  refine va_sld hx hb hXs hbl hbA G.2.2 (vp_in_nI (n := li + 1) (by omega) (by omega)) dL_law_961 ?_
  refine g_topi (x' := p0) (by rw [nI_clamp (n := li + 1) (by omega)]; exact hp0.symm) ?_
  refine lv_aload_n hx hb dL_law_962 rfl (lv_at hl 0 rfl) ?_
  refine lv_iload hx hb dL_law_963 (lv_at hl 5 rfl) ?_
  refine lv_iconst (v := 2) hx hb dL_law_965 (by decide) ?_
  refine lv_iadd hx hb dL_law_966 ?_
  refine g_topi (x' := nI (li + 2)) (nI_add li 2) ?_
  refine va_sld hx hb hXs hbl hbA G.2.2 (vp_in_nI (n := li + 2) (by omega) (by omega)) dL_law_967 ?_
  refine g_topi (x' := p1) (by rw [nI_clamp (n := li + 2) (by omega)]; exact hp1.symm) ?_
  refine lv_aload_n hx hb dL_law_968 rfl (lv_at hl 0 rfl) ?_
  refine lv_iload hx hb dL_law_969 (lv_at hl 5 rfl) ?_
  refine lv_iconst (v := 3) hx hb dL_law_971 (by decide) ?_
  refine lv_iadd hx hb dL_law_972 ?_
  refine g_topi (x' := nI (li + 3)) (nI_add li 3) ?_
  refine va_sld hx hb hXs hbl hbA G.2.2 (vp_in_nI (n := li + 3) (by omega) (by omega)) dL_law_973 ?_
  refine g_topi (x' := p2) (by rw [nI_clamp (n := li + 3) (by omega)]; exact hp2.symm) ?_
  refine lv_aload_n hx hb dL_law_974 rfl (lv_at hl 3 rfl) ?_
  refine g_callH (As := [.ref (ad 0), .int p0, .int p1, .int p2, .ref ou]) (rest := []) C0 G (c_L_told l D cy (ad := ad) (fr := fr) (bk := bk) (vw := vw) (tk := tk) (to := to) (fk := fk) (fo := fo) (kp := kp) (sp := sp) (lt := lt) (ib := ib) (rw := rw) (cl := cl) (nu := nu) (tv := tv) (tm := tm) (ta := ta) (ml := ml) (tn := tn) (R := wM am cy th (cS mf mb mv) kp X tn ap le fc f1 f2 (biF kn on) ha ([])) (ou := ou) (od := od) (og := og) (oh := oh) (p0 := p0) (p1 := p1) (p2 := p2) hst) k_L_told ml_L_141 dL_law_975 rfl rfl hl.1 (Nat.le_of_ble_eq_true rfl) ⟨Nat.le_of_ble_eq_true rfl, Nat.le_of_ble_eq_true rfl⟩ ⟨(by show _ ≤ 601024; omega), (by show _ ≤ 7293034; omega)⟩ (fun r W2 H locs hp G => ?_)
  rcases hp with ⟨k, hk, rfl, i, hi, rfl, j, hj, rfl, rfl, hw⟩ | ⟨rfl, hw, hx9⟩
  · skip
    obtain ⟨eF, eB, eV, hv4⟩ := hF.2 k (by omega)
    have G : gW D (wC ad cy fr bk vw ((fa (sdW (fr k) (bk k)) (onW (fr k) (bk k))).1) ((fa (sdW (fr k) (bk k)) (onW (fr k) (bk k))).2) fk fo kp sp lt ib rw cl nu tv tm ta ml tn ((ou, .inl (cy 2, 1, .inr (.inl (vp_updL og 0 (biI ((fa (sdW (fr k) (bk k)) (onW (fr k) (bk k))).1) ((fa (sdW (fr k) (bk k)) (onW (fr k) (bk k))).2) (8 * i + j)).toInt64)))) :: (od, .inl (cy 3, 1, .inr (.inr (.inr (.inl oh))))) :: wM am cy th (cS mf mb mv) kp X tn ap le fc f1 f2 (biF kn on) ha ([]))) A s _ _ := g_wc hw G
    refine W.eq (g2 := F0 m 978 ls [.int 0]) rfl ?_
    refine lv_istore (lv' := [(6, .int 0), (0, .ref b), (1, .ref (ad 0)), (2, .ref (am 0)), (3, .ref ou), (4, .ref od), (5, .int (nI li))]) hx hb dL_law_978 hl (by decide) rfl (fun ls hl => ?_)
    refine lv_aload_n hx hb dL_law_980 rfl (lv_at hl 3 rfl) ?_
    refine lv_aload_n hx hb dL_law_981 rfl (lv_at hl 1 rfl) ?_
    refine lv_iload hx hb dL_law_982 (lv_at hl 6 rfl) ?_
    refine lv_iconst (v := 1) hx hb dL_law_984 (by decide) ?_
    refine lv_iadd hx hb dL_law_985 ?_
    refine g_topi (x' := nI (li + 1)) (nI_add li 1) ?_
    refine va_sld hx hb hXs hbl hbA G.2.2 (vp_in_nI (n := li + 1) (by omega) (by omega)) dL_law_986 ?_
    refine g_topi (x' := nI k) (by rw [nI_clamp (n := li + 1) (by omega)]; exact hp0.symm) ?_
    refine lv_aload_n hx hb dL_law_987 rfl (lv_at hl 1 rfl) ?_
    refine lv_iload hx hb dL_law_988 (lv_at hl 6 rfl) ?_
    refine lv_iconst (v := 2) hx hb dL_law_990 (by decide) ?_
    refine lv_iadd hx hb dL_law_991 ?_
    refine g_topi (x' := nI (li + 2)) (nI_add li 2) ?_
    refine va_sld hx hb hXs hbl hbA G.2.2 (vp_in_nI (n := li + 2) (by omega) (by omega)) dL_law_992 ?_
    refine g_topi (x' := nI i) (by rw [nI_clamp (n := li + 2) (by omega)]; exact hp1.symm) ?_
    refine lv_aload_n hx hb dL_law_993 rfl (lv_at hl 1 rfl) ?_
    refine lv_iload hx hb dL_law_994 (lv_at hl 6 rfl) ?_
    refine lv_iconst (v := 3) hx hb dL_law_996 (by decide) ?_
    refine lv_iadd hx hb dL_law_997 ?_
    refine g_topi (x' := nI (li + 3)) (nI_add li 3) ?_
    refine va_sld hx hb hXs hbl hbA G.2.2 (vp_in_nI (n := li + 3) (by omega) (by omega)) dL_law_998 ?_
    refine g_topi (x' := nI j) (by rw [nI_clamp (n := li + 3) (by omega)]; exact hp2.symm) ?_
    have G : gW D (wM am cy th (cS mf mb mv) kp X tn ap le fc f1 f2 (biF kn on) ha ((ou, .inl (cy 2, 1, .inr (.inl (vp_updL og 0 (biI ((fa (sdW (fr k) (bk k)) (onW (fr k) (bk k))).1) ((fa (sdW (fr k) (bk k)) (onW (fr k) (bk k))).2) (8 * i + j)).toInt64)))) :: (od, .inl (cy 3, 1, .inr (.inr (.inr (.inl oh))))) :: wC ad cy fr bk vw ((fa (sdW (fr k) (bk k)) (onW (fr k) (bk k))).1) ((fa (sdW (fr k) (bk k)) (onW (fr k) (bk k))).2) fk fo kp sp lt ib rw cl nu tv tm ta ml tn ([]))) A s _ _ := g_swCM G
    refine g_callV (As := [.int (nI k), .int (nI i), .int (nI j)]) (rest := []) (q0 := 0) C0 G (c_X5_told_ok l D cy (am := am) (mf := mf) (mb := mb) (mv := mv) (kn := kn) (on := on) (th := th) (sv := kp) (X := X) (ln := tn) (ap := ap) (le := le) (fc := fc) (f1 := f1) (f2 := f2) (ha := ha) (R := ((ou, .inl (cy 2, 1, .inr (.inl (vp_updL og 0 (biI ((fa (sdW (fr k) (bk k)) (onW (fr k) (bk k))).1) ((fa (sdW (fr k) (bk k)) (onW (fr k) (bk k))).2) (8 * i + j)).toInt64)))) :: (od, .inl (cy 3, 1, .inr (.inr (.inr (.inl oh))))) :: wC ad cy fr bk vw ((fa (sdW (fr k) (bk k)) (onW (fr k) (bk k))).1) ((fa (sdW (fr k) (bk k)) (onW (fr k) (bk k))).2) fk fo kp sp lt ib rw cl nu tv tm ta ml tn ([]))) (k := k) (i := i) (j := j) (by omega) (by omega) (by omega)) k_X5_told ml_L_143 rfl rfl dL_law_999 rfl rfl hl.1 (Nat.le_of_ble_eq_true rfl) ⟨Nat.le_of_ble_eq_true rfl, Nat.le_of_ble_eq_true rfl⟩ ⟨(by show _ ≤ 601024; omega), (by show _ ≤ 7293034; omega)⟩ (fun r W2 H locs hp G => ?_)
    obtain ⟨rfl, hw⟩ := hp
    have G := g_wc hw G
    refine W.eq (g2 := F0 m 1002 ls [.int (biF ((fa (sdW (mf k) (mb k)) (onW (mf k) (mb k))).1) ((fa (sdW (mf k) (mb k)) (onW (mf k) (mb k))).2) ((8 * i) + j))]) rfl ?_
    refine lv_istore (lv' := [(7, .int (biF ((fa (sdW (mf k) (mb k)) (onW (mf k) (mb k))).1) ((fa (sdW (mf k) (mb k)) (onW (mf k) (mb k))).2) ((8 * i) + j))), (6, .int 0), (0, .ref b), (1, .ref (ad 0)), (2, .ref (am 0)), (3, .ref ou), (4, .ref od), (5, .int (nI li))]) hx hb dL_law_1002 hl (by decide) rfl (fun ls hl => ?_)
    refine lv_aload_n hx hb dL_law_1004 rfl (lv_at hl 4 rfl) ?_
    refine g_callV (As := []) (rest := []) (q0 := 0) C0 G (c_X5_thrown l D cy (am := am) (mf := mf) (mb := mb) (mv := mv) (th := nI 0) (sv := kp) (X := X) (ln := tn) (ap := ap) (le := le) (fc := fc) (f1 := f1) (f2 := f2) (ha := ha) (R := ((ou, .inl (cy 2, 1, .inr (.inl (vp_updL og 0 (biI ((fa (sdW (fr k) (bk k)) (onW (fr k) (bk k))).1) ((fa (sdW (fr k) (bk k)) (onW (fr k) (bk k))).2) (8 * i + j)).toInt64)))) :: (od, .inl (cy 3, 1, .inr (.inr (.inr (.inl oh))))) :: wC ad cy fr bk vw ((fa (sdW (fr k) (bk k)) (onW (fr k) (bk k))).1) ((fa (sdW (fr k) (bk k)) (onW (fr k) (bk k))).2) fk fo kp sp lt ib rw cl nu tv tm ta ml tn ([]))) (B := biF ((fa (sdW (mf k) (mb k)) (onW (mf k) (mb k))).1) ((fa (sdW (mf k) (mb k)) (onW (mf k) (mb k))).2))  ) k_X5_thrown ml_L_106 rfl rfl dL_law_1005 rfl rfl hl.1 (Nat.le_of_ble_eq_true rfl) ⟨Nat.le_of_ble_eq_true rfl, Nat.le_of_ble_eq_true rfl⟩ ⟨(by show _ ≤ 601024; omega), (by show _ ≤ 7293034; omega)⟩ (fun r W2 H locs hp G => ?_)
    obtain ⟨rfl, hw⟩ := hp
    have G := g_wc hw G
    refine W.eq (g2 := F0 m 1008 ls [.int (nI 0)]) rfl ?_
    refine g_topi (x' := 0) rfl ?_
    refine lv_iload hx hb dL_law_1008 (lv_at hl 1 rfl) ?_
    refine lv_icmp_eq (tgt := 1015) hx hb dL_law_1010 (by decide) (fun c_1010 => ?_) (fun c_1010 => ?_)
    · skip
      refine lv_iload hx hb dL_law_1015 (lv_at hl 1 rfl) ?_
      refine lv_if_ne (tgt := 1032) hx hb dL_law_1017 (by decide) (fun c_1017 => ?_) (fun c_1017 => ?_)
      · exact absurd c_1017 (by decide)
      · skip
        refine lv_aload_n hx hb dL_law_1020 rfl (lv_at hl 5 rfl) ?_
        refine lv_iconst (v := 0) hx hb dL_law_1021 (by decide) ?_
        refine g_topi (x' := nI 0) rfl ?_
        refine g_lald (q0 := 4) (n := 1) C0 G rfl 2 rfl (vp_in_nI (n := 0) (by omega) (by decide)) dL_law_1022 ?_
        refine g_topl (x' := (vp_updL og 0 (biI ((fa (sdW (fr k) (bk k)) (onW (fr k) (bk k))).1) ((fa (sdW (fr k) (bk k)) (onW (fr k) (bk k))).2) (8 * i + j)).toInt64) 0) (congrArg (vp_updL og 0 (biI ((fa (sdW (fr k) (bk k)) (onW (fr k) (bk k))).1) ((fa (sdW (fr k) (bk k)) (onW (fr k) (bk k))).2) (8 * i + j)).toInt64) (nI_clamp (n := 0) (by omega))) ?_
        refine g_topl (x' := (biI ((fa (sdW (fr k) (bk k)) (onW (fr k) (bk k))).1) ((fa (sdW (fr k) (bk k)) (onW (fr k) (bk k))).2) (8 * i + j)).toInt64) (if_pos rfl) ?_
        refine lv_iload hx hb dL_law_1023 (lv_at hl 0 rfl) ?_
        refine lv_i2l hx hb dL_law_1025 rfl ?_
        refine W.lcmp hx hb dL_law_1026 ?_
        refine lv_if_eq (tgt := 1032) hx hb dL_law_1027 (by decide) (fun c_1027 => ?_) (fun c_1027 => ?_)
        · skip
          have c_1027 : ((biI ((fa (sdW (fr k) (bk k)) (onW (fr k) (bk k))).1) ((fa (sdW (fr k) (bk k)) (onW (fr k) (bk k))).2) (8 * i + j)).toInt64) = ((biF ((fa (sdW (mf k) (mb k)) (onW (mf k) (mb k))).1) ((fa (sdW (mf k) (mb k)) (onW (mf k) (mb k))).2) ((8 * i) + j)).toInt64) := lgc_eq.mp c_1027
          refine lv_goto (tgt := 1897) hx hb dL_law_1032 (by decide) ?_
          have G : gW D (wC ad cy fr bk vw ((fa (sdW (fr k) (bk k)) (onW (fr k) (bk k))).1) ((fa (sdW (fr k) (bk k)) (onW (fr k) (bk k))).2) fk fo kp sp lt ib rw cl nu tv tm ta ml tn ((ou, .inl (cy 2, 1, .inr (.inl (vp_updL og 0 (biI ((fa (sdW (fr k) (bk k)) (onW (fr k) (bk k))).1) ((fa (sdW (fr k) (bk k)) (onW (fr k) (bk k))).2) (8 * i + j)).toInt64)))) :: (od, .inl (cy 3, 1, .inr (.inr (.inr (.inl oh))))) :: wM am cy (nI 0) (cS mf mb mv) kp X tn ap le fc f1 f2 (biF ((fa (sdW (mf k) (mb k)) (onW (mf k) (mb k))).1) ((fa (sdW (mf k) (mb k)) (onW (mf k) (mb k))).2)) ha ([]))) A s _ _ := g_swMC G
          refine W.widen (k := cells + 8) (n := slots + 400) (by omega) (by omega) ?_
          exact kk _ _ _ ⟨fr, bk, vw, ((fa (sdW (fr k) (bk k)) (onW (fr k) (bk k))).1), ((fa (sdW (fr k) (bk k)) (onW (fr k) (bk k))).2), fk, fo, kp, sp, lt, ib, rw, cl, nu, tv, tm, ta, ml, tn, mf, mb, mv, ((fa (sdW (mf k) (mb k)) (onW (mf k) (mb k))).1), ((fa (sdW (mf k) (mb k)) (onW (mf k) (mb k))).2), (nI 0), X, ap, le, fc, f1, f2, ha, (vp_updL og 0 (biI ((fa (sdW (fr k) (bk k)) (onW (fr k) (bk k))).1) ((fa (sdW (fr k) (bk k)) (onW (fr k) (bk k))).2) (8 * i + j)).toInt64), oh, tx, hF, hT, hR, G⟩ (lv_sub hl [2, 3, 4, 5, 6, 7] rfl)
        · skip
          have c_1027 : ¬ ((biI ((fa (sdW (fr k) (bk k)) (onW (fr k) (bk k))).1) ((fa (sdW (fr k) (bk k)) (onW (fr k) (bk k))).2) (8 * i + j)).toInt64) = ((biF ((fa (sdW (mf k) (mb k)) (onW (mf k) (mb k))).1) ((fa (sdW (mf k) (mb k)) (onW (mf k) (mb k))).2) ((8 * i) + j)).toInt64) := fun h => c_1027 (lgc_eq.mpr h)
          exact absurd (by first | (simp only [mSv_sa, saU_lo hk, ← eF, ← eB, ← eV]; done) | (simp only [mSv_sa, saU_lo hk, ← eF, ← eB, ← eV]; rfl) | rfl) c_1027
    · exact absurd c_1010 (by decide)
  · skip
    have G : gW D (wC ad cy fr bk vw tk to fk fo kp sp lt ib rw cl nu tv tm ta ml tn ((ou, .inl (cy 2, 1, .inr (.inl og))) :: (od, .inl (cy 3, 1, .inr (.inr (.inr (.inl oh))))) :: wM am cy th (cS mf mb mv) kp X tn ap le fc f1 f2 (biF kn on) ha ([]))) A s _ _ := g_wc hw G
    refine W.eq (g2 := F0 m 978 ls [.int 1]) rfl ?_
    refine lv_istore (lv' := [(6, .int 1), (0, .ref b), (1, .ref (ad 0)), (2, .ref (am 0)), (3, .ref ou), (4, .ref od), (5, .int (nI li))]) hx hb dL_law_978 hl (by decide) rfl (fun ls hl => ?_)
    refine lv_aload_n hx hb dL_law_980 rfl (lv_at hl 3 rfl) ?_
    refine lv_aload_n hx hb dL_law_981 rfl (lv_at hl 1 rfl) ?_
    refine lv_iload hx hb dL_law_982 (lv_at hl 6 rfl) ?_
    refine lv_iconst (v := 1) hx hb dL_law_984 (by decide) ?_
    refine lv_iadd hx hb dL_law_985 ?_
    refine g_topi (x' := nI (li + 1)) (nI_add li 1) ?_
    refine va_sld hx hb hXs hbl hbA G.2.2 (vp_in_nI (n := li + 1) (by omega) (by omega)) dL_law_986 ?_
    refine g_topi (x' := p0) (by rw [nI_clamp (n := li + 1) (by omega)]; exact hp0.symm) ?_
    refine lv_aload_n hx hb dL_law_987 rfl (lv_at hl 1 rfl) ?_
    refine lv_iload hx hb dL_law_988 (lv_at hl 6 rfl) ?_
    refine lv_iconst (v := 2) hx hb dL_law_990 (by decide) ?_
    refine lv_iadd hx hb dL_law_991 ?_
    refine g_topi (x' := nI (li + 2)) (nI_add li 2) ?_
    refine va_sld hx hb hXs hbl hbA G.2.2 (vp_in_nI (n := li + 2) (by omega) (by omega)) dL_law_992 ?_
    refine g_topi (x' := p1) (by rw [nI_clamp (n := li + 2) (by omega)]; exact hp1.symm) ?_
    refine lv_aload_n hx hb dL_law_993 rfl (lv_at hl 1 rfl) ?_
    refine lv_iload hx hb dL_law_994 (lv_at hl 6 rfl) ?_
    refine lv_iconst (v := 3) hx hb dL_law_996 (by decide) ?_
    refine lv_iadd hx hb dL_law_997 ?_
    refine g_topi (x' := nI (li + 3)) (nI_add li 3) ?_
    refine va_sld hx hb hXs hbl hbA G.2.2 (vp_in_nI (n := li + 3) (by omega) (by omega)) dL_law_998 ?_
    refine g_topi (x' := p2) (by rw [nI_clamp (n := li + 3) (by omega)]; exact hp2.symm) ?_
    have G : gW D (wM am cy th (cS mf mb mv) kp X tn ap le fc f1 f2 (biF kn on) ha ((ou, .inl (cy 2, 1, .inr (.inl og))) :: (od, .inl (cy 3, 1, .inr (.inr (.inr (.inl oh))))) :: wC ad cy fr bk vw tk to fk fo kp sp lt ib rw cl nu tv tm ta ml tn ([]))) A s _ _ := g_swCM G
    refine g_callV (As := [.int p0, .int p1, .int p2]) (rest := []) (q0 := 0) C0 G (c_X5_told_e1 l D cy (am := am) (mf := mf) (mb := mb) (mv := mv) (th := th) (sv := kp) (X := X) (ln := tn) (ap := ap) (le := le) (fc := fc) (f1 := f1) (f2 := f2) (ha := ha) (R := ((ou, .inl (cy 2, 1, .inr (.inl og))) :: (od, .inl (cy 3, 1, .inr (.inr (.inr (.inl oh))))) :: wC ad cy fr bk vw tk to fk fo kp sp lt ib rw cl nu tv tm ta ml tn ([]))) (B := biF kn on) (p0 := p0) (p1 := p1) (p2 := p2) (by rw [inB_ir (x := p0) (n := 2) (hi := 2) rfl (by decide), inB_ir (x := p1) (n := 7) (hi := 7) rfl (by decide), inB_ir (x := p2) (n := 7) (hi := 7) rfl (by decide), ← Bool.and_assoc]; exact hx9)) k_X5_told ml_L_143 rfl rfl dL_law_999 rfl rfl hl.1 (Nat.le_of_ble_eq_true rfl) ⟨Nat.le_of_ble_eq_true rfl, Nat.le_of_ble_eq_true rfl⟩ ⟨(by show _ ≤ 601024; omega), (by show _ ≤ 7293034; omega)⟩ (fun r W2 H locs hp G => ?_)
    obtain ⟨rfl, hw⟩ := hp
    have G := g_wc hw G
    refine W.eq (g2 := F0 m 1002 ls [.int 0]) rfl ?_
    refine lv_istore (lv' := [(7, .int 0), (6, .int 1), (0, .ref b), (1, .ref (ad 0)), (2, .ref (am 0)), (3, .ref ou), (4, .ref od), (5, .int (nI li))]) hx hb dL_law_1002 hl (by decide) rfl (fun ls hl => ?_)
    refine lv_aload_n hx hb dL_law_1004 rfl (lv_at hl 4 rfl) ?_
    refine g_callV (As := []) (rest := []) (q0 := 0) C0 G (c_X5_thrown l D cy (am := am) (mf := mf) (mb := mb) (mv := mv) (th := nI 1) (sv := kp) (X := X) (ln := tn) (ap := ap) (le := le) (fc := fc) (f1 := f1) (f2 := f2) (ha := ha) (R := ((ou, .inl (cy 2, 1, .inr (.inl og))) :: (od, .inl (cy 3, 1, .inr (.inr (.inr (.inl oh))))) :: wC ad cy fr bk vw tk to fk fo kp sp lt ib rw cl nu tv tm ta ml tn ([]))) (B := biF kn on)  ) k_X5_thrown ml_L_106 rfl rfl dL_law_1005 rfl rfl hl.1 (Nat.le_of_ble_eq_true rfl) ⟨Nat.le_of_ble_eq_true rfl, Nat.le_of_ble_eq_true rfl⟩ ⟨(by show _ ≤ 601024; omega), (by show _ ≤ 7293034; omega)⟩ (fun r W2 H locs hp G => ?_)
    obtain ⟨rfl, hw⟩ := hp
    have G := g_wc hw G
    refine W.eq (g2 := F0 m 1008 ls [.int (nI 1)]) rfl ?_
    refine g_topi (x' := 1) rfl ?_
    refine lv_iload hx hb dL_law_1008 (lv_at hl 1 rfl) ?_
    refine lv_icmp_eq (tgt := 1015) hx hb dL_law_1010 (by decide) (fun c_1010 => ?_) (fun c_1010 => ?_)
    · skip
      refine lv_iload hx hb dL_law_1015 (lv_at hl 1 rfl) ?_
      refine lv_if_ne (tgt := 1032) hx hb dL_law_1017 (by decide) (fun c_1017 => ?_) (fun c_1017 => ?_)
      · skip
        refine lv_goto (tgt := 1897) hx hb dL_law_1032 (by decide) ?_
        have G : gW D (wC ad cy fr bk vw tk to fk fo kp sp lt ib rw cl nu tv tm ta ml tn ((ou, .inl (cy 2, 1, .inr (.inl og))) :: (od, .inl (cy 3, 1, .inr (.inr (.inr (.inl oh))))) :: wM am cy (nI 1) (cS mf mb mv) kp X tn ap le fc f1 f2 (biF kn on) ha ([]))) A s _ _ := g_swMC G
        refine W.widen (k := cells + 8) (n := slots + 400) (by omega) (by omega) ?_
        exact kk _ _ _ ⟨fr, bk, vw, tk, to, fk, fo, kp, sp, lt, ib, rw, cl, nu, tv, tm, ta, ml, tn, mf, mb, mv, kn, on, (nI 1), X, ap, le, fc, f1, f2, ha, og, oh, tx, hF, hT, hR, G⟩ (lv_sub hl [2, 3, 4, 5, 6, 7] rfl)
      · exact absurd c_1017 (by decide)
    · exact absurd c_1010 (by decide)
