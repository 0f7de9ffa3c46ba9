set_option maxHeartbeats 4000000 in
set_option maxRecDepth 100000 in
theorem lw_c19 {p : Program} {l : Launch} {e : Env} {s : State} {m : MethodId} {below : List Frame} {meth : Method} {c : Code} {H : Heap} {locs : List Loc} {cells slots : Nat} {Q : State → Prop} {D : va_G} {cy : Nat → ClassId} {A : Nat → Prop} {ad am : Nat → Nat} {ou od b L li : Nat} {xs : Nat → Int32} {ls : Array Slot} (C0 : gC p s m #[.ref b] meth c code 9 (some .boolean) RL D (gts cy) A) (hst : l.stackTraces = false) (hXs : va_X b L xs s s.heap) (hbl : b < s.heap.size) (hbA : ¬ A b) (hli : li + 3 < L) (hL : L ≤ 2048) (hce : cells + 8 ≤ 601024) (hsl : slots + 400 ≤ 7293034) (I : lwI D A s cy ad am ou od H locs) (hl : lv_has ls 9 [(0, .ref b), (1, .ref (ad 0)), (2, .ref (am 0)), (3, .ref ou), (4, .ref od), (5, .int (nI li))])
    (kk : ∀ (H : Heap) (locs : List Loc) (ls : Array Slot), lwI D A s cy ad am ou od H locs → lv_has ls 9 [(0, .ref b), (1, .ref (ad 0)), (2, .ref (am 0)), (3, .ref ou), (4, .ref od), (5, .int (nI li))] → W p l e room_1 s m #[.ref b] below meth c H locs (cells + 8) (slots + 400) Q (F0 m 1897 ls [])) : W p l e room_1 s m #[.ref b] below meth c H locs cells slots Q (F0 m 1496 ls []) := by
  obtain ⟨fr, bk, vw, tk, to, fk, fo, kp, sp, lt, ib, rw, cl, nu, tv, tm, ta, ml, tn, mf, mb, mv, kn, on, th, X, ap, le, fc, f1, f2, ha, og, oh, tx, hF, hT, hR, G⟩ := I
  have hx := C0.1
  have hb := C0.2.1
  have hown := C0.2.2.2.2.2.1
  have hts := C0.2.2.2.2.2.2.1
  have hRs : rsOk (0, lt, ib, rw, cl, nu) := ⟨by show 0 < 9; decide, hR.2⟩
  have hkp := hF.1
  have h60 := hT.2.2.1
  have htm := hT.1
  obtain ⟨p0, hp0⟩ : ∃ z : Int32, z = xs (li + 1) := ⟨_, rfl⟩
  obtain ⟨p1, hp1⟩ : ∃ z : Int32, z = xs (li + 2) := ⟨_, rfl⟩
  obtain ⟨p2, hp2⟩ : ∃ z : Int32, z = xs (li + 3) := ⟨_, rfl⟩
  refine lv_aload_n hx hb dL_law_1496 rfl (lv_at hl 1 rfl) ?_
  refine lv_aload_n hx hb dL_law_1497 rfl (lv_at hl 0 rfl) ?_
  refine lv_iload hx hb dL_law_1498 (lv_at hl 5 rfl) ?_
  refine lv_iconst (v := 1) hx hb dL_law_1500 (by decide) ?_
  refine lv_iadd hx hb dL_law_1501 ?_
  refine g_topi (x' := nI (li + 1)) (nI_add li 1) ?_
  refine va_sld hx hb hXs hbl hbA G.2.2 (vp_in_nI (n := li + 1) (by omega) (by omega)) dL_law_1502 ?_
  refine g_topi (x' := p0) (by rw [nI_clamp (n := li + 1) (by omega)]; exact hp0.symm) ?_
  refine lv_aload_n hx hb dL_law_1503 rfl (lv_at hl 0 rfl) ?_
  refine lv_iload hx hb dL_law_1504 (lv_at hl 5 rfl) ?_
  refine lv_iconst (v := 2) hx hb dL_law_1506 (by decide) ?_
  refine lv_iadd hx hb dL_law_1507 ?_
  refine g_topi (x' := nI (li + 2)) (nI_add li 2) ?_
  refine va_sld hx hb hXs hbl hbA G.2.2 (vp_in_nI (n := li + 2) (by omega) (by omega)) dL_law_1508 ?_
  refine g_topi (x' := p1) (by rw [nI_clamp (n := li + 2) (by omega)]; exact hp1.symm) ?_
  refine lv_aload_n hx hb dL_law_1509 rfl (lv_at hl 0 rfl) ?_
  refine lv_iload hx hb dL_law_1510 (lv_at hl 5 rfl) ?_
  refine lv_iconst (v := 3) hx hb dL_law_1512 (by decide) ?_
  refine lv_iadd hx hb dL_law_1513 ?_
  refine g_topi (x' := nI (li + 3)) (nI_add li 3) ?_
  refine va_sld hx hb hXs hbl hbA G.2.2 (vp_in_nI (n := li + 3) (by omega) (by omega)) dL_law_1514 ?_
  refine g_topi (x' := p2) (by rw [nI_clamp (n := li + 3) (by omega)]; exact hp2.symm) ?_
  refine lv_aload_n hx hb dL_law_1515 rfl (lv_at hl 3 rfl) ?_
  refine g_callH (As := [.ref (ad 0), .int p0, .int p1, .int p2, .ref ou]) (rest := []) C0 G (c_L_untoldIf l D cy (ad := ad) (fr := fr) (bk := bk) (vw := vw) (tk := tk) (to := to) (fk := fk) (fo := fo) (kp := kp) (sp := sp) (lt := lt) (ib := ib) (rw := rw) (cl := cl) (nu := nu) (tv := tv) (tm := tm) (ta := ta) (ml := ml) (tn := tn) (R := wM am cy th (cS mf mb mv) kp X tn ap le fc f1 f2 (biF kn on) ha ([])) (ou := ou) (od := od) (og := og) (oh := oh) (p0 := p0) (p1 := p1) (p2 := p2) hst) k_L_untoldIf ml_L_166 dL_law_1516 rfl rfl hl.1 (Nat.le_of_ble_eq_true rfl) ⟨Nat.le_of_ble_eq_true rfl, Nat.le_of_ble_eq_true rfl⟩ ⟨(by show _ ≤ 601024; omega), (by show _ ≤ 7293034; omega)⟩ (fun r W2 H locs hp G => ?_)
  rcases hp with ⟨k, hk, rfl, i, hi, rfl, j, hj, rfl, rfl, hw⟩ | ⟨rfl, hw, hx9⟩
  · skip
    obtain ⟨eF, eB, eV, hv4⟩ := hF.2 k (by omega)
    have G : gW D (wC ad cy fr bk vw tk to ((uwF (fr k) (bk k) (8 * i + j) (fk, fo)).1) ((uwF (fr k) (bk k) (8 * i + j) (fk, fo)).2) kp sp lt ib rw cl nu tv tm ta ml tn ((ou, .inl (cy 2, 1, .inr (.inl (vp_updL og 0 (uwI (fr k) (bk k) (8 * i + j)).toInt64)))) :: (od, .inl (cy 3, 1, .inr (.inr (.inr (.inl oh))))) :: wM am cy th (cS mf mb mv) kp X tn ap le fc f1 f2 (biF kn on) ha ([]))) A s _ _ := g_wc hw G
    refine W.eq (g2 := F0 m 1519 ls [.int 0]) rfl ?_
    refine lv_istore (lv' := [(6, .int 0), (0, .ref b), (1, .ref (ad 0)), (2, .ref (am 0)), (3, .ref ou), (4, .ref od), (5, .int (nI li))]) hx hb dL_law_1519 hl (by decide) rfl (fun ls hl => ?_)
    refine lv_aload_n hx hb dL_law_1521 rfl (lv_at hl 3 rfl) ?_
    refine lv_aload_n hx hb dL_law_1522 rfl (lv_at hl 1 rfl) ?_
    refine lv_iload hx hb dL_law_1523 (lv_at hl 6 rfl) ?_
    refine lv_iconst (v := 1) hx hb dL_law_1525 (by decide) ?_
    refine lv_iadd hx hb dL_law_1526 ?_
    refine g_topi (x' := nI (li + 1)) (nI_add li 1) ?_
    refine va_sld hx hb hXs hbl hbA G.2.2 (vp_in_nI (n := li + 1) (by omega) (by omega)) dL_law_1527 ?_
    refine g_topi (x' := nI k) (by rw [nI_clamp (n := li + 1) (by omega)]; exact hp0.symm) ?_
    refine lv_aload_n hx hb dL_law_1528 rfl (lv_at hl 1 rfl) ?_
    refine lv_iload hx hb dL_law_1529 (lv_at hl 6 rfl) ?_
    refine lv_iconst (v := 2) hx hb dL_law_1531 (by decide) ?_
    refine lv_iadd hx hb dL_law_1532 ?_
    refine g_topi (x' := nI (li + 2)) (nI_add li 2) ?_
    refine va_sld hx hb hXs hbl hbA G.2.2 (vp_in_nI (n := li + 2) (by omega) (by omega)) dL_law_1533 ?_
    refine g_topi (x' := nI i) (by rw [nI_clamp (n := li + 2) (by omega)]; exact hp1.symm) ?_
    refine lv_aload_n hx hb dL_law_1534 rfl (lv_at hl 1 rfl) ?_
    refine lv_iload hx hb dL_law_1535 (lv_at hl 6 rfl) ?_
    refine lv_iconst (v := 3) hx hb dL_law_1537 (by decide) ?_
    refine lv_iadd hx hb dL_law_1538 ?_
    refine g_topi (x' := nI (li + 3)) (nI_add li 3) ?_
    refine va_sld hx hb hXs hbl hbA G.2.2 (vp_in_nI (n := li + 3) (by omega) (by omega)) dL_law_1539 ?_
    refine g_topi (x' := nI j) (by rw [nI_clamp (n := li + 3) (by omega)]; exact hp2.symm) ?_
    have G : gW D (wM am cy th (cS mf mb mv) kp X tn ap le fc f1 f2 (biF kn on) ha ((ou, .inl (cy 2, 1, .inr (.inl (vp_updL og 0 (uwI (fr k) (bk k) (8 * i + j)).toInt64)))) :: (od, .inl (cy 3, 1, .inr (.inr (.inr (.inl oh))))) :: wC ad cy fr bk vw tk to ((uwF (fr k) (bk k) (8 * i + j) (fk, fo)).1) ((uwF (fr k) (bk k) (8 * i + j) (fk, fo)).2) kp sp lt ib rw cl nu tv tm ta ml tn ([]))) A s _ _ := g_swCM G
    refine g_callV (As := [.int (nI k), .int (nI i), .int (nI j)]) (rest := []) (q0 := 0) C0 G (c_X5_untoldIf_ok l D cy (am := am) (mf := mf) (mb := mb) (mv := mv) (kn := kn) (on := on) (th := th) (sv := kp) (X := X) (ln := tn) (ap := ap) (le := le) (fc := fc) (f1 := f1) (f2 := f2) (ha := ha) (R := ((ou, .inl (cy 2, 1, .inr (.inl (vp_updL og 0 (uwI (fr k) (bk k) (8 * i + j)).toInt64)))) :: (od, .inl (cy 3, 1, .inr (.inr (.inr (.inl oh))))) :: wC ad cy fr bk vw tk to ((uwF (fr k) (bk k) (8 * i + j) (fk, fo)).1) ((uwF (fr k) (bk k) (8 * i + j) (fk, fo)).2) kp sp lt ib rw cl nu tv tm ta ml tn ([]))) (k := k) (i := i) (j := j) (by omega) (by omega) (by omega)) k_X5_untoldIf ml_L_168 rfl rfl dL_law_1540 rfl rfl hl.1 (Nat.le_of_ble_eq_true rfl) ⟨Nat.le_of_ble_eq_true rfl, Nat.le_of_ble_eq_true rfl⟩ ⟨(by show _ ≤ 601024; omega), (by show _ ≤ 7293034; omega)⟩ (fun r W2 H locs hp G => ?_)
    obtain ⟨rfl, hw⟩ := hp
    have G := g_wc hw G
    refine W.eq (g2 := F0 m 1543 ls [.int (uwI (mf k) (mb k) ((8 * i) + j))]) rfl ?_
    refine lv_istore (lv' := [(7, .int (uwI (mf k) (mb k) ((8 * i) + j))), (6, .int 0), (0, .ref b), (1, .ref (ad 0)), (2, .ref (am 0)), (3, .ref ou), (4, .ref od), (5, .int (nI li))]) hx hb dL_law_1543 hl (by decide) rfl (fun ls hl => ?_)
    refine lv_aload_n hx hb dL_law_1545 rfl (lv_at hl 4 rfl) ?_
    refine g_callV (As := []) (rest := []) (q0 := 0) C0 G (c_X5_thrown l D cy (am := am) (mf := mf) (mb := mb) (mv := mv) (th := nI 0) (sv := kp) (X := X) (ln := tn) (ap := ap) (le := le) (fc := fc) (f1 := f1) (f2 := f2) (ha := ha) (R := ((ou, .inl (cy 2, 1, .inr (.inl (vp_updL og 0 (uwI (fr k) (bk k) (8 * i + j)).toInt64)))) :: (od, .inl (cy 3, 1, .inr (.inr (.inr (.inl oh))))) :: wC ad cy fr bk vw tk to ((uwF (fr k) (bk k) (8 * i + j) (fk, fo)).1) ((uwF (fr k) (bk k) (8 * i + j) (fk, fo)).2) kp sp lt ib rw cl nu tv tm ta ml tn ([]))) (B := biF ((uwF (mf k) (mb k) ((8 * i) + j) (kn, on)).1) ((uwF (mf k) (mb k) ((8 * i) + j) (kn, on)).2))  ) k_X5_thrown ml_L_106 rfl rfl dL_law_1546 rfl rfl hl.1 (Nat.le_of_ble_eq_true rfl) ⟨Nat.le_of_ble_eq_true rfl, Nat.le_of_ble_eq_true rfl⟩ ⟨(by show _ ≤ 601024; omega), (by show _ ≤ 7293034; omega)⟩ (fun r W2 H locs hp G => ?_)
    obtain ⟨rfl, hw⟩ := hp
    have G := g_wc hw G
    refine W.eq (g2 := F0 m 1549 ls [.int (nI 0)]) rfl ?_
    refine g_topi (x' := 0) rfl ?_
    refine lv_iload hx hb dL_law_1549 (lv_at hl 1 rfl) ?_
    refine lv_icmp_eq (tgt := 1556) hx hb dL_law_1551 (by decide) (fun c_1551 => ?_) (fun c_1551 => ?_)
    · skip
      refine lv_iload hx hb dL_law_1556 (lv_at hl 1 rfl) ?_
      refine lv_if_ne (tgt := 1573) hx hb dL_law_1558 (by decide) (fun c_1558 => ?_) (fun c_1558 => ?_)
      · exact absurd c_1558 (by decide)
      · skip
        refine lv_aload_n hx hb dL_law_1561 rfl (lv_at hl 5 rfl) ?_
        refine lv_iconst (v := 0) hx hb dL_law_1562 (by decide) ?_
        refine g_topi (x' := nI 0) rfl ?_
        refine g_lald (q0 := 4) (n := 1) C0 G rfl 2 rfl (vp_in_nI (n := 0) (by omega) (by decide)) dL_law_1563 ?_
        refine g_topl (x' := (vp_updL og 0 (uwI (fr k) (bk k) (8 * i + j)).toInt64) 0) (congrArg (vp_updL og 0 (uwI (fr k) (bk k) (8 * i + j)).toInt64) (nI_clamp (n := 0) (by omega))) ?_
        refine g_topl (x' := (uwI (fr k) (bk k) (8 * i + j)).toInt64) (if_pos rfl) ?_
        refine lv_iload hx hb dL_law_1564 (lv_at hl 0 rfl) ?_
        refine lv_i2l hx hb dL_law_1566 rfl ?_
        refine W.lcmp hx hb dL_law_1567 ?_
        refine lv_if_eq (tgt := 1573) hx hb dL_law_1568 (by decide) (fun c_1568 => ?_) (fun c_1568 => ?_)
        · skip
          have c_1568 : ((uwI (fr k) (bk k) (8 * i + j)).toInt64) = ((uwI (mf k) (mb k) ((8 * i) + j)).toInt64) := lgc_eq.mp c_1568
          refine lv_goto (tgt := 1897) hx hb dL_law_1573 (by decide) ?_
          have G : gW D (wC ad cy fr bk vw tk to ((uwF (fr k) (bk k) (8 * i + j) (fk, fo)).1) ((uwF (fr k) (bk k) (8 * i + j) (fk, fo)).2) kp sp lt ib rw cl nu tv tm ta ml tn ((ou, .inl (cy 2, 1, .inr (.inl (vp_updL og 0 (uwI (fr k) (bk k) (8 * i + j)).toInt64)))) :: (od, .inl (cy 3, 1, .inr (.inr (.inr (.inl oh))))) :: wM am cy (nI 0) (cS mf mb mv) kp X tn ap le fc f1 f2 (biF ((uwF (mf k) (mb k) ((8 * i) + j) (kn, on)).1) ((uwF (mf k) (mb k) ((8 * i) + j) (kn, on)).2)) ha ([]))) A s _ _ := g_swMC G
          refine W.widen (k := cells + 8) (n := slots + 400) (by omega) (by omega) ?_
          exact kk _ _ _ ⟨fr, bk, vw, tk, to, ((uwF (fr k) (bk k) (8 * i + j) (fk, fo)).1), ((uwF (fr k) (bk k) (8 * i + j) (fk, fo)).2), kp, sp, lt, ib, rw, cl, nu, tv, tm, ta, ml, tn, mf, mb, mv, ((uwF (mf k) (mb k) ((8 * i) + j) (kn, on)).1), ((uwF (mf k) (mb k) ((8 * i) + j) (kn, on)).2), (nI 0), X, ap, le, fc, f1, f2, ha, (vp_updL og 0 (uwI (fr k) (bk k) (8 * i + j)).toInt64), oh, tx, hF, hT, hR, G⟩ (lv_sub hl [2, 3, 4, 5, 6, 7] rfl)
        · skip
          have c_1568 : ¬ ((uwI (fr k) (bk k) (8 * i + j)).toInt64) = ((uwI (mf k) (mb k) ((8 * i) + j)).toInt64) := fun h => c_1568 (lgc_eq.mpr h)
          exact absurd (by first | (simp only [mSv_sa, saU_lo hk, ← eF, ← eB, ← eV]; done) | (simp only [mSv_sa, saU_lo hk, ← eF, ← eB, ← eV]; rfl) | rfl) c_1568
    · exact absurd c_1551 (by decide)
  · skip
    have G : gW D (wC ad cy fr bk vw tk to fk fo kp sp lt ib rw cl nu tv tm ta ml tn ((ou, .inl (cy 2, 1, .inr (.inl og))) :: (od, .inl (cy 3, 1, .inr (.inr (.inr (.inl oh))))) :: wM am cy th (cS mf mb mv) kp X tn ap le fc f1 f2 (biF kn on) ha ([]))) A s _ _ := g_wc hw G
    refine W.eq (g2 := F0 m 1519 ls [.int 1]) rfl ?_
    refine lv_istore (lv' := [(6, .int 1), (0, .ref b), (1, .ref (ad 0)), (2, .ref (am 0)), (3, .ref ou), (4, .ref od), (5, .int (nI li))]) hx hb dL_law_1519 hl (by decide) rfl (fun ls hl => ?_)
    refine lv_aload_n hx hb dL_law_1521 rfl (lv_at hl 3 rfl) ?_
    refine lv_aload_n hx hb dL_law_1522 rfl (lv_at hl 1 rfl) ?_
    refine lv_iload hx hb dL_law_1523 (lv_at hl 6 rfl) ?_
    refine lv_iconst (v := 1) hx hb dL_law_1525 (by decide) ?_
    refine lv_iadd hx hb dL_law_1526 ?_
    refine g_topi (x' := nI (li + 1)) (nI_add li 1) ?_
    refine va_sld hx hb hXs hbl hbA G.2.2 (vp_in_nI (n := li + 1) (by omega) (by omega)) dL_law_1527 ?_
    refine g_topi (x' := p0) (by rw [nI_clamp (n := li + 1) (by omega)]; exact hp0.symm) ?_
    refine lv_aload_n hx hb dL_law_1528 rfl (lv_at hl 1 rfl) ?_
    refine lv_iload hx hb dL_law_1529 (lv_at hl 6 rfl) ?_
    refine lv_iconst (v := 2) hx hb dL_law_1531 (by decide) ?_
    refine lv_iadd hx hb dL_law_1532 ?_
    refine g_topi (x' := nI (li + 2)) (nI_add li 2) ?_
    refine va_sld hx hb hXs hbl hbA G.2.2 (vp_in_nI (n := li + 2) (by omega) (by omega)) dL_law_1533 ?_
    refine g_topi (x' := p1) (by rw [nI_clamp (n := li + 2) (by omega)]; exact hp1.symm) ?_
    refine lv_aload_n hx hb dL_law_1534 rfl (lv_at hl 1 rfl) ?_
    refine lv_iload hx hb dL_law_1535 (lv_at hl 6 rfl) ?_
    refine lv_iconst (v := 3) hx hb dL_law_1537 (by decide) ?_
    refine lv_iadd hx hb dL_law_1538 ?_
    refine g_topi (x' := nI (li + 3)) (nI_add li 3) ?_
    refine va_sld hx hb hXs hbl hbA G.2.2 (vp_in_nI (n := li + 3) (by omega) (by omega)) dL_law_1539 ?_
    refine g_topi (x' := p2) (by rw [nI_clamp (n := li + 3) (by omega)]; exact hp2.symm) ?_
    have G : gW D (wM am cy th (cS mf mb mv) kp X tn ap le fc f1 f2 (biF kn on) ha ((ou, .inl (cy 2, 1, .inr (.inl og))) :: (od, .inl (cy 3, 1, .inr (.inr (.inr (.inl oh))))) :: wC ad cy fr bk vw tk to fk fo kp sp lt ib rw cl nu tv tm ta ml tn ([]))) A s _ _ := g_swCM G
    refine g_callV (As := [.int p0, .int p1, .int p2]) (rest := []) (q0 := 0) C0 G (c_X5_untoldIf_e1 l D cy (am := am) (mf := mf) (mb := mb) (mv := mv) (th := th) (sv := kp) (X := X) (ln := tn) (ap := ap) (le := le) (fc := fc) (f1 := f1) (f2 := f2) (ha := ha) (R := ((ou, .inl (cy 2, 1, .inr (.inl og))) :: (od, .inl (cy 3, 1, .inr (.inr (.inr (.inl oh))))) :: wC ad cy fr bk vw tk to fk fo kp sp lt ib rw cl nu tv tm ta ml tn ([]))) (B := biF kn on) (p0 := p0) (p1 := p1) (p2 := p2) (by rw [inB_ir (x := p0) (n := 2) (hi := 2) rfl (by decide), inB_ir (x := p1) (n := 7) (hi := 7) rfl (by decide), inB_ir (x := p2) (n := 7) (hi := 7) rfl (by decide), ← Bool.and_assoc]; exact hx9)) k_X5_untoldIf ml_L_168 rfl rfl dL_law_1540 rfl rfl hl.1 (Nat.le_of_ble_eq_true rfl) ⟨Nat.le_of_ble_eq_true rfl, Nat.le_of_ble_eq_true rfl⟩ ⟨(by show _ ≤ 601024; omega), (by show _ ≤ 7293034; omega)⟩ (fun r W2 H locs hp G => ?_)
    obtain ⟨rfl, hw⟩ := hp
    have G := g_wc hw G
    refine W.eq (g2 := F0 m 1543 ls [.int 0]) rfl ?_
    refine lv_istore (lv' := [(7, .int 0), (6, .int 1), (0, .ref b), (1, .ref (ad 0)), (2, .ref (am 0)), (3, .ref ou), (4, .ref od), (5, .int (nI li))]) hx hb dL_law_1543 hl (by decide) rfl (fun ls hl => ?_)
    refine lv_aload_n hx hb dL_law_1545 rfl (lv_at hl 4 rfl) ?_
    refine g_callV (As := []) (rest := []) (q0 := 0) C0 G (c_X5_thrown l D cy (am := am) (mf := mf) (mb := mb) (mv := mv) (th := nI 1) (sv := kp) (X := X) (ln := tn) (ap := ap) (le := le) (fc := fc) (f1 := f1) (f2 := f2) (ha := ha) (R := ((ou, .inl (cy 2, 1, .inr (.inl og))) :: (od, .inl (cy 3, 1, .inr (.inr (.inr (.inl oh))))) :: wC ad cy fr bk vw tk to fk fo kp sp lt ib rw cl nu tv tm ta ml tn ([]))) (B := biF kn on)  ) k_X5_thrown ml_L_106 rfl rfl dL_law_1546 rfl rfl hl.1 (Nat.le_of_ble_eq_true rfl) ⟨Nat.le_of_ble_eq_true rfl, Nat.le_of_ble_eq_true rfl⟩ ⟨(by show _ ≤ 601024; omega), (by show _ ≤ 7293034; omega)⟩ (fun r W2 H locs hp G => ?_)
    obtain ⟨rfl, hw⟩ := hp
    have G := g_wc hw G
    refine W.eq (g2 := F0 m 1549 ls [.int (nI 1)]) rfl ?_
    refine g_topi (x' := 1) rfl ?_
    refine lv_iload hx hb dL_law_1549 (lv_at hl 1 rfl) ?_
    refine lv_icmp_eq (tgt := 1556) hx hb dL_law_1551 (by decide) (fun c_1551 => ?_) (fun c_1551 => ?_)
    · skip
      refine lv_iload hx hb dL_law_1556 (lv_at hl 1 rfl) ?_
      refine lv_if_ne (tgt := 1573) hx hb dL_law_1558 (by decide) (fun c_1558 => ?_) (fun c_1558 => ?_)
      · skip
        refine lv_goto (tgt := 1897) hx hb dL_law_1573 (by decide) ?_
        have G : gW D (wC ad cy fr bk vw tk to fk fo kp sp lt ib rw cl nu tv tm ta ml tn ((ou, .inl (cy 2, 1, .inr (.inl og))) :: (od, .inl (cy 3, 1, .inr (.inr (.inr (.inl oh))))) :: wM am cy (nI 1) (cS mf mb mv) kp X tn ap le fc f1 f2 (biF kn on) ha ([]))) A s _ _ := g_swMC G
        refine W.widen (k := cells + 8) (n := slots + 400) (by omega) (by omega) ?_
        exact kk _ _ _ ⟨fr, bk, vw, tk, to, fk, fo, kp, sp, lt, ib, rw, cl, nu, tv, tm, ta, ml, tn, mf, mb, mv, kn, on, (nI 1), X, ap, le, fc, f1, f2, ha, og, oh, tx, hF, hT, hR, G⟩ (lv_sub hl [2, 3, 4, 5, 6, 7] rfl)
      · exact absurd c_1558 (by decide)
    · exact absurd c_1551 (by decide)

set_option maxHeartbeats 4000000 in
set_option maxRecDepth 100000 in
theorem lw_c20 {p : Program} {l : Launch} {e : Env} {s : State} {m : MethodId} {below : List Frame} {meth : Method} {c : Code} {H : Heap} {locs : List Loc} {cells slots : Nat} {Q : State → Prop} {D : va_G} {cy : Nat → ClassId} {A : Nat → Prop} {ad am : Nat → Nat} {ou od b L li : Nat} {xs : Nat → Int32} {ls : Array Slot} (C0 : gC p s m #[.ref b] meth c code 9 (some .boolean) RL D (gts cy) A) (hst : l.stackTraces = false) (hXs : va_X b L xs s s.heap) (hbl : b < s.heap.size) (hbA : ¬ A b) (hli : li + 3 < L) (hL : L ≤ 2048) (hce : cells + 8 ≤ 601024) (hsl : slots + 400 ≤ 7293034) (I : lwI D A s cy ad am ou od H locs) (hl : lv_has ls 9 [(0, .ref b), (1, .ref (ad 0)), (2, .ref (am 0)), (3, .ref ou), (4, .ref od), (5, .int (nI li))])
    (kk : ∀ (H : Heap) (locs : List Loc) (ls : Array Slot), lwI D A s cy ad am ou od H locs → lv_has ls 9 [(0, .ref b), (1, .ref (ad 0)), (2, .ref (am 0)), (3, .ref ou), (4, .ref od), (5, .int (nI li))] → W p l e room_1 s m #[.ref b] below meth c H locs (cells + 8) (slots + 400) Q (F0 m 1897 ls [])) : W p l e room_1 s m #[.ref b] below meth c H locs cells slots Q (F0 m 1576 ls []) := by
  obtain ⟨fr, bk, vw, tk, to, fk, fo, kp, sp, lt, ib, rw, cl, nu, tv, tm, ta, ml, tn, mf, mb, mv, kn, on, th, X, ap, le, fc, f1, f2, ha, og, oh, tx, hF, hT, hR, G⟩ := I
  have hx := C0.1
  have hb := C0.2.1
  have hown := C0.2.2.2.2.2.1
  have hts := C0.2.2.2.2.2.2.1
  have hRs : rsOk (0, lt, ib, rw, cl, nu) := ⟨by show 0 < 9; decide, hR.2⟩
  have hkp := hF.1
  have h60 := hT.2.2.1
  have htm := hT.1
  obtain ⟨p0, hp0⟩ : ∃ z : Int32, z = xs (li + 1) := ⟨_, rfl⟩
  refine lv_aload_n hx hb dL_law_1576 rfl (lv_at hl 1 rfl) ?_
  refine lv_aload_n hx hb dL_law_1577 rfl (lv_at hl 0 rfl) ?_
  refine lv_iload hx hb dL_law_1578 (lv_at hl 5 rfl) ?_
  refine lv_iconst (v := 1) hx hb dL_law_1580 (by decide) ?_
  refine lv_iadd hx hb dL_law_1581 ?_
  refine g_topi (x' := nI (li + 1)) (nI_add li 1) ?_
  refine va_sld hx hb hXs hbl hbA G.2.2 (vp_in_nI (n := li + 1) (by omega) (by omega)) dL_law_1582 ?_
  refine g_topi (x' := p0) (by rw [nI_clamp (n := li + 1) (by omega)]; exact hp0.symm) ?_
  refine lv_aload_n hx hb dL_law_1583 rfl (lv_at hl 3 rfl) ?_
  refine g_callH (As := [.ref (ad 0), .int p0, .ref ou]) (rest := []) C0 G (c_L_worst l D cy (ad := ad) (fr := fr) (bk := bk) (vw := vw) (tk := tk) (to := to) (fk := fk) (fo := fo) (kp := kp) (sp := sp) (lt := lt) (ib := ib) (rw := rw) (cl := cl) (nu := nu) (tv := tv) (tm := tm) (ta := ta) (ml := ml) (tn := tn) (R := wM am cy th (cS mf mb mv) kp X tn ap le fc f1 f2 (biF kn on) ha ([])) (ou := ou) (od := od) (og := og) (oh := oh) (p0 := p0) hst) k_L_worst ml_L_169 dL_law_1584 rfl rfl hl.1 (Nat.le_of_ble_eq_true rfl) ⟨Nat.le_of_ble_eq_true rfl, Nat.le_of_ble_eq_true rfl⟩ ⟨(by show _ ≤ 601024; omega), (by show _ ≤ 7293034; omega)⟩ (fun r W2 H locs hp G => ?_)
  rcases hp with ⟨k, hk, rfl, rfl, hw⟩ | ⟨rfl, hw, hx9⟩
  · skip
    obtain ⟨eF, eB, eV, hv4⟩ := hF.2 k (by omega)
    have G : gW D (wC ad cy fr bk vw tk to ((wcF (fr k) (bk k) (fk, fo) 64).1) ((wcF (fr k) (bk k) (fk, fo) 64).2) kp sp lt ib rw cl nu tv tm ta ml tn ((ou, .inl (cy 2, 1, .inr (.inl (vp_updL og 0 ((wcS (fr k) (bk k) 64).1).toInt64)))) :: (od, .inl (cy 3, 1, .inr (.inr (.inr (.inl oh))))) :: wM am cy th (cS mf mb mv) kp X tn ap le fc f1 f2 (biF kn on) ha ([]))) A s _ _ := g_wc hw G
    refine W.eq (g2 := F0 m 1587 ls [.int 0]) rfl ?_
    refine lv_istore (lv' := [(6, .int 0), (0, .ref b), (1, .ref (ad 0)), (2, .ref (am 0)), (3, .ref ou), (4, .ref od), (5, .int (nI li))]) hx hb dL_law_1587 hl (by decide) rfl (fun ls hl => ?_)
    refine lv_aload_n hx hb dL_law_1589 rfl (lv_at hl 3 rfl) ?_
    refine lv_aload_n hx hb dL_law_1590 rfl (lv_at hl 1 rfl) ?_
    refine lv_iload hx hb dL_law_1591 (lv_at hl 6 rfl) ?_
    refine lv_iconst (v := 1) hx hb dL_law_1593 (by decide) ?_
    refine lv_iadd hx hb dL_law_1594 ?_
    refine g_topi (x' := nI (li + 1)) (nI_add li 1) ?_
    refine va_sld hx hb hXs hbl hbA G.2.2 (vp_in_nI (n := li + 1) (by omega) (by omega)) dL_law_1595 ?_
    refine g_topi (x' := nI k) (by rw [nI_clamp (n := li + 1) (by omega)]; exact hp0.symm) ?_
    have G : gW D (wM am cy th (cS mf mb mv) kp X tn ap le fc f1 f2 (biF kn on) ha ((ou, .inl (cy 2, 1, .inr (.inl (vp_updL og 0 ((wcS (fr k) (bk k) 64).1).toInt64)))) :: (od, .inl (cy 3, 1, .inr (.inr (.inr (.inl oh))))) :: wC ad cy fr bk vw tk to ((wcF (fr k) (bk k) (fk, fo) 64).1) ((wcF (fr k) (bk k) (fk, fo) 64).2) kp sp lt ib rw cl nu tv tm ta ml tn ([]))) A s _ _ := g_swCM G
    refine g_callV (As := [.int (nI k)]) (rest := []) (q0 := 0) C0 G (c_X5_worst_ok l D cy (am := am) (mf := mf) (mb := mb) (mv := mv) (kn := kn) (on := on) (th := th) (sv := kp) (X := X) (ln := tn) (ap := ap) (le := le) (fc := fc) (f1 := f1) (f2 := f2) (ha := ha) (R := ((ou, .inl (cy 2, 1, .inr (.inl (vp_updL og 0 ((wcS (fr k) (bk k) 64).1).toInt64)))) :: (od, .inl (cy 3, 1, .inr (.inr (.inr (.inl oh))))) :: wC ad cy fr bk vw tk to ((wcF (fr k) (bk k) (fk, fo) 64).1) ((wcF (fr k) (bk k) (fk, fo) 64).2) kp sp lt ib rw cl nu tv tm ta ml tn ([]))) (k := k) (by omega)) k_X5_worst ml_L_171 rfl rfl dL_law_1596 rfl rfl hl.1 (Nat.le_of_ble_eq_true rfl) ⟨Nat.le_of_ble_eq_true rfl, Nat.le_of_ble_eq_true rfl⟩ ⟨(by show _ ≤ 601024; omega), (by show _ ≤ 7293034; omega)⟩ (fun r W2 H locs hp G => ?_)
    obtain ⟨rfl, hw⟩ := hp
    have G := g_wc hw G
    refine W.eq (g2 := F0 m 1599 ls [.int ((wcS (mf k) (mb k) 64).1)]) rfl ?_
    refine lv_istore (lv' := [(7, .int ((wcS (mf k) (mb k) 64).1)), (6, .int 0), (0, .ref b), (1, .ref (ad 0)), (2, .ref (am 0)), (3, .ref ou), (4, .ref od), (5, .int (nI li))]) hx hb dL_law_1599 hl (by decide) rfl (fun ls hl => ?_)
    refine lv_aload_n hx hb dL_law_1601 rfl (lv_at hl 4 rfl) ?_
    refine g_callV (As := []) (rest := []) (q0 := 0) C0 G (c_X5_thrown l D cy (am := am) (mf := mf) (mb := mb) (mv := mv) (th := nI 0) (sv := kp) (X := X) (ln := tn) (ap := ap) (le := le) (fc := fc) (f1 := f1) (f2 := f2) (ha := ha) (R := ((ou, .inl (cy 2, 1, .inr (.inl (vp_updL og 0 ((wcS (fr k) (bk k) 64).1).toInt64)))) :: (od, .inl (cy 3, 1, .inr (.inr (.inr (.inl oh))))) :: wC ad cy fr bk vw tk to ((wcF (fr k) (bk k) (fk, fo) 64).1) ((wcF (fr k) (bk k) (fk, fo) 64).2) kp sp lt ib rw cl nu tv tm ta ml tn ([]))) (B := biF ((wcF (mf k) (mb k) (kn, on) 64).1) ((wcF (mf k) (mb k) (kn, on) 64).2))  ) k_X5_thrown ml_L_106 rfl rfl dL_law_1602 rfl rfl hl.1 (Nat.le_of_ble_eq_true rfl) ⟨Nat.le_of_ble_eq_true rfl, Nat.le_of_ble_eq_true rfl⟩ ⟨(by show _ ≤ 601024; omega), (by show _ ≤ 7293034; omega)⟩ (fun r W2 H locs hp G => ?_)
    obtain ⟨rfl, hw⟩ := hp
    have G := g_wc hw G
    refine W.eq (g2 := F0 m 1605 ls [.int (nI 0)]) rfl ?_
    refine g_topi (x' := 0) rfl ?_
    refine lv_iload hx hb dL_law_1605 (lv_at hl 1 rfl) ?_
    refine lv_icmp_eq (tgt := 1612) hx hb dL_law_1607 (by decide) (fun c_1607 => ?_) (fun c_1607 => ?_)
    · skip
      refine lv_iload hx hb dL_law_1612 (lv_at hl 1 rfl) ?_
      refine lv_if_ne (tgt := 1629) hx hb dL_law_1614 (by decide) (fun c_1614 => ?_) (fun c_1614 => ?_)
      · exact absurd c_1614 (by decide)
      · skip
        refine lv_aload_n hx hb dL_law_1617 rfl (lv_at hl 5 rfl) ?_
        refine lv_iconst (v := 0) hx hb dL_law_1618 (by decide) ?_
        refine g_topi (x' := nI 0) rfl ?_
        refine g_lald (q0 := 4) (n := 1) C0 G rfl 2 rfl (vp_in_nI (n := 0) (by omega) (by decide)) dL_law_1619 ?_
        refine g_topl (x' := (vp_updL og 0 ((wcS (fr k) (bk k) 64).1).toInt64) 0) (congrArg (vp_updL og 0 ((wcS (fr k) (bk k) 64).1).toInt64) (nI_clamp (n := 0) (by omega))) ?_
        refine g_topl (x' := ((wcS (fr k) (bk k) 64).1).toInt64) (if_pos rfl) ?_
        refine lv_iload hx hb dL_law_1620 (lv_at hl 0 rfl) ?_
        refine lv_i2l hx hb dL_law_1622 rfl ?_
        refine W.lcmp hx hb dL_law_1623 ?_
        refine lv_if_eq (tgt := 1629) hx hb dL_law_1624 (by decide) (fun c_1624 => ?_) (fun c_1624 => ?_)
        · skip
          have c_1624 : (((wcS (fr k) (bk k) 64).1).toInt64) = (((wcS (mf k) (mb k) 64).1).toInt64) := lgc_eq.mp c_1624
          refine lv_goto (tgt := 1897) hx hb dL_law_1629 (by decide) ?_
          have G : gW D (wC ad cy fr bk vw tk to ((wcF (fr k) (bk k) (fk, fo) 64).1) ((wcF (fr k) (bk k) (fk, fo) 64).2) kp sp lt ib rw cl nu tv tm ta ml tn ((ou, .inl (cy 2, 1, .inr (.inl (vp_updL og 0 ((wcS (fr k) (bk k) 64).1).toInt64)))) :: (od, .inl (cy 3, 1, .inr (.inr (.inr (.inl oh))))) :: wM am cy (nI 0) (cS mf mb mv) kp X tn ap le fc f1 f2 (biF ((wcF (mf k) (mb k) (kn, on) 64).1) ((wcF (mf k) (mb k) (kn, on) 64).2)) ha ([]))) A s _ _ := g_swMC G
          refine W.widen (k := cells + 8) (n := slots + 400) (by omega) (by omega) ?_
          exact kk _ _ _ ⟨fr, bk, vw, tk, to, ((wcF (fr k) (bk k) (fk, fo) 64).1), ((wcF (fr k) (bk k) (fk, fo) 64).2), kp, sp, lt, ib, rw, cl, nu, tv, tm, ta, ml, tn, mf, mb, mv, ((wcF (mf k) (mb k) (kn, on) 64).1), ((wcF (mf k) (mb k) (kn, on) 64).2), (nI 0), X, ap, le, fc, f1, f2, ha, (vp_updL og 0 ((wcS (fr k) (bk k) 64).1).toInt64), oh, tx, hF, hT, hR, G⟩ (lv_sub hl [2, 3, 4, 5, 6, 7] rfl)
        · skip
          have c_1624 : ¬ (((wcS (fr k) (bk k) 64).1).toInt64) = (((wcS (mf k) (mb k) 64).1).toInt64) := fun h => c_1624 (lgc_eq.mpr h)
          exact absurd (by first | (simp only [mSv_sa, saU_lo hk, ← eF, ← eB, ← eV]; done) | (simp only [mSv_sa, saU_lo hk, ← eF, ← eB, ← eV]; rfl) | rfl) c_1624
    · exact absurd c_1607 (by decide)
  · skip
    have G : gW D (wC ad cy fr bk vw tk to fk fo kp sp lt ib rw cl nu tv tm ta ml tn ((ou, .inl (cy 2, 1, .inr (.inl og))) :: (od, .inl (cy 3, 1, .inr (.inr (.inr (.inl oh))))) :: wM am cy th (cS mf mb mv) kp X tn ap le fc f1 f2 (biF kn on) ha ([]))) A s _ _ := g_wc hw G
    refine W.eq (g2 := F0 m 1587 ls [.int 1]) rfl ?_
    refine lv_istore (lv' := [(6, .int 1), (0, .ref b), (1, .ref (ad 0)), (2, .ref (am 0)), (3, .ref ou), (4, .ref od), (5, .int (nI li))]) hx hb dL_law_1587 hl (by decide) rfl (fun ls hl => ?_)
    refine lv_aload_n hx hb dL_law_1589 rfl (lv_at hl 3 rfl) ?_
    refine lv_aload_n hx hb dL_law_1590 rfl (lv_at hl 1 rfl) ?_
    refine lv_iload hx hb dL_law_1591 (lv_at hl 6 rfl) ?_
    refine lv_iconst (v := 1) hx hb dL_law_1593 (by decide) ?_
    refine lv_iadd hx hb dL_law_1594 ?_
    refine g_topi (x' := nI (li + 1)) (nI_add li 1) ?_
    refine va_sld hx hb hXs hbl hbA G.2.2 (vp_in_nI (n := li + 1) (by omega) (by omega)) dL_law_1595 ?_
    refine g_topi (x' := p0) (by rw [nI_clamp (n := li + 1) (by omega)]; exact hp0.symm) ?_
    have G : gW D (wM am cy th (cS mf mb mv) kp X tn ap le fc f1 f2 (biF kn on) ha ((ou, .inl (cy 2, 1, .inr (.inl og))) :: (od, .inl (cy 3, 1, .inr (.inr (.inr (.inl oh))))) :: wC ad cy fr bk vw tk to fk fo kp sp lt ib rw cl nu tv tm ta ml tn ([]))) A s _ _ := g_swCM G
    refine g_callV (As := [.int p0]) (rest := []) (q0 := 0) C0 G (c_X5_worst_e1 l D cy (am := am) (mf := mf) (mb := mb) (mv := mv) (th := th) (sv := kp) (X := X) (ln := tn) (ap := ap) (le := le) (fc := fc) (f1 := f1) (f2 := f2) (ha := ha) (R := ((ou, .inl (cy 2, 1, .inr (.inl og))) :: (od, .inl (cy 3, 1, .inr (.inr (.inr (.inl oh))))) :: wC ad cy fr bk vw tk to fk fo kp sp lt ib rw cl nu tv tm ta ml tn ([]))) (B := biF kn on) (p0 := p0) (by rw [inB_ir (x := p0) (n := 2) (hi := 2) rfl (by decide)]; exact hx9)) k_X5_worst ml_L_171 rfl rfl dL_law_1596 rfl rfl hl.1 (Nat.le_of_ble_eq_true rfl) ⟨Nat.le_of_ble_eq_true rfl, Nat.le_of_ble_eq_true rfl⟩ ⟨(by show _ ≤ 601024; omega), (by show _ ≤ 7293034; omega)⟩ (fun r W2 H locs hp G => ?_)
    obtain ⟨rfl, hw⟩ := hp
    have G := g_wc hw G
    refine W.eq (g2 := F0 m 1599 ls [.int 0]) rfl ?_
    refine lv_istore (lv' := [(7, .int 0), (6, .int 1), (0, .ref b), (1, .ref (ad 0)), (2, .ref (am 0)), (3, .ref ou), (4, .ref od), (5, .int (nI li))]) hx hb dL_law_1599 hl (by decide) rfl (fun ls hl => ?_)
    refine lv_aload_n hx hb dL_law_1601 rfl (lv_at hl 4 rfl) ?_
    refine g_callV (As := []) (rest := []) (q0 := 0) C0 G (c_X5_thrown l D cy (am := am) (mf := mf) (mb := mb) (mv := mv) (th := nI 1) (sv := kp) (X := X) (ln := tn) (ap := ap) (le := le) (fc := fc) (f1 := f1) (f2 := f2) (ha := ha) (R := ((ou, .inl (cy 2, 1, .inr (.inl og))) :: (od, .inl (cy 3, 1, .inr (.inr (.inr (.inl oh))))) :: wC ad cy fr bk vw tk to fk fo kp sp lt ib rw cl nu tv tm ta ml tn ([]))) (B := biF kn on)  ) k_X5_thrown ml_L_106 rfl rfl dL_law_1602 rfl rfl hl.1 (Nat.le_of_ble_eq_true rfl) ⟨Nat.le_of_ble_eq_true rfl, Nat.le_of_ble_eq_true rfl⟩ ⟨(by show _ ≤ 601024; omega), (by show _ ≤ 7293034; omega)⟩ (fun r W2 H locs hp G => ?_)
    obtain ⟨rfl, hw⟩ := hp
    have G := g_wc hw G
    refine W.eq (g2 := F0 m 1605 ls [.int (nI 1)]) rfl ?_
    refine g_topi (x' := 1) rfl ?_
    refine lv_iload hx hb dL_law_1605 (lv_at hl 1 rfl) ?_
    refine lv_icmp_eq (tgt := 1612) hx hb dL_law_1607 (by decide) (fun c_1607 => ?_) (fun c_1607 => ?_)
    · skip
      refine lv_iload hx hb dL_law_1612 (lv_at hl 1 rfl) ?_
      refine lv_if_ne (tgt := 1629) hx hb dL_law_1614 (by decide) (fun c_1614 => ?_) (fun c_1614 => ?_)
      · skip
        refine lv_goto (tgt := 1897) hx hb dL_law_1629 (by decide) ?_
        have G : gW D (wC ad cy fr bk vw tk to fk fo kp sp lt ib rw cl nu tv tm ta ml tn ((ou, .inl (cy 2, 1, .inr (.inl og))) :: (od, .inl (cy 3, 1, .inr (.inr (.inr (.inl oh))))) :: wM am cy (nI 1) (cS mf mb mv) kp X tn ap le fc f1 f2 (biF kn on) ha ([]))) A s _ _ := g_swMC G
        refine W.widen (k := cells + 8) (n := slots + 400) (by omega) (by omega) ?_
        exact kk _ _ _ ⟨fr, bk, vw, tk, to, fk, fo, kp, sp, lt, ib, rw, cl, nu, tv, tm, ta, ml, tn, mf, mb, mv, kn, on, (nI 1), X, ap, le, fc, f1, f2, ha, og, oh, tx, hF, hT, hR, G⟩ (lv_sub hl [2, 3, 4, 5, 6, 7] rfl)
      · exact absurd c_1614 (by decide)
    · exact absurd c_1607 (by decide)

set_option maxHeartbeats 4000000 in
set_option maxRecDepth 100000 in
theorem lw_c21 {p : Program} {l : Launch} {e : Env} {s : State} {m : MethodId} {below : List Frame} {meth : Method} {c : Code} {H : Heap} {locs : List Loc} {cells slots : Nat} {Q : State → Prop} {D : va_G} {cy : Nat → ClassId} {A : Nat → Prop} {ad am : Nat → Nat} {ou od b L li : Nat} {xs : Nat → Int32} {ls : Array Slot} (C0 : gC p s m #[.ref b] meth c code 9 (some .boolean) RL D (gts cy) A) (hst : l.stackTraces = false) (hXs : va_X b L xs s s.heap) (hbl : b < s.heap.size) (hbA : ¬ A b) (hli : li + 3 < L) (hL : L ≤ 2048) (hce : cells + 8 ≤ 601024) (hsl : slots + 400 ≤ 7293034) (I : lwI D A s cy ad am ou od H locs) (hl : lv_has ls 9 [(0, .ref b), (1, .ref (ad 0)), (2, .ref (am 0)), (3, .ref ou), (4, .ref od), (5, .int (nI li))])
    (kk : ∀ (H : Heap) (locs : List Loc) (ls : Array Slot), lwI D A s cy ad am ou od H locs → lv_has ls 9 [(0, .ref b), (1, .ref (ad 0)), (2, .ref (am 0)), (3, .ref ou), (4, .ref od), (5, .int (nI li))] → W p l e room_1 s m #[.ref b] below meth c H locs (cells + 8) (slots + 400) Q (F0 m 1897 ls [])) : W p l e room_1 s m #[.ref b] below meth c H locs cells slots Q (F0 m 1632 ls []) := by
  obtain ⟨fr, bk, vw, tk, to, fk, fo, kp, sp, lt, ib, rw, cl, nu, tv, tm, ta, ml, tn, mf, mb, mv, kn, on, th, X, ap, le, fc, f1, f2, ha, og, oh, tx, hF, hT, hR, G⟩ := I
  have hx := C0.1
  have hb := C0.2.1
  have hown := C0.2.2.2.2.2.1
  have hts := C0.2.2.2.2.2.2.1
  have hRs : rsOk (0, lt, ib, rw, cl, nu) := ⟨by show 0 < 9; decide, hR.2⟩
  have hkp := hF.1
  have h60 := hT.2.2.1
  have htm := hT.1
  obtain ⟨p0, hp0⟩ : ∃ z : Int32, z = xs (li + 1) := ⟨_, rfl⟩
  obtain ⟨p1, hp1⟩ : ∃ z : Int32, z = xs (li + 2) := ⟨_, rfl⟩
  refine lv_aload_n hx hb dL_law_1632 rfl (lv_at hl 1 rfl) ?_
  refine lv_aload_n hx hb dL_law_1633 rfl (lv_at hl 0 rfl) ?_
  refine lv_iload hx hb dL_law_1634 (lv_at hl 5 rfl) ?_
  refine lv_iconst (v := 1) hx hb dL_law_1636 (by decide) ?_
  refine lv_iadd hx hb dL_law_1637 ?_
  refine g_topi (x' := nI (li + 1)) (nI_add li 1) ?_
  refine va_sld hx hb hXs hbl hbA G.2.2 (vp_in_nI (n := li + 1) (by omega) (by omega)) dL_law_1638 ?_
  refine g_topi (x' := p0) (by rw [nI_clamp (n := li + 1) (by omega)]; exact hp0.symm) ?_
  refine lv_aload_n hx hb dL_law_1639 rfl (lv_at hl 0 rfl) ?_
  refine lv_iload hx hb dL_law_1640 (lv_at hl 5 rfl) ?_
  refine lv_iconst (v := 2) hx hb dL_law_1642 (by decide) ?_
  refine lv_iadd hx hb dL_law_1643 ?_
  refine g_topi (x' := nI (li + 2)) (nI_add li 2) ?_
  refine va_sld hx hb hXs hbl hbA G.2.2 (vp_in_nI (n := li + 2) (by omega) (by omega)) dL_law_1644 ?_
  refine g_topi (x' := p1) (by rw [nI_clamp (n := li + 2) (by omega)]; exact hp1.symm) ?_
  refine lv_aload_n hx hb dL_law_1645 rfl (lv_at hl 3 rfl) ?_
  refine g_callH (As := [.ref (ad 0), .int p0, .int p1, .ref ou]) (rest := []) C0 G (c_L_difference l D cy (ad := ad) (fr := fr) (bk := bk) (vw := vw) (tk := tk) (to := to) (fk := fk) (fo := fo) (kp := kp) (sp := sp) (lt := lt) (ib := ib) (rw := rw) (cl := cl) (nu := nu) (tv := tv) (tm := tm) (ta := ta) (ml := ml) (tn := tn) (R := wM am cy th (cS mf mb mv) kp X tn ap le fc f1 f2 (biF kn on) ha ([])) (ou := ou) (od := od) (og := og) (oh := oh) (p0 := p0) (p1 := p1) hst) k_L_difference ml_L_172 dL_law_1646 rfl rfl hl.1 (Nat.le_of_ble_eq_true rfl) ⟨Nat.le_of_ble_eq_true rfl, Nat.le_of_ble_eq_true rfl⟩ ⟨(by show _ ≤ 601024; omega), (by show _ ≤ 7293034; omega)⟩ (fun r W2 H locs hp G => ?_)
  rcases hp with ⟨k, hk, rfl, j, hj, rfl, rfl, hw⟩ | ⟨rfl, hw, hx9⟩
  · skip
    obtain ⟨eF, eB, eV, hv4⟩ := hF.2 k (by omega)
    obtain ⟨fF, fB, fV, fv4⟩ := hF.2 j (by omega)
    have G : gW D (wC ad cy fr bk vw ((fa (sdW (fr j) (bk j)) (onW (fr j) (bk j))).1) ((fa (sdW (fr j) (bk j)) (onW (fr j) (bk j))).2) fk fo kp sp lt ib rw cl nu tv tm ta ml tn ((ou, .inl (cy 2, 1, .inr (.inl (vp_updL og 0 (nI (pc ((((fa (sdW (fr k) (bk k)) (onW (fr k) (bk k))).1) &&& ((fa (sdW (fr j) (bk j)) (onW (fr j) (bk j))).1)) &&& (((fa (sdW (fr k) (bk k)) (onW (fr k) (bk k))).2) ^^^ ((fa (sdW (fr j) (bk j)) (onW (fr j) (bk j))).2))))).toInt64)))) :: (od, .inl (cy 3, 1, .inr (.inr (.inr (.inl oh))))) :: wM am cy th (cS mf mb mv) kp X tn ap le fc f1 f2 (biF kn on) ha ([]))) A s _ _ := g_wc hw G
    refine W.eq (g2 := F0 m 1649 ls [.int 0]) rfl ?_
    refine lv_istore (lv' := [(6, .int 0), (0, .ref b), (1, .ref (ad 0)), (2, .ref (am 0)), (3, .ref ou), (4, .ref od), (5, .int (nI li))]) hx hb dL_law_1649 hl (by decide) rfl (fun ls hl => ?_)
    refine lv_aload_n hx hb dL_law_1651 rfl (lv_at hl 3 rfl) ?_
    refine lv_aload_n hx hb dL_law_1652 rfl (lv_at hl 1 rfl) ?_
    refine lv_iload hx hb dL_law_1653 (lv_at hl 6 rfl) ?_
    refine lv_iconst (v := 1) hx hb dL_law_1655 (by decide) ?_
    refine lv_iadd hx hb dL_law_1656 ?_
    refine g_topi (x' := nI (li + 1)) (nI_add li 1) ?_
    refine va_sld hx hb hXs hbl hbA G.2.2 (vp_in_nI (n := li + 1) (by omega) (by omega)) dL_law_1657 ?_
    refine g_topi (x' := nI k) (by rw [nI_clamp (n := li + 1) (by omega)]; exact hp0.symm) ?_
    refine lv_aload_n hx hb dL_law_1658 rfl (lv_at hl 1 rfl) ?_
    refine lv_iload hx hb dL_law_1659 (lv_at hl 6 rfl) ?_
    refine lv_iconst (v := 2) hx hb dL_law_1661 (by decide) ?_
    refine lv_iadd hx hb dL_law_1662 ?_
    refine g_topi (x' := nI (li + 2)) (nI_add li 2) ?_
    refine va_sld hx hb hXs hbl hbA G.2.2 (vp_in_nI (n := li + 2) (by omega) (by omega)) dL_law_1663 ?_
    refine g_topi (x' := nI j) (by rw [nI_clamp (n := li + 2) (by omega)]; exact hp1.symm) ?_
    have G : gW D (wM am cy th (cS mf mb mv) kp X tn ap le fc f1 f2 (biF kn on) ha ((ou, .inl (cy 2, 1, .inr (.inl (vp_updL og 0 (nI (pc ((((fa (sdW (fr k) (bk k)) (onW (fr k) (bk k))).1) &&& ((fa (sdW (fr j) (bk j)) (onW (fr j) (bk j))).1)) &&& (((fa (sdW (fr k) (bk k)) (onW (fr k) (bk k))).2) ^^^ ((fa (sdW (fr j) (bk j)) (onW (fr j) (bk j))).2))))).toInt64)))) :: (od, .inl (cy 3, 1, .inr (.inr (.inr (.inl oh))))) :: wC ad cy fr bk vw ((fa (sdW (fr j) (bk j)) (onW (fr j) (bk j))).1) ((fa (sdW (fr j) (bk j)) (onW (fr j) (bk j))).2) fk fo kp sp lt ib rw cl nu tv tm ta ml tn ([]))) A s _ _ := g_swCM G
    refine g_callV (As := [.int (nI k), .int (nI j)]) (rest := []) (q0 := 0) C0 G (c_X5_difference_ok l D cy (am := am) (mf := mf) (mb := mb) (mv := mv) (kn := kn) (on := on) (th := th) (sv := kp) (X := X) (ln := tn) (ap := ap) (le := le) (fc := fc) (f1 := f1) (f2 := f2) (ha := ha) (R := ((ou, .inl (cy 2, 1, .inr (.inl (vp_updL og 0 (nI (pc ((((fa (sdW (fr k) (bk k)) (onW (fr k) (bk k))).1) &&& ((fa (sdW (fr j) (bk j)) (onW (fr j) (bk j))).1)) &&& (((fa (sdW (fr k) (bk k)) (onW (fr k) (bk k))).2) ^^^ ((fa (sdW (fr j) (bk j)) (onW (fr j) (bk j))).2))))).toInt64)))) :: (od, .inl (cy 3, 1, .inr (.inr (.inr (.inl oh))))) :: wC ad cy fr bk vw ((fa (sdW (fr j) (bk j)) (onW (fr j) (bk j))).1) ((fa (sdW (fr j) (bk j)) (onW (fr j) (bk j))).2) fk fo kp sp lt ib rw cl nu tv tm ta ml tn ([]))) (k := k) (j := j) (by omega) (by omega)) k_X5_difference ml_L_174 rfl rfl dL_law_1664 rfl rfl hl.1 (Nat.le_of_ble_eq_true rfl) ⟨Nat.le_of_ble_eq_true rfl, Nat.le_of_ble_eq_true rfl⟩ ⟨(by show _ ≤ 601024; omega), (by show _ ≤ 7293034; omega)⟩ (fun r W2 H locs hp G => ?_)
    obtain ⟨rfl, hw⟩ := hp
    have G := g_wc hw G
    refine W.eq (g2 := F0 m 1667 ls [.int (nI (cnt (dfB (dfO (fa (sdW (mf k) (mb k)) (onW (mf k) (mb k))).1 (fa (sdW (mf k) (mb k)) (onW (mf k) (mb k))).2 64) (dfZ (fa (sdW (mf k) (mb k)) (onW (mf k) (mb k))).1 (fa (sdW (mf k) (mb k)) (onW (mf k) (mb k))).2 64) (fa (sdW (mf j) (mb j)) (onW (mf j) (mb j))).1 (fa (sdW (mf j) (mb j)) (onW (mf j) (mb j))).2) 64))]) rfl ?_
    refine lv_istore (lv' := [(7, .int (nI (cnt (dfB (dfO (fa (sdW (mf k) (mb k)) (onW (mf k) (mb k))).1 (fa (sdW (mf k) (mb k)) (onW (mf k) (mb k))).2 64) (dfZ (fa (sdW (mf k) (mb k)) (onW (mf k) (mb k))).1 (fa (sdW (mf k) (mb k)) (onW (mf k) (mb k))).2 64) (fa (sdW (mf j) (mb j)) (onW (mf j) (mb j))).1 (fa (sdW (mf j) (mb j)) (onW (mf j) (mb j))).2) 64))), (6, .int 0), (0, .ref b), (1, .ref (ad 0)), (2, .ref (am 0)), (3, .ref ou), (4, .ref od), (5, .int (nI li))]) hx hb dL_law_1667 hl (by decide) rfl (fun ls hl => ?_)
    refine lv_aload_n hx hb dL_law_1669 rfl (lv_at hl 4 rfl) ?_
    refine g_callV (As := []) (rest := []) (q0 := 0) C0 G (c_X5_thrown l D cy (am := am) (mf := mf) (mb := mb) (mv := mv) (th := nI 0) (sv := kp) (X := X) (ln := tn) (ap := ap) (le := le) (fc := fc) (f1 := f1) (f2 := f2) (ha := ha) (R := ((ou, .inl (cy 2, 1, .inr (.inl (vp_updL og 0 (nI (pc ((((fa (sdW (fr k) (bk k)) (onW (fr k) (bk k))).1) &&& ((fa (sdW (fr j) (bk j)) (onW (fr j) (bk j))).1)) &&& (((fa (sdW (fr k) (bk k)) (onW (fr k) (bk k))).2) ^^^ ((fa (sdW (fr j) (bk j)) (onW (fr j) (bk j))).2))))).toInt64)))) :: (od, .inl (cy 3, 1, .inr (.inr (.inr (.inl oh))))) :: wC ad cy fr bk vw ((fa (sdW (fr j) (bk j)) (onW (fr j) (bk j))).1) ((fa (sdW (fr j) (bk j)) (onW (fr j) (bk j))).2) fk fo kp sp lt ib rw cl nu tv tm ta ml tn ([]))) (B := biF ((fa (sdW (mf j) (mb j)) (onW (mf j) (mb j))).1) ((fa (sdW (mf j) (mb j)) (onW (mf j) (mb j))).2))  ) k_X5_thrown ml_L_106 rfl rfl dL_law_1670 rfl rfl hl.1 (Nat.le_of_ble_eq_true rfl) ⟨Nat.le_of_ble_eq_true rfl, Nat.le_of_ble_eq_true rfl⟩ ⟨(by show _ ≤ 601024; omega), (by show _ ≤ 7293034; omega)⟩ (fun r W2 H locs hp G => ?_)
    obtain ⟨rfl, hw⟩ := hp
    have G := g_wc hw G
    refine W.eq (g2 := F0 m 1673 ls [.int (nI 0)]) rfl ?_
    refine g_topi (x' := 0) rfl ?_
    refine lv_iload hx hb dL_law_1673 (lv_at hl 1 rfl) ?_
    refine lv_icmp_eq (tgt := 1680) hx hb dL_law_1675 (by decide) (fun c_1675 => ?_) (fun c_1675 => ?_)
    · skip
      refine lv_iload hx hb dL_law_1680 (lv_at hl 1 rfl) ?_
      refine lv_if_ne (tgt := 1697) hx hb dL_law_1682 (by decide) (fun c_1682 => ?_) (fun c_1682 => ?_)
      · exact absurd c_1682 (by decide)
      · skip
        refine lv_aload_n hx hb dL_law_1685 rfl (lv_at hl 5 rfl) ?_
        refine lv_iconst (v := 0) hx hb dL_law_1686 (by decide) ?_
        refine g_topi (x' := nI 0) rfl ?_
        refine g_lald (q0 := 4) (n := 1) C0 G rfl 2 rfl (vp_in_nI (n := 0) (by omega) (by decide)) dL_law_1687 ?_
        refine g_topl (x' := (vp_updL og 0 (nI (pc ((((fa (sdW (fr k) (bk k)) (onW (fr k) (bk k))).1) &&& ((fa (sdW (fr j) (bk j)) (onW (fr j) (bk j))).1)) &&& (((fa (sdW (fr k) (bk k)) (onW (fr k) (bk k))).2) ^^^ ((fa (sdW (fr j) (bk j)) (onW (fr j) (bk j))).2))))).toInt64) 0) (congrArg (vp_updL og 0 (nI (pc ((((fa (sdW (fr k) (bk k)) (onW (fr k) (bk k))).1) &&& ((fa (sdW (fr j) (bk j)) (onW (fr j) (bk j))).1)) &&& (((fa (sdW (fr k) (bk k)) (onW (fr k) (bk k))).2) ^^^ ((fa (sdW (fr j) (bk j)) (onW (fr j) (bk j))).2))))).toInt64) (nI_clamp (n := 0) (by omega))) ?_
        refine g_topl (x' := (nI (pc ((((fa (sdW (fr k) (bk k)) (onW (fr k) (bk k))).1) &&& ((fa (sdW (fr j) (bk j)) (onW (fr j) (bk j))).1)) &&& (((fa (sdW (fr k) (bk k)) (onW (fr k) (bk k))).2) ^^^ ((fa (sdW (fr j) (bk j)) (onW (fr j) (bk j))).2))))).toInt64) (if_pos rfl) ?_
        refine lv_iload hx hb dL_law_1688 (lv_at hl 0 rfl) ?_
        refine lv_i2l hx hb dL_law_1690 rfl ?_
        refine W.lcmp hx hb dL_law_1691 ?_
        refine lv_if_eq (tgt := 1697) hx hb dL_law_1692 (by decide) (fun c_1692 => ?_) (fun c_1692 => ?_)
        · skip
          have c_1692 : ((nI (pc ((((fa (sdW (fr k) (bk k)) (onW (fr k) (bk k))).1) &&& ((fa (sdW (fr j) (bk j)) (onW (fr j) (bk j))).1)) &&& (((fa (sdW (fr k) (bk k)) (onW (fr k) (bk k))).2) ^^^ ((fa (sdW (fr j) (bk j)) (onW (fr j) (bk j))).2))))).toInt64) = ((nI (cnt (dfB (dfO (fa (sdW (mf k) (mb k)) (onW (mf k) (mb k))).1 (fa (sdW (mf k) (mb k)) (onW (mf k) (mb k))).2 64) (dfZ (fa (sdW (mf k) (mb k)) (onW (mf k) (mb k))).1 (fa (sdW (mf k) (mb k)) (onW (mf k) (mb k))).2 64) (fa (sdW (mf j) (mb j)) (onW (mf j) (mb j))).1 (fa (sdW (mf j) (mb j)) (onW (mf j) (mb j))).2) 64)).toInt64) := lgc_eq.mp c_1692
          refine lv_goto (tgt := 1897) hx hb dL_law_1697 (by decide) ?_
          have G : gW D (wC ad cy fr bk vw ((fa (sdW (fr j) (bk j)) (onW (fr j) (bk j))).1) ((fa (sdW (fr j) (bk j)) (onW (fr j) (bk j))).2) fk fo kp sp lt ib rw cl nu tv tm ta ml tn ((ou, .inl (cy 2, 1, .inr (.inl (vp_updL og 0 (nI (pc ((((fa (sdW (fr k) (bk k)) (onW (fr k) (bk k))).1) &&& ((fa (sdW (fr j) (bk j)) (onW (fr j) (bk j))).1)) &&& (((fa (sdW (fr k) (bk k)) (onW (fr k) (bk k))).2) ^^^ ((fa (sdW (fr j) (bk j)) (onW (fr j) (bk j))).2))))).toInt64)))) :: (od, .inl (cy 3, 1, .inr (.inr (.inr (.inl oh))))) :: wM am cy (nI 0) (cS mf mb mv) kp X tn ap le fc f1 f2 (biF ((fa (sdW (mf j) (mb j)) (onW (mf j) (mb j))).1) ((fa (sdW (mf j) (mb j)) (onW (mf j) (mb j))).2)) ha ([]))) A s _ _ := g_swMC G
          refine W.widen (k := cells + 8) (n := slots + 400) (by omega) (by omega) ?_
          exact kk _ _ _ ⟨fr, bk, vw, ((fa (sdW (fr j) (bk j)) (onW (fr j) (bk j))).1), ((fa (sdW (fr j) (bk j)) (onW (fr j) (bk j))).2), fk, fo, kp, sp, lt, ib, rw, cl, nu, tv, tm, ta, ml, tn, mf, mb, mv, ((fa (sdW (mf j) (mb j)) (onW (mf j) (mb j))).1), ((fa (sdW (mf j) (mb j)) (onW (mf j) (mb j))).2), (nI 0), X, ap, le, fc, f1, f2, ha, (vp_updL og 0 (nI (pc ((((fa (sdW (fr k) (bk k)) (onW (fr k) (bk k))).1) &&& ((fa (sdW (fr j) (bk j)) (onW (fr j) (bk j))).1)) &&& (((fa (sdW (fr k) (bk k)) (onW (fr k) (bk k))).2) ^^^ ((fa (sdW (fr j) (bk j)) (onW (fr j) (bk j))).2))))).toInt64), oh, tx, hF, hT, hR, G⟩ (lv_sub hl [2, 3, 4, 5, 6, 7] rfl)
        · skip
          have c_1692 : ¬ ((nI (pc ((((fa (sdW (fr k) (bk k)) (onW (fr k) (bk k))).1) &&& ((fa (sdW (fr j) (bk j)) (onW (fr j) (bk j))).1)) &&& (((fa (sdW (fr k) (bk k)) (onW (fr k) (bk k))).2) ^^^ ((fa (sdW (fr j) (bk j)) (onW (fr j) (bk j))).2))))).toInt64) = ((nI (cnt (dfB (dfO (fa (sdW (mf k) (mb k)) (onW (mf k) (mb k))).1 (fa (sdW (mf k) (mb k)) (onW (mf k) (mb k))).2 64) (dfZ (fa (sdW (mf k) (mb k)) (onW (mf k) (mb k))).1 (fa (sdW (mf k) (mb k)) (onW (mf k) (mb k))).2 64) (fa (sdW (mf j) (mb j)) (onW (mf j) (mb j))).1 (fa (sdW (mf j) (mb j)) (onW (mf j) (mb j))).2) 64)).toInt64) := fun h => c_1692 (lgc_eq.mpr h)
          exact absurd (by rw [df_pc, ← eF, ← eB, ← fF, ← fB]) c_1692
    · exact absurd c_1675 (by decide)
  · skip
    have G : gW D (wC ad cy fr bk vw tk to fk fo kp sp lt ib rw cl nu tv tm ta ml tn ((ou, .inl (cy 2, 1, .inr (.inl og))) :: (od, .inl (cy 3, 1, .inr (.inr (.inr (.inl oh))))) :: wM am cy th (cS mf mb mv) kp X tn ap le fc f1 f2 (biF kn on) ha ([]))) A s _ _ := g_wc hw G
    refine W.eq (g2 := F0 m 1649 ls [.int 1]) rfl ?_
    refine lv_istore (lv' := [(6, .int 1), (0, .ref b), (1, .ref (ad 0)), (2, .ref (am 0)), (3, .ref ou), (4, .ref od), (5, .int (nI li))]) hx hb dL_law_1649 hl (by decide) rfl (fun ls hl => ?_)
    refine lv_aload_n hx hb dL_law_1651 rfl (lv_at hl 3 rfl) ?_
    refine lv_aload_n hx hb dL_law_1652 rfl (lv_at hl 1 rfl) ?_
    refine lv_iload hx hb dL_law_1653 (lv_at hl 6 rfl) ?_
    refine lv_iconst (v := 1) hx hb dL_law_1655 (by decide) ?_
    refine lv_iadd hx hb dL_law_1656 ?_
    refine g_topi (x' := nI (li + 1)) (nI_add li 1) ?_
    refine va_sld hx hb hXs hbl hbA G.2.2 (vp_in_nI (n := li + 1) (by omega) (by omega)) dL_law_1657 ?_
    refine g_topi (x' := p0) (by rw [nI_clamp (n := li + 1) (by omega)]; exact hp0.symm) ?_
    refine lv_aload_n hx hb dL_law_1658 rfl (lv_at hl 1 rfl) ?_
    refine lv_iload hx hb dL_law_1659 (lv_at hl 6 rfl) ?_
    refine lv_iconst (v := 2) hx hb dL_law_1661 (by decide) ?_
    refine lv_iadd hx hb dL_law_1662 ?_
    refine g_topi (x' := nI (li + 2)) (nI_add li 2) ?_
    refine va_sld hx hb hXs hbl hbA G.2.2 (vp_in_nI (n := li + 2) (by omega) (by omega)) dL_law_1663 ?_
    refine g_topi (x' := p1) (by rw [nI_clamp (n := li + 2) (by omega)]; exact hp1.symm) ?_
    have G : gW D (wM am cy th (cS mf mb mv) kp X tn ap le fc f1 f2 (biF kn on) ha ((ou, .inl (cy 2, 1, .inr (.inl og))) :: (od, .inl (cy 3, 1, .inr (.inr (.inr (.inl oh))))) :: wC ad cy fr bk vw tk to fk fo kp sp lt ib rw cl nu tv tm ta ml tn ([]))) A s _ _ := g_swCM G
    refine g_callV (As := [.int p0, .int p1]) (rest := []) (q0 := 0) C0 G (c_X5_difference_e1 l D cy (am := am) (mf := mf) (mb := mb) (mv := mv) (th := th) (sv := kp) (X := X) (ln := tn) (ap := ap) (le := le) (fc := fc) (f1 := f1) (f2 := f2) (ha := ha) (R := ((ou, .inl (cy 2, 1, .inr (.inl og))) :: (od, .inl (cy 3, 1, .inr (.inr (.inr (.inl oh))))) :: wC ad cy fr bk vw tk to fk fo kp sp lt ib rw cl nu tv tm ta ml tn ([]))) (B := biF kn on) (p0 := p0) (p1 := p1) (by rw [inB_ir (x := p0) (n := 2) (hi := 2) rfl (by decide), inB_ir (x := p1) (n := 2) (hi := 2) rfl (by decide)]; exact hx9)) k_X5_difference ml_L_174 rfl rfl dL_law_1664 rfl rfl hl.1 (Nat.le_of_ble_eq_true rfl) ⟨Nat.le_of_ble_eq_true rfl, Nat.le_of_ble_eq_true rfl⟩ ⟨(by show _ ≤ 601024; omega), (by show _ ≤ 7293034; omega)⟩ (fun r W2 H locs hp G => ?_)
    obtain ⟨rfl, hw⟩ := hp
    have G := g_wc hw G
    refine W.eq (g2 := F0 m 1667 ls [.int 0]) rfl ?_
    refine lv_istore (lv' := [(7, .int 0), (6, .int 1), (0, .ref b), (1, .ref (ad 0)), (2, .ref (am 0)), (3, .ref ou), (4, .ref od), (5, .int (nI li))]) hx hb dL_law_1667 hl (by decide) rfl (fun ls hl => ?_)
    refine lv_aload_n hx hb dL_law_1669 rfl (lv_at hl 4 rfl) ?_
    refine g_callV (As := []) (rest := []) (q0 := 0) C0 G (c_X5_thrown l D cy (am := am) (mf := mf) (mb := mb) (mv := mv) (th := nI 1) (sv := kp) (X := X) (ln := tn) (ap := ap) (le := le) (fc := fc) (f1 := f1) (f2 := f2) (ha := ha) (R := ((ou, .inl (cy 2, 1, .inr (.inl og))) :: (od, .inl (cy 3, 1, .inr (.inr (.inr (.inl oh))))) :: wC ad cy fr bk vw tk to fk fo kp sp lt ib rw cl nu tv tm ta ml tn ([]))) (B := biF kn on)  ) k_X5_thrown ml_L_106 rfl rfl dL_law_1670 rfl rfl hl.1 (Nat.le_of_ble_eq_true rfl) ⟨Nat.le_of_ble_eq_true rfl, Nat.le_of_ble_eq_true rfl⟩ ⟨(by show _ ≤ 601024; omega), (by show _ ≤ 7293034; omega)⟩ (fun r W2 H locs hp G => ?_)
    obtain ⟨rfl, hw⟩ := hp
    have G := g_wc hw G
    refine W.eq (g2 := F0 m 1673 ls [.int (nI 1)]) rfl ?_
    refine g_topi (x' := 1) rfl ?_
    refine lv_iload hx hb dL_law_1673 (lv_at hl 1 rfl) ?_
    refine lv_icmp_eq (tgt := 1680) hx hb dL_law_1675 (by decide) (fun c_1675 => ?_) (fun c_1675 => ?_)
    · skip
      refine lv_iload hx hb dL_law_1680 (lv_at hl 1 rfl) ?_
      refine lv_if_ne (tgt := 1697) hx hb dL_law_1682 (by decide) (fun c_1682 => ?_) (fun c_1682 => ?_)
      · skip
        refine lv_goto (tgt := 1897) hx hb dL_law_1697 (by decide) ?_
        have G : gW D (wC ad cy fr bk vw tk to fk fo kp sp lt ib rw cl nu tv tm ta ml tn ((ou, .inl (cy 2, 1, .inr (.inl og))) :: (od, .inl (cy 3, 1, .inr (.inr (.inr (.inl oh))))) :: wM am cy (nI 1) (cS mf mb mv) kp X tn ap le fc f1 f2 (biF kn on) ha ([]))) A s _ _ := g_swMC G
        refine W.widen (k := cells + 8) (n := slots + 400) (by omega) (by omega) ?_
        exact kk _ _ _ ⟨fr, bk, vw, tk, to, fk, fo, kp, sp, lt, ib, rw, cl, nu, tv, tm, ta, ml, tn, mf, mb, mv, kn, on, (nI 1), X, ap, le, fc, f1, f2, ha, og, oh, tx, hF, hT, hR, G⟩ (lv_sub hl [2, 3, 4, 5, 6, 7] rfl)
      · exact absurd c_1682 (by decide)
    · exact absurd c_1675 (by decide)

set_option maxHeartbeats 4000000 in
set_option maxRecDepth 100000 in
theorem lw_c22 {p : Program} {l : Launch} {e : Env} {s : State} {m : MethodId} {below : List Frame} {meth : Method} {c : Code} {H : Heap} {locs : List Loc} {cells slots : Nat} {Q : State → Prop} {D : va_G} {cy : Nat → ClassId} {A : Nat → Prop} {ad am : Nat → Nat} {ou od b L li : Nat} {xs : Nat → Int32} {ls : Array Slot} (C0 : gC p s m #[.ref b] meth c code 9 (some .boolean) RL D (gts cy) A) (hst : l.stackTraces = false) (hXs : va_X b L xs s s.heap) (hbl : b < s.heap.size) (hbA : ¬ A b) (hli : li + 3 < L) (hL : L ≤ 2048) (hce : cells + 8 ≤ 601024) (hsl : slots + 400 ≤ 7293034) (I : lwI D A s cy ad am ou od H locs) (hl : lv_has ls 9 [(0, .ref b), (1, .ref (ad 0)), (2, .ref (am 0)), (3, .ref ou), (4, .ref od), (5, .int (nI li))])
    (kk : ∀ (H : Heap) (locs : List Loc) (ls : Array Slot), lwI D A s cy ad am ou od H locs → lv_has ls 9 [(0, .ref b), (1, .ref (ad 0)), (2, .ref (am 0)), (3, .ref ou), (4, .ref od), (5, .int (nI li))] → W p l e room_1 s m #[.ref b] below meth c H locs (cells + 8) (slots + 400) Q (F0 m 1897 ls [])) : W p l e room_1 s m #[.ref b] below meth c H locs cells slots Q (F0 m 1700 ls []) := by
  obtain ⟨fr, bk, vw, tk, to, fk, fo, kp, sp, lt, ib, rw, cl, nu, tv, tm, ta, ml, tn, mf, mb, mv, kn, on, th, X, ap, le, fc, f1, f2, ha, og, oh, tx, hF, hT, hR, G⟩ := I
  have hx := C0.1
  have hb := C0.2.1
  have hown := C0.2.2.2.2.2.1
  have hts := C0.2.2.2.2.2.2.1
  have hRs : rsOk (0, lt, ib, rw, cl, nu) := ⟨by show 0 < 9; decide, hR.2⟩
  have hkp := hF.1
  have h60 := hT.2.2.1
  have htm := hT.1
  obtain ⟨p0, hp0⟩ : ∃ z : Int32, z = xs (li + 1) := ⟨_, rfl⟩
  refine lv_aload_n hx hb dL_law_1700 rfl (lv_at hl 1 rfl) ?_
  refine lv_aload_n hx hb dL_law_1701 rfl (lv_at hl 0 rfl) ?_
  refine lv_iload hx hb dL_law_1702 (lv_at hl 5 rfl) ?_
  refine lv_iconst (v := 1) hx hb dL_law_1704 (by decide) ?_
  refine lv_iadd hx hb dL_law_1705 ?_
  refine g_topi (x' := nI (li + 1)) (nI_add li 1) ?_
  refine va_sld hx hb hXs hbl hbA G.2.2 (vp_in_nI (n := li + 1) (by omega) (by omega)) dL_law_1706 ?_
  refine g_topi (x' := p0) (by rw [nI_clamp (n := li + 1) (by omega)]; exact hp0.symm) ?_
  refine lv_aload_n hx hb dL_law_1707 rfl (lv_at hl 3 rfl) ?_
  refine g_callH (As := [.ref (ad 0), .int p0, .ref ou]) (rest := []) C0 G (c_L_append l D cy (ad := ad) (fr := fr) (bk := bk) (vw := vw) (tk := tk) (to := to) (fk := fk) (fo := fo) (kp := kp) (sp := sp) (lt := lt) (ib := ib) (rw := rw) (cl := cl) (nu := nu) (tv := tv) (tm := tm) (ta := ta) (ml := ml) (tn := tn) (R := wM am cy th (cS mf mb mv) kp X tn ap le fc f1 f2 (biF kn on) ha ([])) (ou := ou) (od := od) (og := og) (oh := oh) (p0 := p0) hst hT.1 hT.2.1 hT.2.2.1 hT.2.2.2.1) k_L_append ml_L_175 dL_law_1708 rfl rfl hl.1 (Nat.le_of_ble_eq_true rfl) ⟨Nat.le_of_ble_eq_true rfl, Nat.le_of_ble_eq_true rfl⟩ ⟨(by show _ ≤ 601024; omega), (by show _ ≤ 7293034; omega)⟩ (fun r W2 H locs hp G => ?_)
  rcases hp with ⟨u, t2, m2, a2, hu1, hu2, rfl, h60b, hm2, htm2, ha1, ha2, hft, rfl, hw⟩ | ⟨rfl, hw, hx9⟩ | ⟨rfl, hw, hx9⟩
  · skip
    have G : gW D (wC ad cy fr bk vw tk to fk fo kp sp lt ib rw cl nu t2 m2 a2 ml (tn + 1) ((ou, .inl (cy 2, 1, .inr (.inl (vp_updL og 0 (nI (tn + 1)).toInt64)))) :: (od, .inl (cy 3, 1, .inr (.inr (.inr (.inl oh))))) :: wM am cy th (cS mf mb mv) kp X tn ap le fc f1 f2 (biF kn on) ha ([]))) A s _ _ := g_wc hw G
    refine W.eq (g2 := F0 m 1711 ls [.int 0]) rfl ?_
    refine lv_istore (lv' := [(6, .int 0), (0, .ref b), (1, .ref (ad 0)), (2, .ref (am 0)), (3, .ref ou), (4, .ref od), (5, .int (nI li))]) hx hb dL_law_1711 hl (by decide) rfl (fun ls hl => ?_)
    refine lv_aload_n hx hb dL_law_1713 rfl (lv_at hl 3 rfl) ?_
    refine lv_aload_n hx hb dL_law_1714 rfl (lv_at hl 1 rfl) ?_
    refine lv_iload hx hb dL_law_1715 (lv_at hl 6 rfl) ?_
    refine lv_iconst (v := 1) hx hb dL_law_1717 (by decide) ?_
    refine lv_iadd hx hb dL_law_1718 ?_
    refine g_topi (x' := nI (li + 1)) (nI_add li 1) ?_
    refine va_sld hx hb hXs hbl hbA G.2.2 (vp_in_nI (n := li + 1) (by omega) (by omega)) dL_law_1719 ?_
    refine g_topi (x' := nI u) (by rw [nI_clamp (n := li + 1) (by omega)]; exact hp0.symm) ?_
    have G : gW D (wM am cy th (cS mf mb mv) kp X tn ap le fc f1 f2 (biF kn on) ha ((ou, .inl (cy 2, 1, .inr (.inl (vp_updL og 0 (nI (tn + 1)).toInt64)))) :: (od, .inl (cy 3, 1, .inr (.inr (.inr (.inl oh))))) :: wC ad cy fr bk vw tk to fk fo kp sp lt ib rw cl nu t2 m2 a2 ml (tn + 1) ([]))) A s _ _ := g_swCM G
    refine g_callV (As := [.int (nI u)]) (rest := []) (q0 := 0) C0 G (c_X5_append_ok l D cy (am := am) (mf := mf) (mb := mb) (mv := mv) (th := th) (sv := kp) (X := X) (ln := tn) (ap := ap) (le := le) (fc := fc) (f1 := f1) (f2 := f2) (ha := ha) (R := ((ou, .inl (cy 2, 1, .inr (.inl (vp_updL og 0 (nI (tn + 1)).toInt64)))) :: (od, .inl (cy 3, 1, .inr (.inr (.inr (.inl oh))))) :: wC ad cy fr bk vw tk to fk fo kp sp lt ib rw cl nu t2 m2 a2 ml (tn + 1) ([]))) (B := biF kn on) (u := u) (by omega) (by omega) (by omega) (inB_u hu1 hu2)) k_X5_append ml_L_177 rfl rfl dL_law_1720 rfl rfl hl.1 (Nat.le_of_ble_eq_true rfl) ⟨Nat.le_of_ble_eq_true rfl, Nat.le_of_ble_eq_true rfl⟩ ⟨(by show _ ≤ 601024; omega), (by show _ ≤ 7293034; omega)⟩ (fun r W2 H locs hp G => ?_)
    obtain ⟨rfl, hw⟩ := hp
    have G := g_wc hw G
    refine W.eq (g2 := F0 m 1723 ls [.int (nI (tn + 1))]) rfl ?_
    refine lv_istore (lv' := [(7, .int (nI (tn + 1))), (6, .int 0), (0, .ref b), (1, .ref (ad 0)), (2, .ref (am 0)), (3, .ref ou), (4, .ref od), (5, .int (nI li))]) hx hb dL_law_1723 hl (by decide) rfl (fun ls hl => ?_)
    refine lv_aload_n hx hb dL_law_1725 rfl (lv_at hl 4 rfl) ?_
    refine g_callV (As := []) (rest := []) (q0 := 0) C0 G (c_X5_thrown l D cy (am := am) (mf := mf) (mb := mb) (mv := mv) (th := nI 0) (sv := kp) (X := upd X tn (nI u)) (ln := tn + 1) (ap := ap) (le := le) (fc := fc) (f1 := f1) (f2 := f2) (ha := ha) (R := ((ou, .inl (cy 2, 1, .inr (.inl (vp_updL og 0 (nI (tn + 1)).toInt64)))) :: (od, .inl (cy 3, 1, .inr (.inr (.inr (.inl oh))))) :: wC ad cy fr bk vw tk to fk fo kp sp lt ib rw cl nu t2 m2 a2 ml (tn + 1) ([]))) (B := biF kn on)  ) k_X5_thrown ml_L_106 rfl rfl dL_law_1726 rfl rfl hl.1 (Nat.le_of_ble_eq_true rfl) ⟨Nat.le_of_ble_eq_true rfl, Nat.le_of_ble_eq_true rfl⟩ ⟨(by show _ ≤ 601024; omega), (by show _ ≤ 7293034; omega)⟩ (fun r W2 H locs hp G => ?_)
    obtain ⟨rfl, hw⟩ := hp
    have G := g_wc hw G
    refine W.eq (g2 := F0 m 1729 ls [.int (nI 0)]) rfl ?_
    refine g_topi (x' := 0) rfl ?_
    refine lv_iload hx hb dL_law_1729 (lv_at hl 1 rfl) ?_
    refine lv_icmp_eq (tgt := 1736) hx hb dL_law_1731 (by decide) (fun c_1731 => ?_) (fun c_1731 => ?_)
    · skip
      refine lv_iload hx hb dL_law_1736 (lv_at hl 1 rfl) ?_
      refine lv_if_ne (tgt := 1753) hx hb dL_law_1738 (by decide) (fun c_1738 => ?_) (fun c_1738 => ?_)
      · exact absurd c_1738 (by decide)
      · skip
        refine lv_aload_n hx hb dL_law_1741 rfl (lv_at hl 5 rfl) ?_
        refine lv_iconst (v := 0) hx hb dL_law_1742 (by decide) ?_
        refine g_topi (x' := nI 0) rfl ?_
        refine g_lald (q0 := 4) (n := 1) C0 G rfl 2 rfl (vp_in_nI (n := 0) (by omega) (by decide)) dL_law_1743 ?_
        refine g_topl (x' := (vp_updL og 0 (nI (tn + 1)).toInt64) 0) (congrArg (vp_updL og 0 (nI (tn + 1)).toInt64) (nI_clamp (n := 0) (by omega))) ?_
        refine g_topl (x' := (nI (tn + 1)).toInt64) (if_pos rfl) ?_
        refine lv_iload hx hb dL_law_1744 (lv_at hl 0 rfl) ?_
        refine lv_i2l hx hb dL_law_1746 rfl ?_
        refine W.lcmp hx hb dL_law_1747 ?_
        refine lv_if_eq (tgt := 1753) hx hb dL_law_1748 (by decide) (fun c_1748 => ?_) (fun c_1748 => ?_)
        · skip
          have c_1748 : ((nI (tn + 1)).toInt64) = ((nI (tn + 1)).toInt64) := lgc_eq.mp c_1748
          refine lv_goto (tgt := 1897) hx hb dL_law_1753 (by decide) ?_
          have G : gW D (wC ad cy fr bk vw tk to fk fo kp sp lt ib rw cl nu t2 m2 a2 ml (tn + 1) ((ou, .inl (cy 2, 1, .inr (.inl (vp_updL og 0 (nI (tn + 1)).toInt64)))) :: (od, .inl (cy 3, 1, .inr (.inr (.inr (.inl oh))))) :: wM am cy (nI 0) (cS mf mb mv) kp (upd X tn (nI u)) (tn + 1) ap le fc f1 f2 (biF kn on) ha ([]))) A s _ _ := g_swMC G
          refine W.widen (k := cells + 8) (n := slots + 400) (by omega) (by omega) ?_
          exact kk _ _ _ ⟨fr, bk, vw, tk, to, fk, fo, kp, sp, lt, ib, rw, cl, nu, t2, m2, a2, ml, (tn + 1), mf, mb, mv, kn, on, (nI 0), (upd X tn (nI u)), ap, le, fc, f1, f2, ha, (vp_updL og 0 (nI (tn + 1)).toInt64), oh, (fun j => if j = tn then u else tx j), hF, (lwT_app hT h60b (by omega) hm2 htm2 ha1 ha2 hft), hR, G⟩ (lv_sub hl [2, 3, 4, 5, 6, 7] rfl)
        · skip
          have c_1748 : ¬ ((nI (tn + 1)).toInt64) = ((nI (tn + 1)).toInt64) := fun h => c_1748 (lgc_eq.mpr h)
          exact absurd rfl c_1748
    · exact absurd c_1731 (by decide)
  · skip
    have G : gW D (wC ad cy fr bk vw tk to fk fo kp sp lt ib rw cl nu tv tm ta ml tn ((ou, .inl (cy 2, 1, .inr (.inl og))) :: (od, .inl (cy 3, 1, .inr (.inr (.inr (.inl oh))))) :: wM am cy th (cS mf mb mv) kp X tn ap le fc f1 f2 (biF kn on) ha ([]))) A s _ _ := g_wc hw G
    refine W.eq (g2 := F0 m 1711 ls [.int 1]) rfl ?_
    refine lv_istore (lv' := [(6, .int 1), (0, .ref b), (1, .ref (ad 0)), (2, .ref (am 0)), (3, .ref ou), (4, .ref od), (5, .int (nI li))]) hx hb dL_law_1711 hl (by decide) rfl (fun ls hl => ?_)
    refine lv_aload_n hx hb dL_law_1713 rfl (lv_at hl 3 rfl) ?_
    refine lv_aload_n hx hb dL_law_1714 rfl (lv_at hl 1 rfl) ?_
    refine lv_iload hx hb dL_law_1715 (lv_at hl 6 rfl) ?_
    refine lv_iconst (v := 1) hx hb dL_law_1717 (by decide) ?_
    refine lv_iadd hx hb dL_law_1718 ?_
    refine g_topi (x' := nI (li + 1)) (nI_add li 1) ?_
    refine va_sld hx hb hXs hbl hbA G.2.2 (vp_in_nI (n := li + 1) (by omega) (by omega)) dL_law_1719 ?_
    refine g_topi (x' := p0) (by rw [nI_clamp (n := li + 1) (by omega)]; exact hp0.symm) ?_
    have G : gW D (wM am cy th (cS mf mb mv) kp X tn ap le fc f1 f2 (biF kn on) ha ((ou, .inl (cy 2, 1, .inr (.inl og))) :: (od, .inl (cy 3, 1, .inr (.inr (.inr (.inl oh))))) :: wC ad cy fr bk vw tk to fk fo kp sp lt ib rw cl nu tv tm ta ml tn ([]))) A s _ _ := g_swCM G
    refine g_callV (As := [.int p0]) (rest := []) (q0 := 0) C0 G (c_X5_append_e1 l D cy (am := am) (mf := mf) (mb := mb) (mv := mv) (th := th) (sv := kp) (X := X) (ln := tn) (ap := ap) (le := le) (fc := fc) (f1 := f1) (f2 := f2) (ha := ha) (R := ((ou, .inl (cy 2, 1, .inr (.inl og))) :: (od, .inl (cy 3, 1, .inr (.inr (.inr (.inl oh))))) :: wC ad cy fr bk vw tk to fk fo kp sp lt ib rw cl nu tv tm ta ml tn ([]))) (B := biF kn on) (p0 := p0) hx9) k_X5_append ml_L_177 rfl rfl dL_law_1720 rfl rfl hl.1 (Nat.le_of_ble_eq_true rfl) ⟨Nat.le_of_ble_eq_true rfl, Nat.le_of_ble_eq_true rfl⟩ ⟨(by show _ ≤ 601024; omega), (by show _ ≤ 7293034; omega)⟩ (fun r W2 H locs hp G => ?_)
    obtain ⟨rfl, hw⟩ := hp
    have G := g_wc hw G
    refine W.eq (g2 := F0 m 1723 ls [.int 0]) rfl ?_
    refine lv_istore (lv' := [(7, .int 0), (6, .int 1), (0, .ref b), (1, .ref (ad 0)), (2, .ref (am 0)), (3, .ref ou), (4, .ref od), (5, .int (nI li))]) hx hb dL_law_1723 hl (by decide) rfl (fun ls hl => ?_)
    refine lv_aload_n hx hb dL_law_1725 rfl (lv_at hl 4 rfl) ?_
    refine g_callV (As := []) (rest := []) (q0 := 0) C0 G (c_X5_thrown l D cy (am := am) (mf := mf) (mb := mb) (mv := mv) (th := nI 1) (sv := kp) (X := X) (ln := tn) (ap := ap) (le := le) (fc := fc) (f1 := f1) (f2 := f2) (ha := ha) (R := ((ou, .inl (cy 2, 1, .inr (.inl og))) :: (od, .inl (cy 3, 1, .inr (.inr (.inr (.inl oh))))) :: wC ad cy fr bk vw tk to fk fo kp sp lt ib rw cl nu tv tm ta ml tn ([]))) (B := biF kn on)  ) k_X5_thrown ml_L_106 rfl rfl dL_law_1726 rfl rfl hl.1 (Nat.le_of_ble_eq_true rfl) ⟨Nat.le_of_ble_eq_true rfl, Nat.le_of_ble_eq_true rfl⟩ ⟨(by show _ ≤ 601024; omega), (by show _ ≤ 7293034; omega)⟩ (fun r W2 H locs hp G => ?_)
    obtain ⟨rfl, hw⟩ := hp
    have G := g_wc hw G
    refine W.eq (g2 := F0 m 1729 ls [.int (nI 1)]) rfl ?_
    refine g_topi (x' := 1) rfl ?_
    refine lv_iload hx hb dL_law_1729 (lv_at hl 1 rfl) ?_
    refine lv_icmp_eq (tgt := 1736) hx hb dL_law_1731 (by decide) (fun c_1731 => ?_) (fun c_1731 => ?_)
    · skip
      refine lv_iload hx hb dL_law_1736 (lv_at hl 1 rfl) ?_
      refine lv_if_ne (tgt := 1753) hx hb dL_law_1738 (by decide) (fun c_1738 => ?_) (fun c_1738 => ?_)
      · skip
        refine lv_goto (tgt := 1897) hx hb dL_law_1753 (by decide) ?_
        have G : gW D (wC ad cy fr bk vw tk to fk fo kp sp lt ib rw cl nu tv tm ta ml tn ((ou, .inl (cy 2, 1, .inr (.inl og))) :: (od, .inl (cy 3, 1, .inr (.inr (.inr (.inl oh))))) :: wM am cy (nI 1) (cS mf mb mv) kp X tn ap le fc f1 f2 (biF kn on) ha ([]))) A s _ _ := g_swMC G
        refine W.widen (k := cells + 8) (n := slots + 400) (by omega) (by omega) ?_
        exact kk _ _ _ ⟨fr, bk, vw, tk, to, fk, fo, kp, sp, lt, ib, rw, cl, nu, tv, tm, ta, ml, tn, mf, mb, mv, kn, on, (nI 1), X, ap, le, fc, f1, f2, ha, og, oh, tx, hF, hT, hR, G⟩ (lv_sub hl [2, 3, 4, 5, 6, 7] rfl)
      · exact absurd c_1738 (by decide)
    · exact absurd c_1731 (by decide)
  · skip
    obtain ⟨a1, h60c⟩ := hx9
    obtain ⟨u, hu1, hu2, rfl⟩ := ap_inB a1
    have G : gW D (wC ad cy fr bk vw tk to fk fo kp sp lt ib rw cl nu tv tm ta ml tn ((ou, .inl (cy 2, 1, .inr (.inl og))) :: (od, .inl (cy 3, 1, .inr (.inr (.inr (.inl oh))))) :: wM am cy th (cS mf mb mv) kp X tn ap le fc f1 f2 (biF kn on) ha ([]))) A s _ _ := g_wc hw G
    refine W.eq (g2 := F0 m 1711 ls [.int 2]) rfl ?_
    refine lv_istore (lv' := [(6, .int 2), (0, .ref b), (1, .ref (ad 0)), (2, .ref (am 0)), (3, .ref ou), (4, .ref od), (5, .int (nI li))]) hx hb dL_law_1711 hl (by decide) rfl (fun ls hl => ?_)
    refine lv_aload_n hx hb dL_law_1713 rfl (lv_at hl 3 rfl) ?_
    refine lv_aload_n hx hb dL_law_1714 rfl (lv_at hl 1 rfl) ?_
    refine lv_iload hx hb dL_law_1715 (lv_at hl 6 rfl) ?_
    refine lv_iconst (v := 1) hx hb dL_law_1717 (by decide) ?_
    refine lv_iadd hx hb dL_law_1718 ?_
    refine g_topi (x' := nI (li + 1)) (nI_add li 1) ?_
    refine va_sld hx hb hXs hbl hbA G.2.2 (vp_in_nI (n := li + 1) (by omega) (by omega)) dL_law_1719 ?_
    refine g_topi (x' := nI u) (by rw [nI_clamp (n := li + 1) (by omega)]; exact hp0.symm) ?_
    have G : gW D (wM am cy th (cS mf mb mv) kp X tn ap le fc f1 f2 (biF kn on) ha ((ou, .inl (cy 2, 1, .inr (.inl og))) :: (od, .inl (cy 3, 1, .inr (.inr (.inr (.inl oh))))) :: wC ad cy fr bk vw tk to fk fo kp sp lt ib rw cl nu tv tm ta ml tn ([]))) A s _ _ := g_swCM G
    refine g_callV (As := [.int (nI u)]) (rest := []) (q0 := 0) C0 G (c_X5_append_e2 l D cy (am := am) (mf := mf) (mb := mb) (mv := mv) (th := th) (sv := kp) (X := X) (ln := tn) (ap := ap) (le := le) (fc := fc) (f1 := f1) (f2 := f2) (ha := ha) (R := ((ou, .inl (cy 2, 1, .inr (.inl og))) :: (od, .inl (cy 3, 1, .inr (.inr (.inr (.inl oh))))) :: wC ad cy fr bk vw tk to fk fo kp sp lt ib rw cl nu tv tm ta ml tn ([]))) (B := biF kn on) (u := u) (by omega) (by omega) (by omega) (inB_u hu1 hu2)) k_X5_append ml_L_177 rfl rfl dL_law_1720 rfl rfl hl.1 (Nat.le_of_ble_eq_true rfl) ⟨Nat.le_of_ble_eq_true rfl, Nat.le_of_ble_eq_true rfl⟩ ⟨(by show _ ≤ 601024; omega), (by show _ ≤ 7293034; omega)⟩ (fun r W2 H locs hp G => ?_)
    obtain ⟨rfl, hw⟩ := hp
    have G := g_wc hw G
    refine W.eq (g2 := F0 m 1723 ls [.int 0]) rfl ?_
    refine lv_istore (lv' := [(7, .int 0), (6, .int 2), (0, .ref b), (1, .ref (ad 0)), (2, .ref (am 0)), (3, .ref ou), (4, .ref od), (5, .int (nI li))]) hx hb dL_law_1723 hl (by decide) rfl (fun ls hl => ?_)
    refine lv_aload_n hx hb dL_law_1725 rfl (lv_at hl 4 rfl) ?_
    refine g_callV (As := []) (rest := []) (q0 := 0) C0 G (c_X5_thrown l D cy (am := am) (mf := mf) (mb := mb) (mv := mv) (th := nI 2) (sv := kp) (X := X) (ln := tn) (ap := ap) (le := le) (fc := fc) (f1 := f1) (f2 := f2) (ha := ha) (R := ((ou, .inl (cy 2, 1, .inr (.inl og))) :: (od, .inl (cy 3, 1, .inr (.inr (.inr (.inl oh))))) :: wC ad cy fr bk vw tk to fk fo kp sp lt ib rw cl nu tv tm ta ml tn ([]))) (B := biF kn on)  ) k_X5_thrown ml_L_106 rfl rfl dL_law_1726 rfl rfl hl.1 (Nat.le_of_ble_eq_true rfl) ⟨Nat.le_of_ble_eq_true rfl, Nat.le_of_ble_eq_true rfl⟩ ⟨(by show _ ≤ 601024; omega), (by show _ ≤ 7293034; omega)⟩ (fun r W2 H locs hp G => ?_)
    obtain ⟨rfl, hw⟩ := hp
    have G := g_wc hw G
    refine W.eq (g2 := F0 m 1729 ls [.int (nI 2)]) rfl ?_
    refine g_topi (x' := 2) rfl ?_
    refine lv_iload hx hb dL_law_1729 (lv_at hl 1 rfl) ?_
    refine lv_icmp_eq (tgt := 1736) hx hb dL_law_1731 (by decide) (fun c_1731 => ?_) (fun c_1731 => ?_)
    · skip
      refine lv_iload hx hb dL_law_1736 (lv_at hl 1 rfl) ?_
      refine lv_if_ne (tgt := 1753) hx hb dL_law_1738 (by decide) (fun c_1738 => ?_) (fun c_1738 => ?_)
      · skip
        refine lv_goto (tgt := 1897) hx hb dL_law_1753 (by decide) ?_
        have G : gW D (wC ad cy fr bk vw tk to fk fo kp sp lt ib rw cl nu tv tm ta ml tn ((ou, .inl (cy 2, 1, .inr (.inl og))) :: (od, .inl (cy 3, 1, .inr (.inr (.inr (.inl oh))))) :: wM am cy (nI 2) (cS mf mb mv) kp X tn ap le fc f1 f2 (biF kn on) ha ([]))) A s _ _ := g_swMC G
        refine W.widen (k := cells + 8) (n := slots + 400) (by omega) (by omega) ?_
        exact kk _ _ _ ⟨fr, bk, vw, tk, to, fk, fo, kp, sp, lt, ib, rw, cl, nu, tv, tm, ta, ml, tn, mf, mb, mv, kn, on, (nI 2), X, ap, le, fc, f1, f2, ha, og, oh, tx, hF, hT, hR, G⟩ (lv_sub hl [2, 3, 4, 5, 6, 7] rfl)
      · exact absurd c_1738 (by decide)
    · exact absurd c_1731 (by decide)

set_option maxHeartbeats 4000000 in
set_option maxRecDepth 100000 in
theorem lw_c23 {p : Program} {l : Launch} {e : Env} {s : State} {m : MethodId} {below : List Frame} {meth : Method} {c : Code} {H : Heap} {locs : List Loc} {cells slots : Nat} {Q : State → Prop} {D : va_G} {cy : Nat → ClassId} {A : Nat → Prop} {ad am : Nat → Nat} {ou od b L li : Nat} {xs : Nat → Int32} {ls : Array Slot} (C0 : gC p s m #[.ref b] meth c code 9 (some .boolean) RL D (gts cy) A) (hst : l.stackTraces = false) (hXs : va_X b L xs s s.heap) (hbl : b < s.heap.size) (hbA : ¬ A b) (hli : li + 3 < L) (hL : L ≤ 2048) (hce : cells + 8 ≤ 601024) (hsl : slots + 400 ≤ 7293034) (I : lwI D A s cy ad am ou od H locs) (hl : lv_has ls 9 [(0, .ref b), (1, .ref (ad 0)), (2, .ref (am 0)), (3, .ref ou), (4, .ref od), (5, .int (nI li))])
    (kk : ∀ (H : Heap) (locs : List Loc) (ls : Array Slot), lwI D A s cy ad am ou od H locs → lv_has ls 9 [(0, .ref b), (1, .ref (ad 0)), (2, .ref (am 0)), (3, .ref ou), (4, .ref od), (5, .int (nI li))] → W p l e room_1 s m #[.ref b] below meth c H locs (cells + 8) (slots + 400) Q (F0 m 1897 ls [])) : W p l e room_1 s m #[.ref b] below meth c H locs cells slots Q (F0 m 1756 ls []) := by
  obtain ⟨fr, bk, vw, tk, to, fk, fo, kp, sp, lt, ib, rw, cl, nu, tv, tm, ta, ml, tn, mf, mb, mv, kn, on, th, X, ap, le, fc, f1, f2, ha, og, oh, tx, hF, hT, hR, G⟩ := I
  have hx := C0.1
  have hb := C0.2.1
  have hown := C0.2.2.2.2.2.1
  have hts := C0.2.2.2.2.2.2.1
  have hRs : rsOk (0, lt, ib, rw, cl, nu) := ⟨by show 0 < 9; decide, hR.2⟩
  have hkp := hF.1
  have h60 := hT.2.2.1
  have htm := hT.1
  have htn := hT.2.1
  refine lv_aload_n hx hb dL_law_1756 rfl (lv_at hl 1 rfl) ?_
  refine g_callV (As := []) (rest := []) (q0 := 0) C0 G (c_X4_clearText l D cy (ad := ad) (fr := fr) (bk := bk) (vw := vw) (tk := tk) (to := to) (fk := fk) (fo := fo) (kp := kp) (sp := sp) (lt := lt) (ib := ib) (rw := rw) (cl := cl) (nu := nu) (tv := tv) (tm := tm) (ta := ta) (ml := ml) (tn := tn) (R := ((ou, .inl (cy 2, 1, .inr (.inl og))) :: (od, .inl (cy 3, 1, .inr (.inr (.inr (.inl oh))))) :: wM am cy th (cS mf mb mv) kp X tn ap le fc f1 f2 (biF kn on) ha ([])))  (by omega) (by omega)) k_X4_clearText ml_L_178 rfl rfl dL_law_1757 rfl rfl hl.1 (Nat.le_of_ble_eq_true rfl) ⟨Nat.le_of_ble_eq_true rfl, Nat.le_of_ble_eq_true rfl⟩ ⟨(by show _ ≤ 601024; omega), (by show _ ≤ 7293034; omega)⟩ (fun r W2 H locs hp G => ?_)
  obtain ⟨rfl, hw⟩ := hp
  have G := g_wc hw G
  refine W.eq (g2 := F0 m 1760 ls [.int (nI tn)]) rfl ?_
  refine lv_aload_n hx hb dL_law_1760 rfl (lv_at hl 2 rfl) ?_
  have G : gW D (wM am cy th (cS mf mb mv) kp X tn ap le fc f1 f2 (biF kn on) ha ((ou, .inl (cy 2, 1, .inr (.inl og))) :: (od, .inl (cy 3, 1, .inr (.inr (.inr (.inl oh))))) :: wC ad cy fr bk vw tk to fk fo kp sp lt ib rw cl nu tv tm ta (if tn ≤ 0 then ml else 1) 0 ([]))) A s _ _ := g_swCM G
  refine g_callV (As := []) (rest := [.int (nI tn)]) (q0 := 0) C0 G (c_X5_clearText_ok l D cy (am := am) (mf := mf) (mb := mb) (mv := mv) (th := th) (sv := kp) (X := X) (ln := tn) (ap := ap) (le := le) (fc := fc) (f1 := f1) (f2 := f2) (ha := ha) (R := ((ou, .inl (cy 2, 1, .inr (.inl og))) :: (od, .inl (cy 3, 1, .inr (.inr (.inr (.inl oh))))) :: wC ad cy fr bk vw tk to fk fo kp sp lt ib rw cl nu tv tm ta (if tn ≤ 0 then ml else 1) 0 ([]))) (B := biF kn on)  ) k_X5_clearText ml_L_181 rfl rfl dL_law_1761 rfl rfl hl.1 (Nat.le_of_ble_eq_true rfl) ⟨Nat.le_of_ble_eq_true rfl, Nat.le_of_ble_eq_true rfl⟩ ⟨(by show _ ≤ 601024; omega), (by show _ ≤ 7293034; omega)⟩ (fun r W2 H locs hp G => ?_)
  obtain ⟨rfl, hw⟩ := hp
  have G := g_wc hw G
  refine W.eq (g2 := F0 m 1764 ls [.int (nI tn), .int (nI tn)]) rfl ?_
  refine lv_icmp_eq (tgt := 1897) hx hb dL_law_1764 (by decide) (fun c_1764 => ?_) (fun c_1764 => ?_)
  · skip
    have c_1764 : tn = tn := (nI_eq (a := tn) (b := tn) (by omega) (by omega)).mp c_1764
    have G : gW D (wC ad cy fr bk vw tk to fk fo kp sp lt ib rw cl nu tv tm ta (if tn ≤ 0 then ml else 1) 0 ((ou, .inl (cy 2, 1, .inr (.inl og))) :: (od, .inl (cy 3, 1, .inr (.inr (.inr (.inl oh))))) :: wM am cy 0 (cS mf mb mv) kp X 0 ap le fc f1 f2 (biF kn on) ha ([]))) A s _ _ := g_swMC G
    refine W.widen (k := cells + 8) (n := slots + 400) (by omega) (by omega) ?_
    exact kk _ _ _ ⟨fr, bk, vw, tk, to, fk, fo, kp, sp, lt, ib, rw, cl, nu, tv, tm, ta, (if tn ≤ 0 then ml else 1), 0, mf, mb, mv, kn, on, 0, X, ap, le, fc, f1, f2, ha, og, oh, tx, hF, (lwT_0 hT), hR, G⟩ (lv_sub hl [0, 1, 2, 3, 4, 5] rfl)
  · skip
    have c_1764 : ¬ (tn = tn) := fun h => c_1764 ((nI_eq (a := tn) (b := tn) (by omega) (by omega)).mpr h)
    exact absurd rfl c_1764

set_option maxHeartbeats 4000000 in
set_option maxRecDepth 100000 in
theorem lw_c24 {p : Program} {l : Launch} {e : Env} {s : State} {m : MethodId} {below : List Frame} {meth : Method} {c : Code} {H : Heap} {locs : List Loc} {cells slots : Nat} {Q : State → Prop} {D : va_G} {cy : Nat → ClassId} {A : Nat → Prop} {ad am : Nat → Nat} {ou od b L li : Nat} {xs : Nat → Int32} {ls : Array Slot} (C0 : gC p s m #[.ref b] meth c code 9 (some .boolean) RL D (gts cy) A) (hst : l.stackTraces = false) (hXs : va_X b L xs s s.heap) (hbl : b < s.heap.size) (hbA : ¬ A b) (hli : li + 3 < L) (hL : L ≤ 2048) (hce : cells + 8 ≤ 601024) (hsl : slots + 400 ≤ 7293034) (I : lwI D A s cy ad am ou od H locs) (hl : lv_has ls 9 [(0, .ref b), (1, .ref (ad 0)), (2, .ref (am 0)), (3, .ref ou), (4, .ref od), (5, .int (nI li))])
    (kk : ∀ (H : Heap) (locs : List Loc) (ls : Array Slot), lwI D A s cy ad am ou od H locs → lv_has ls 9 [(0, .ref b), (1, .ref (ad 0)), (2, .ref (am 0)), (3, .ref ou), (4, .ref od), (5, .int (nI li))] → W p l e room_1 s m #[.ref b] below meth c H locs (cells + 8) (slots + 400) Q (F0 m 1897 ls [])) : W p l e room_1 s m #[.ref b] below meth c H locs cells slots Q (F0 m 1769 ls []) := by
  obtain ⟨fr, bk, vw, tk, to, fk, fo, kp, sp, lt, ib, rw, cl, nu, tv, tm, ta, ml, tn, mf, mb, mv, kn, on, th, X, ap, le, fc, f1, f2, ha, og, oh, tx, hF, hT, hR, G⟩ := I
  have hx := C0.1
  have hb := C0.2.1
  have hown := C0.2.2.2.2.2.1
  have hts := C0.2.2.2.2.2.2.1
  have hRs : rsOk (0, lt, ib, rw, cl, nu) := ⟨by show 0 < 9; decide, hR.2⟩
  have hkp := hF.1
  have h60 := hT.2.2.1
  have htm := hT.1
  have hld := ldN_le (rdOk tx (0, lt, ib, rw, cl, nu)) tn
  have htn := hT.2.1
  refine lv_aload_n hx hb dL_law_1769 rfl (lv_at hl 1 rfl) ?_
  refine g_callV (As := []) (rest := []) (q0 := 0) C0 G (c_X4_firstError l D cy (ad := ad) (fr := fr) (bk := bk) (vw := vw) (tk := tk) (to := to) (fk := fk) (fo := fo) (kp := kp) (sp := sp) (lt := lt) (ib := ib) (rw := rw) (cl := cl) (nu := nu) (tv := tv) (tm := tm) (ta := ta) (ml := ml) (tn := tn) (R := ((ou, .inl (cy 2, 1, .inr (.inl og))) :: (od, .inl (cy 3, 1, .inr (.inr (.inr (.inl oh))))) :: wM am cy th (cS mf mb mv) kp X tn ap le fc f1 f2 (biF kn on) ha ([]))) (tx := tx) (by omega) (by omega) (fun j hj => ⟨(hT.2.2.2.2 j hj).1, (hT.2.2.2.2 j hj).2.2⟩) hRs) k_X4_firstError ml_L_182 rfl rfl dL_law_1770 rfl rfl hl.1 (Nat.le_of_ble_eq_true rfl) ⟨Nat.le_of_ble_eq_true rfl, Nat.le_of_ble_eq_true rfl⟩ ⟨(by show _ ≤ 601024; omega), (by show _ ≤ 7293034; omega)⟩ (fun r W2 H locs hp G => ?_)
  obtain ⟨rfl, hw⟩ := hp
  have G := g_wc hw G
  refine W.eq (g2 := F0 m 1773 ls [.int (nI (ldN (rdOk tx (0, lt, ib, rw, cl, nu)) tn))]) rfl ?_
  refine lv_aload_n hx hb dL_law_1773 rfl (lv_at hl 2 rfl) ?_
  have G : gW D (wM am cy th (cS mf mb mv) kp X tn ap le fc f1 f2 (biF kn on) ha ((ou, .inl (cy 2, 1, .inr (.inl og))) :: (od, .inl (cy 3, 1, .inr (.inr (.inr (.inl oh))))) :: wC ad cy fr bk vw tk to fk fo kp ((rdS tx (0, lt, ib, rw, cl, nu) (rdE (rdOk tx (0, lt, ib, rw, cl, nu)) tn)).1) ((rdS tx (0, lt, ib, rw, cl, nu) (rdE (rdOk tx (0, lt, ib, rw, cl, nu)) tn)).2.1) ((rdS tx (0, lt, ib, rw, cl, nu) (rdE (rdOk tx (0, lt, ib, rw, cl, nu)) tn)).2.2.1) ((rdS tx (0, lt, ib, rw, cl, nu) (rdE (rdOk tx (0, lt, ib, rw, cl, nu)) tn)).2.2.2.1) ((rdS tx (0, lt, ib, rw, cl, nu) (rdE (rdOk tx (0, lt, ib, rw, cl, nu)) tn)).2.2.2.2.1) ((rdS tx (0, lt, ib, rw, cl, nu) (rdE (rdOk tx (0, lt, ib, rw, cl, nu)) tn)).2.2.2.2.2) tv tm ta ml tn ([]))) A s _ _ := g_swCM G
  refine g_callV (As := []) (rest := [.int (nI (ldN (rdOk tx (0, lt, ib, rw, cl, nu)) tn))]) (q0 := 0) C0 G (c_X5_firstError l D cy (am := am) (mf := mf) (mb := mb) (mv := mv) (th := th) (sv := kp) (X := X) (ln := tn) (ap := ap) (le := le) (fc := fc) (f1 := f1) (f2 := f2) (ha := ha) (R := ((ou, .inl (cy 2, 1, .inr (.inl og))) :: (od, .inl (cy 3, 1, .inr (.inr (.inr (.inl oh))))) :: wC ad cy fr bk vw tk to fk fo kp ((rdS tx (0, lt, ib, rw, cl, nu) (rdE (rdOk tx (0, lt, ib, rw, cl, nu)) tn)).1) ((rdS tx (0, lt, ib, rw, cl, nu) (rdE (rdOk tx (0, lt, ib, rw, cl, nu)) tn)).2.1) ((rdS tx (0, lt, ib, rw, cl, nu) (rdE (rdOk tx (0, lt, ib, rw, cl, nu)) tn)).2.2.1) ((rdS tx (0, lt, ib, rw, cl, nu) (rdE (rdOk tx (0, lt, ib, rw, cl, nu)) tn)).2.2.2.1) ((rdS tx (0, lt, ib, rw, cl, nu) (rdE (rdOk tx (0, lt, ib, rw, cl, nu)) tn)).2.2.2.2.1) ((rdS tx (0, lt, ib, rw, cl, nu) (rdE (rdOk tx (0, lt, ib, rw, cl, nu)) tn)).2.2.2.2.2) tv tm ta ml tn ([]))) (B := biF kn on) (tx := tx) (q := (0, lt, ib, rw, cl, nu)) (by omega) (fun j hj => (hT.2.2.2.2 j hj).2) hRs rfl) k_X5_firstError ml_L_185 rfl rfl dL_law_1774 rfl rfl hl.1 (Nat.le_of_ble_eq_true rfl) ⟨Nat.le_of_ble_eq_true rfl, Nat.le_of_ble_eq_true rfl⟩ ⟨(by show _ ≤ 601024; omega), (by show _ ≤ 7293034; omega)⟩ (fun r W2 H locs hp G => ?_)
  obtain ⟨le3, fc3, g1, g2, rfl, hw⟩ := hp
  have G := g_wc hw G
  refine W.eq (g2 := F0 m 1777 ls [.int (nI (ldN (rdOk tx (0, lt, ib, rw, cl, nu)) tn)), .int (nI (ldN (rdOk tx (0, lt, ib, rw, cl, nu)) tn))]) rfl ?_
  refine lv_icmp_eq (tgt := 1897) hx hb dL_law_1777 (by decide) (fun c_1777 => ?_) (fun c_1777 => ?_)
  · skip
    have c_1777 : (ldN (rdOk tx (0, lt, ib, rw, cl, nu)) tn) = (ldN (rdOk tx (0, lt, ib, rw, cl, nu)) tn) := (nI_eq (a := ldN (rdOk tx (0, lt, ib, rw, cl, nu)) tn) (b := ldN (rdOk tx (0, lt, ib, rw, cl, nu)) tn) (by omega) (by omega)).mp c_1777
    have G : gW D (wC ad cy fr bk vw tk to fk fo kp ((rdS tx (0, lt, ib, rw, cl, nu) (rdE (rdOk tx (0, lt, ib, rw, cl, nu)) tn)).1) ((rdS tx (0, lt, ib, rw, cl, nu) (rdE (rdOk tx (0, lt, ib, rw, cl, nu)) tn)).2.1) ((rdS tx (0, lt, ib, rw, cl, nu) (rdE (rdOk tx (0, lt, ib, rw, cl, nu)) tn)).2.2.1) ((rdS tx (0, lt, ib, rw, cl, nu) (rdE (rdOk tx (0, lt, ib, rw, cl, nu)) tn)).2.2.2.1) ((rdS tx (0, lt, ib, rw, cl, nu) (rdE (rdOk tx (0, lt, ib, rw, cl, nu)) tn)).2.2.2.2.1) ((rdS tx (0, lt, ib, rw, cl, nu) (rdE (rdOk tx (0, lt, ib, rw, cl, nu)) tn)).2.2.2.2.2) tv tm ta ml tn ((ou, .inl (cy 2, 1, .inr (.inl og))) :: (od, .inl (cy 3, 1, .inr (.inr (.inr (.inl oh))))) :: wM am cy 0 (cS mf mb mv) kp X tn (ldN (rdOk tx (0, lt, ib, rw, cl, nu)) tn) le3 fc3 g1 g2 (biF kn on) ha ([]))) A s _ _ := g_swMC G
    refine W.widen (k := cells + 8) (n := slots + 400) (by omega) (by omega) ?_
    exact kk _ _ _ ⟨fr, bk, vw, tk, to, fk, fo, kp, ((rdS tx (0, lt, ib, rw, cl, nu) (rdE (rdOk tx (0, lt, ib, rw, cl, nu)) tn)).1), ((rdS tx (0, lt, ib, rw, cl, nu) (rdE (rdOk tx (0, lt, ib, rw, cl, nu)) tn)).2.1), ((rdS tx (0, lt, ib, rw, cl, nu) (rdE (rdOk tx (0, lt, ib, rw, cl, nu)) tn)).2.2.1), ((rdS tx (0, lt, ib, rw, cl, nu) (rdE (rdOk tx (0, lt, ib, rw, cl, nu)) tn)).2.2.2.1), ((rdS tx (0, lt, ib, rw, cl, nu) (rdE (rdOk tx (0, lt, ib, rw, cl, nu)) tn)).2.2.2.2.1), ((rdS tx (0, lt, ib, rw, cl, nu) (rdE (rdOk tx (0, lt, ib, rw, cl, nu)) tn)).2.2.2.2.2), tv, tm, ta, ml, tn, mf, mb, mv, kn, on, 0, X, (ldN (rdOk tx (0, lt, ib, rw, cl, nu)) tn), le3, fc3, g1, g2, ha, og, oh, tx, hF, hT, (rd_ok (tx := tx) (n := tn) (fun j hj => (hT.2.2.2.2 j hj).2.2) hRs _ (rdE_le _ _)), G⟩ (lv_sub hl [0, 1, 2, 3, 4, 5] rfl)
  · skip
    have c_1777 : ¬ ((ldN (rdOk tx (0, lt, ib, rw, cl, nu)) tn) = (ldN (rdOk tx (0, lt, ib, rw, cl, nu)) tn)) := fun h => c_1777 ((nI_eq (a := ldN (rdOk tx (0, lt, ib, rw, cl, nu)) tn) (b := ldN (rdOk tx (0, lt, ib, rw, cl, nu)) tn) (by omega) (by omega)).mpr h)
    exact absurd rfl c_1777
