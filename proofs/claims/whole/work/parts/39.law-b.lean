set_option maxHeartbeats 4000000 in
set_option maxRecDepth 100000 in
theorem lw_c1 {p : Program} {l : Launch} {e : Env} {s : State} {m : MethodId} {below : List Frame} {meth : Method} {c : Code} {H : Heap} {locs : List Loc} {cells slots : Nat} {Q : State → Prop} {D : va_G} {cy : Nat → ClassId} {A : Nat → Prop} {ad am : Nat → Nat} {ou od b L li : Nat} {xs : Nat → Int32} {ls : Array Slot} (C0 : gC p s m #[.ref b] meth c code 9 (some .boolean) RL D (gts cy) A) (hst : l.stackTraces = false) (hXs : va_X b L xs s s.heap) (hbl : b < s.heap.size) (hbA : ¬ A b) (hli : li + 3 < L) (hL : L ≤ 2048) (hce : cells + 8 ≤ 601024) (hsl : slots + 400 ≤ 7293034) (I : lwI D A s cy ad am ou od H locs) (hl : lv_has ls 9 [(0, .ref b), (1, .ref (ad 0)), (2, .ref (am 0)), (3, .ref ou), (4, .ref od), (5, .int (nI li))])
    (kk : ∀ (H : Heap) (locs : List Loc) (ls : Array Slot), lwI D A s cy ad am ou od H locs → lv_has ls 9 [(0, .ref b), (1, .ref (ad 0)), (2, .ref (am 0)), (3, .ref ou), (4, .ref od), (5, .int (nI li))] → W p l e room_1 s m #[.ref b] below meth c H locs (cells + 8) (slots + 400) Q (F0 m 1897 ls [])) : W p l e room_1 s m #[.ref b] below meth c H locs cells slots Q (F0 m 256 ls []) := by
  obtain ⟨fr, bk, vw, tk, to, fk, fo, kp, sp, lt, ib, rw, cl, nu, tv, tm, ta, ml, tn, mf, mb, mv, kn, on, th, X, ap, le, fc, f1, f2, ha, og, oh, tx, hF, hT, hR, G⟩ := I
  have hx := C0.1
  have hb := C0.2.1
  have hown := C0.2.2.2.2.2.1
  have hts := C0.2.2.2.2.2.2.1
  have hRs : rsOk (0, lt, ib, rw, cl, nu) := ⟨by show 0 < 9; decide, hR.2⟩
  have hkp := hF.1
  have h60 := hT.2.2.1
  have htm := hT.1
  obtain ⟨p0, hp0⟩ : ∃ z : Int32, z = xs (li + 1) := ⟨_, rfl⟩
  refine lv_aload_n hx hb dL_law_256 rfl (lv_at hl 1 rfl) ?_
  refine lv_aload_n hx hb dL_law_257 rfl (lv_at hl 0 rfl) ?_
  refine lv_iload hx hb dL_law_258 (lv_at hl 5 rfl) ?_
  refine lv_iconst (v := 1) hx hb dL_law_260 (by decide) ?_
  refine lv_iadd hx hb dL_law_261 ?_
  refine g_topi (x' := nI (li + 1)) (nI_add li 1) ?_
  refine va_sld hx hb hXs hbl hbA G.2.2 (vp_in_nI (n := li + 1) (by omega) (by omega)) dL_law_262 ?_
  refine g_topi (x' := p0) (by rw [nI_clamp (n := li + 1) (by omega)]; exact hp0.symm) ?_
  refine lv_aload_n hx hb dL_law_263 rfl (lv_at hl 3 rfl) ?_
  refine g_callH (As := [.ref (ad 0), .int p0, .ref ou]) (rest := []) C0 G (c_L_close l D cy (ad := ad) (fr := fr) (bk := bk) (vw := vw) (tk := tk) (to := to) (fk := fk) (fo := fo) (kp := kp) (sp := sp) (lt := lt) (ib := ib) (rw := rw) (cl := cl) (nu := nu) (tv := tv) (tm := tm) (ta := ta) (ml := ml) (tn := tn) (R := wM am cy th (cS mf mb mv) kp X tn ap le fc f1 f2 (biF kn on) ha ([])) (ou := ou) (od := od) (og := og) (oh := oh) (p0 := p0) hst hF.1) k_L_close ml_L_109 dL_law_264 rfl rfl hl.1 (Nat.le_of_ble_eq_true rfl) ⟨Nat.le_of_ble_eq_true rfl, Nat.le_of_ble_eq_true rfl⟩ ⟨(by show _ ≤ 601024; omega), (by show _ ≤ 7293034; omega)⟩ (fun r W2 H locs hp G => ?_)
  rcases hp with ⟨k, hk, rfl, hcd0, rfl, hw⟩ | ⟨rfl, hw, hx9⟩ | ⟨rfl, hw, hx9⟩
  · skip
    obtain ⟨eF, eB, eV, hv4⟩ := hF.2 k (by omega)
    have G : gW D (wC ad cy (va_up (saU fr kp) k (clF ((saU fr kp) k) ((saU bk kp) k))) (va_up (saU bk kp) k (clB ((saU fr kp) k) ((saU bk kp) k))) (saU vw kp) tk to fk fo (saK kp) sp lt ib rw cl nu tv tm ta ml tn ((ou, .inl (cy 2, 1, .inr (.inl (vp_updL og 0 (nI (pc (onW (clF ((saU fr kp) k) ((saU bk kp) k)) (clB ((saU fr kp) k) ((saU bk kp) k)) &&& rowM 7))).toInt64)))) :: (od, .inl (cy 3, 1, .inr (.inr (.inr (.inl oh))))) :: wM am cy th (cS mf mb mv) kp X tn ap le fc f1 f2 (biF kn on) ha ([]))) A s _ _ := g_wc hw G
    refine W.eq (g2 := F0 m 267 ls [.int 0]) rfl ?_
    refine lv_istore (lv' := [(6, .int 0), (0, .ref b), (1, .ref (ad 0)), (2, .ref (am 0)), (3, .ref ou), (4, .ref od), (5, .int (nI li))]) hx hb dL_law_267 hl (by decide) rfl (fun ls hl => ?_)
    refine lv_aload_n hx hb dL_law_269 rfl (lv_at hl 3 rfl) ?_
    refine lv_aload_n hx hb dL_law_270 rfl (lv_at hl 1 rfl) ?_
    refine lv_iload hx hb dL_law_271 (lv_at hl 6 rfl) ?_
    refine lv_iconst (v := 1) hx hb dL_law_273 (by decide) ?_
    refine lv_iadd hx hb dL_law_274 ?_
    refine g_topi (x' := nI (li + 1)) (nI_add li 1) ?_
    refine va_sld hx hb hXs hbl hbA G.2.2 (vp_in_nI (n := li + 1) (by omega) (by omega)) dL_law_275 ?_
    refine g_topi (x' := nI k) (by rw [nI_clamp (n := li + 1) (by omega)]; exact hp0.symm) ?_
    have G : gW D (wM am cy th (cS mf mb mv) kp X tn ap le fc f1 f2 (biF kn on) ha ((ou, .inl (cy 2, 1, .inr (.inl (vp_updL og 0 (nI (pc (onW (clF ((saU fr kp) k) ((saU bk kp) k)) (clB ((saU fr kp) k) ((saU bk kp) k)) &&& rowM 7))).toInt64)))) :: (od, .inl (cy 3, 1, .inr (.inr (.inr (.inl oh))))) :: wC ad cy (va_up (saU fr kp) k (clF ((saU fr kp) k) ((saU bk kp) k))) (va_up (saU bk kp) k (clB ((saU fr kp) k) ((saU bk kp) k))) (saU vw kp) tk to fk fo (saK kp) sp lt ib rw cl nu tv tm ta ml tn ([]))) A s _ _ := g_swCM G
    refine g_callV (As := [.int (nI k)]) (rest := []) (q0 := 0) C0 G (c_X5_close_ok l D cy (am := am) (mf := mf) (mb := mb) (mv := mv) (th := th) (sv := kp) (X := X) (ln := tn) (ap := ap) (le := le) (fc := fc) (f1 := f1) (f2 := f2) (ha := ha) (R := ((ou, .inl (cy 2, 1, .inr (.inl (vp_updL og 0 (nI (pc (onW (clF ((saU fr kp) k) ((saU bk kp) k)) (clB ((saU fr kp) k) ((saU bk kp) k)) &&& rowM 7))).toInt64)))) :: (od, .inl (cy 3, 1, .inr (.inr (.inr (.inl oh))))) :: wC ad cy (va_up (saU fr kp) k (clF ((saU fr kp) k) ((saU bk kp) k))) (va_up (saU bk kp) k (clB ((saU fr kp) k) ((saU bk kp) k))) (saU vw kp) tk to fk fo (saK kp) sp lt ib rw cl nu tv tm ta ml tn ([]))) (B := biF kn on) (k := k) (by omega) (by rw [← eF, ← eB]; exact hcd0) hkp) k_X5_close ml_L_112 rfl rfl dL_law_276 rfl rfl hl.1 (Nat.le_of_ble_eq_true rfl) ⟨Nat.le_of_ble_eq_true rfl, Nat.le_of_ble_eq_true rfl⟩ ⟨(by show _ ≤ 601024; omega), (by show _ ≤ 7293034; omega)⟩ (fun r W2 H locs hp G => ?_)
    obtain ⟨rfl, hw⟩ := hp
    have G := g_wc hw G
    refine W.eq (g2 := F0 m 279 ls [.int (nI (csN ((mSv mf kp) k) ((mSv mb kp) k) 8))]) rfl ?_
    refine lv_istore (lv' := [(7, .int (nI (csN ((mSv mf kp) k) ((mSv mb kp) k) 8))), (6, .int 0), (0, .ref b), (1, .ref (ad 0)), (2, .ref (am 0)), (3, .ref ou), (4, .ref od), (5, .int (nI li))]) hx hb dL_law_279 hl (by decide) rfl (fun ls hl => ?_)
    refine lv_aload_n hx hb dL_law_281 rfl (lv_at hl 4 rfl) ?_
    refine g_callV (As := []) (rest := []) (q0 := 0) C0 G (c_X5_thrown l D cy (am := am) (mf := va_up (mSv mf kp) k (cmF ((mSv mf kp) k) ((mSv mb kp) k) 8)) (mb := va_up (mSv mb kp) k (cmB ((mSv mf kp) k) ((mSv mb kp) k) 8)) (mv := mSv mv kp) (th := nI 0) (sv := saK kp) (X := X) (ln := tn) (ap := ap) (le := le) (fc := fc) (f1 := f1) (f2 := f2) (ha := ha) (R := ((ou, .inl (cy 2, 1, .inr (.inl (vp_updL og 0 (nI (pc (onW (clF ((saU fr kp) k) ((saU bk kp) k)) (clB ((saU fr kp) k) ((saU bk kp) k)) &&& rowM 7))).toInt64)))) :: (od, .inl (cy 3, 1, .inr (.inr (.inr (.inl oh))))) :: wC ad cy (va_up (saU fr kp) k (clF ((saU fr kp) k) ((saU bk kp) k))) (va_up (saU bk kp) k (clB ((saU fr kp) k) ((saU bk kp) k))) (saU vw kp) tk to fk fo (saK kp) sp lt ib rw cl nu tv tm ta ml tn ([]))) (B := biF kn on)  ) k_X5_thrown ml_L_106 rfl rfl dL_law_282 rfl rfl hl.1 (Nat.le_of_ble_eq_true rfl) ⟨Nat.le_of_ble_eq_true rfl, Nat.le_of_ble_eq_true rfl⟩ ⟨(by show _ ≤ 601024; omega), (by show _ ≤ 7293034; omega)⟩ (fun r W2 H locs hp G => ?_)
    obtain ⟨rfl, hw⟩ := hp
    have G := g_wc hw G
    refine W.eq (g2 := F0 m 285 ls [.int (nI 0)]) rfl ?_
    refine g_topi (x' := 0) rfl ?_
    refine lv_iload hx hb dL_law_285 (lv_at hl 1 rfl) ?_
    refine lv_icmp_eq (tgt := 292) hx hb dL_law_287 (by decide) (fun c_287 => ?_) (fun c_287 => ?_)
    · skip
      refine lv_iload hx hb dL_law_292 (lv_at hl 1 rfl) ?_
      refine lv_if_ne (tgt := 309) hx hb dL_law_294 (by decide) (fun c_294 => ?_) (fun c_294 => ?_)
      · exact absurd c_294 (by decide)
      · skip
        refine lv_aload_n hx hb dL_law_297 rfl (lv_at hl 5 rfl) ?_
        refine lv_iconst (v := 0) hx hb dL_law_298 (by decide) ?_
        refine g_topi (x' := nI 0) rfl ?_
        refine g_lald (q0 := 4) (n := 1) C0 G rfl 2 rfl (vp_in_nI (n := 0) (by omega) (by decide)) dL_law_299 ?_
        refine g_topl (x' := (vp_updL og 0 (nI (pc (onW (clF ((saU fr kp) k) ((saU bk kp) k)) (clB ((saU fr kp) k) ((saU bk kp) k)) &&& rowM 7))).toInt64) 0) (congrArg (vp_updL og 0 (nI (pc (onW (clF ((saU fr kp) k) ((saU bk kp) k)) (clB ((saU fr kp) k) ((saU bk kp) k)) &&& rowM 7))).toInt64) (nI_clamp (n := 0) (by omega))) ?_
        refine g_topl (x' := (nI (pc (onW (clF ((saU fr kp) k) ((saU bk kp) k)) (clB ((saU fr kp) k) ((saU bk kp) k)) &&& rowM 7))).toInt64) (if_pos rfl) ?_
        refine lv_iload hx hb dL_law_300 (lv_at hl 0 rfl) ?_
        refine lv_i2l hx hb dL_law_302 rfl ?_
        refine W.lcmp hx hb dL_law_303 ?_
        refine lv_if_eq (tgt := 309) hx hb dL_law_304 (by decide) (fun c_304 => ?_) (fun c_304 => ?_)
        · skip
          have c_304 : ((nI (pc (onW (clF ((saU fr kp) k) ((saU bk kp) k)) (clB ((saU fr kp) k) ((saU bk kp) k)) &&& rowM 7))).toInt64) = ((nI (csN ((mSv mf kp) k) ((mSv mb kp) k) 8)).toInt64) := lgc_eq.mp c_304
          refine lv_goto (tgt := 1897) hx hb dL_law_309 (by decide) ?_
          have G : gW D (wC ad cy (va_up (saU fr kp) k (clF ((saU fr kp) k) ((saU bk kp) k))) (va_up (saU bk kp) k (clB ((saU fr kp) k) ((saU bk kp) k))) (saU vw kp) tk to fk fo (saK kp) sp lt ib rw cl nu tv tm ta ml tn ((ou, .inl (cy 2, 1, .inr (.inl (vp_updL og 0 (nI (pc (onW (clF ((saU fr kp) k) ((saU bk kp) k)) (clB ((saU fr kp) k) ((saU bk kp) k)) &&& rowM 7))).toInt64)))) :: (od, .inl (cy 3, 1, .inr (.inr (.inr (.inl oh))))) :: wM am cy (nI 0) (cS (va_up (mSv mf kp) k (cmF ((mSv mf kp) k) ((mSv mb kp) k) 8)) (va_up (mSv mb kp) k (cmB ((mSv mf kp) k) ((mSv mb kp) k) 8)) (mSv mv kp)) (saK kp) X tn ap le fc f1 f2 (biF kn on) ha ([]))) A s _ _ := g_swMC G
          refine W.widen (k := cells + 8) (n := slots + 400) (by omega) (by omega) ?_
          exact kk _ _ _ ⟨(va_up (saU fr kp) k (clF ((saU fr kp) k) ((saU bk kp) k))), (va_up (saU bk kp) k (clB ((saU fr kp) k) ((saU bk kp) k))), (saU vw kp), tk, to, fk, fo, (saK kp), sp, lt, ib, rw, cl, nu, tv, tm, ta, ml, tn, (va_up (mSv mf kp) k (cmF ((mSv mf kp) k) ((mSv mb kp) k) 8)), (va_up (mSv mb kp) k (cmB ((mSv mf kp) k) ((mSv mb kp) k) 8)), (mSv mv kp), kn, on, (nI 0), X, ap, le, fc, f1, f2, ha, (vp_updL og 0 (nI (pc (onW (clF ((saU fr kp) k) ((saU bk kp) k)) (clB ((saU fr kp) k) ((saU bk kp) k)) &&& rowM 7))).toInt64), oh, tx, (by simp only [mSv_sa, saU_lo hk, ← eF, ← eB, ← eV, (cm_cl hcd0).1, (cm_cl hcd0).2]; exact lwF_b (lwF_f (lwF_sa hF))), hT, hR, G⟩ (lv_sub hl [2, 3, 4, 5, 6, 7] rfl)
        · skip
          have c_304 : ¬ ((nI (pc (onW (clF ((saU fr kp) k) ((saU bk kp) k)) (clB ((saU fr kp) k) ((saU bk kp) k)) &&& rowM 7))).toInt64) = ((nI (csN ((mSv mf kp) k) ((mSv mb kp) k) 8)).toInt64) := fun h => c_304 (lgc_eq.mpr h)
          exact absurd (by simp only [mSv_sa, saU_lo hk, ← eF, ← eB, ← eV]; rw [cs_pc hcd0]) c_304
    · exact absurd c_287 (by decide)
  · skip
    have G : gW D (wC ad cy fr bk vw tk to fk fo kp sp lt ib rw cl nu tv tm ta ml tn ((ou, .inl (cy 2, 1, .inr (.inl og))) :: (od, .inl (cy 3, 1, .inr (.inr (.inr (.inl oh))))) :: wM am cy th (cS mf mb mv) kp X tn ap le fc f1 f2 (biF kn on) ha ([]))) A s _ _ := g_wc hw G
    refine W.eq (g2 := F0 m 267 ls [.int 1]) rfl ?_
    refine lv_istore (lv' := [(6, .int 1), (0, .ref b), (1, .ref (ad 0)), (2, .ref (am 0)), (3, .ref ou), (4, .ref od), (5, .int (nI li))]) hx hb dL_law_267 hl (by decide) rfl (fun ls hl => ?_)
    refine lv_aload_n hx hb dL_law_269 rfl (lv_at hl 3 rfl) ?_
    refine lv_aload_n hx hb dL_law_270 rfl (lv_at hl 1 rfl) ?_
    refine lv_iload hx hb dL_law_271 (lv_at hl 6 rfl) ?_
    refine lv_iconst (v := 1) hx hb dL_law_273 (by decide) ?_
    refine lv_iadd hx hb dL_law_274 ?_
    refine g_topi (x' := nI (li + 1)) (nI_add li 1) ?_
    refine va_sld hx hb hXs hbl hbA G.2.2 (vp_in_nI (n := li + 1) (by omega) (by omega)) dL_law_275 ?_
    refine g_topi (x' := p0) (by rw [nI_clamp (n := li + 1) (by omega)]; exact hp0.symm) ?_
    have G : gW D (wM am cy th (cS mf mb mv) kp X tn ap le fc f1 f2 (biF kn on) ha ((ou, .inl (cy 2, 1, .inr (.inl og))) :: (od, .inl (cy 3, 1, .inr (.inr (.inr (.inl oh))))) :: wC ad cy fr bk vw tk to fk fo kp sp lt ib rw cl nu tv tm ta ml tn ([]))) A s _ _ := g_swCM G
    refine g_callV (As := [.int p0]) (rest := []) (q0 := 0) C0 G (c_X5_close_e1 l D cy (am := am) (mf := mf) (mb := mb) (mv := mv) (th := th) (sv := kp) (X := X) (ln := tn) (ap := ap) (le := le) (fc := fc) (f1 := f1) (f2 := f2) (ha := ha) (R := ((ou, .inl (cy 2, 1, .inr (.inl og))) :: (od, .inl (cy 3, 1, .inr (.inr (.inr (.inl oh))))) :: wC ad cy fr bk vw tk to fk fo kp sp lt ib rw cl nu tv tm ta ml tn ([]))) (B := biF kn on) (p0 := p0) (by rw [inB_ir (x := p0) (n := 2) (hi := 2) rfl (by decide)]; exact hx9)) k_X5_close ml_L_112 rfl rfl dL_law_276 rfl rfl hl.1 (Nat.le_of_ble_eq_true rfl) ⟨Nat.le_of_ble_eq_true rfl, Nat.le_of_ble_eq_true rfl⟩ ⟨(by show _ ≤ 601024; omega), (by show _ ≤ 7293034; omega)⟩ (fun r W2 H locs hp G => ?_)
    obtain ⟨rfl, hw⟩ := hp
    have G := g_wc hw G
    refine W.eq (g2 := F0 m 279 ls [.int 0]) rfl ?_
    refine lv_istore (lv' := [(7, .int 0), (6, .int 1), (0, .ref b), (1, .ref (ad 0)), (2, .ref (am 0)), (3, .ref ou), (4, .ref od), (5, .int (nI li))]) hx hb dL_law_279 hl (by decide) rfl (fun ls hl => ?_)
    refine lv_aload_n hx hb dL_law_281 rfl (lv_at hl 4 rfl) ?_
    refine g_callV (As := []) (rest := []) (q0 := 0) C0 G (c_X5_thrown l D cy (am := am) (mf := mf) (mb := mb) (mv := mv) (th := nI 1) (sv := kp) (X := X) (ln := tn) (ap := ap) (le := le) (fc := fc) (f1 := f1) (f2 := f2) (ha := ha) (R := ((ou, .inl (cy 2, 1, .inr (.inl og))) :: (od, .inl (cy 3, 1, .inr (.inr (.inr (.inl oh))))) :: wC ad cy fr bk vw tk to fk fo kp sp lt ib rw cl nu tv tm ta ml tn ([]))) (B := biF kn on)  ) k_X5_thrown ml_L_106 rfl rfl dL_law_282 rfl rfl hl.1 (Nat.le_of_ble_eq_true rfl) ⟨Nat.le_of_ble_eq_true rfl, Nat.le_of_ble_eq_true rfl⟩ ⟨(by show _ ≤ 601024; omega), (by show _ ≤ 7293034; omega)⟩ (fun r W2 H locs hp G => ?_)
    obtain ⟨rfl, hw⟩ := hp
    have G := g_wc hw G
    refine W.eq (g2 := F0 m 285 ls [.int (nI 1)]) rfl ?_
    refine g_topi (x' := 1) rfl ?_
    refine lv_iload hx hb dL_law_285 (lv_at hl 1 rfl) ?_
    refine lv_icmp_eq (tgt := 292) hx hb dL_law_287 (by decide) (fun c_287 => ?_) (fun c_287 => ?_)
    · skip
      refine lv_iload hx hb dL_law_292 (lv_at hl 1 rfl) ?_
      refine lv_if_ne (tgt := 309) hx hb dL_law_294 (by decide) (fun c_294 => ?_) (fun c_294 => ?_)
      · skip
        refine lv_goto (tgt := 1897) hx hb dL_law_309 (by decide) ?_
        have G : gW D (wC ad cy fr bk vw tk to fk fo kp sp lt ib rw cl nu tv tm ta ml tn ((ou, .inl (cy 2, 1, .inr (.inl og))) :: (od, .inl (cy 3, 1, .inr (.inr (.inr (.inl oh))))) :: wM am cy (nI 1) (cS mf mb mv) kp X tn ap le fc f1 f2 (biF kn on) ha ([]))) A s _ _ := g_swMC G
        refine W.widen (k := cells + 8) (n := slots + 400) (by omega) (by omega) ?_
        exact kk _ _ _ ⟨fr, bk, vw, tk, to, fk, fo, kp, sp, lt, ib, rw, cl, nu, tv, tm, ta, ml, tn, mf, mb, mv, kn, on, (nI 1), X, ap, le, fc, f1, f2, ha, og, oh, tx, hF, hT, hR, G⟩ (lv_sub hl [2, 3, 4, 5, 6, 7] rfl)
      · exact absurd c_294 (by decide)
    · exact absurd c_287 (by decide)
  · skip
    obtain ⟨k, hk, rfl, hcf⟩ := hx9
    obtain ⟨eF, eB, eV, hv4⟩ := hF.2 k (by omega)
    have G : gW D (wC ad cy fr bk vw tk to fk fo kp sp lt ib rw cl nu tv tm ta ml tn ((ou, .inl (cy 2, 1, .inr (.inl og))) :: (od, .inl (cy 3, 1, .inr (.inr (.inr (.inl oh))))) :: wM am cy th (cS mf mb mv) kp X tn ap le fc f1 f2 (biF kn on) ha ([]))) A s _ _ := g_wc hw G
    refine W.eq (g2 := F0 m 267 ls [.int 2]) rfl ?_
    refine lv_istore (lv' := [(6, .int 2), (0, .ref b), (1, .ref (ad 0)), (2, .ref (am 0)), (3, .ref ou), (4, .ref od), (5, .int (nI li))]) hx hb dL_law_267 hl (by decide) rfl (fun ls hl => ?_)
    refine lv_aload_n hx hb dL_law_269 rfl (lv_at hl 3 rfl) ?_
    refine lv_aload_n hx hb dL_law_270 rfl (lv_at hl 1 rfl) ?_
    refine lv_iload hx hb dL_law_271 (lv_at hl 6 rfl) ?_
    refine lv_iconst (v := 1) hx hb dL_law_273 (by decide) ?_
    refine lv_iadd hx hb dL_law_274 ?_
    refine g_topi (x' := nI (li + 1)) (nI_add li 1) ?_
    refine va_sld hx hb hXs hbl hbA G.2.2 (vp_in_nI (n := li + 1) (by omega) (by omega)) dL_law_275 ?_
    refine g_topi (x' := nI k) (by rw [nI_clamp (n := li + 1) (by omega)]; exact hp0.symm) ?_
    have G : gW D (wM am cy th (cS mf mb mv) kp X tn ap le fc f1 f2 (biF kn on) ha ((ou, .inl (cy 2, 1, .inr (.inl og))) :: (od, .inl (cy 3, 1, .inr (.inr (.inr (.inl oh))))) :: wC ad cy fr bk vw tk to fk fo kp sp lt ib rw cl nu tv tm ta ml tn ([]))) A s _ _ := g_swCM G
    refine g_callV (As := [.int (nI k)]) (rest := []) (q0 := 0) C0 G (c_X5_close_e2 l D cy (am := am) (mf := mf) (mb := mb) (mv := mv) (th := th) (sv := kp) (X := X) (ln := tn) (ap := ap) (le := le) (fc := fc) (f1 := f1) (f2 := f2) (ha := ha) (R := ((ou, .inl (cy 2, 1, .inr (.inl og))) :: (od, .inl (cy 3, 1, .inr (.inr (.inr (.inl oh))))) :: wC ad cy fr bk vw tk to fk fo kp sp lt ib rw cl nu tv tm ta ml tn ([]))) (B := biF kn on) (k := k) (by omega) (by rw [← eF, ← eB]; exact hcf)) k_X5_close ml_L_112 rfl rfl dL_law_276 rfl rfl hl.1 (Nat.le_of_ble_eq_true rfl) ⟨Nat.le_of_ble_eq_true rfl, Nat.le_of_ble_eq_true rfl⟩ ⟨(by show _ ≤ 601024; omega), (by show _ ≤ 7293034; omega)⟩ (fun r W2 H locs hp G => ?_)
    obtain ⟨rfl, hw⟩ := hp
    have G := g_wc hw G
    refine W.eq (g2 := F0 m 279 ls [.int 0]) rfl ?_
    refine lv_istore (lv' := [(7, .int 0), (6, .int 2), (0, .ref b), (1, .ref (ad 0)), (2, .ref (am 0)), (3, .ref ou), (4, .ref od), (5, .int (nI li))]) hx hb dL_law_279 hl (by decide) rfl (fun ls hl => ?_)
    refine lv_aload_n hx hb dL_law_281 rfl (lv_at hl 4 rfl) ?_
    refine g_callV (As := []) (rest := []) (q0 := 0) C0 G (c_X5_thrown l D cy (am := am) (mf := mf) (mb := mb) (mv := mv) (th := nI 2) (sv := kp) (X := X) (ln := tn) (ap := ap) (le := le) (fc := fc) (f1 := f1) (f2 := f2) (ha := ha) (R := ((ou, .inl (cy 2, 1, .inr (.inl og))) :: (od, .inl (cy 3, 1, .inr (.inr (.inr (.inl oh))))) :: wC ad cy fr bk vw tk to fk fo kp sp lt ib rw cl nu tv tm ta ml tn ([]))) (B := biF kn on)  ) k_X5_thrown ml_L_106 rfl rfl dL_law_282 rfl rfl hl.1 (Nat.le_of_ble_eq_true rfl) ⟨Nat.le_of_ble_eq_true rfl, Nat.le_of_ble_eq_true rfl⟩ ⟨(by show _ ≤ 601024; omega), (by show _ ≤ 7293034; omega)⟩ (fun r W2 H locs hp G => ?_)
    obtain ⟨rfl, hw⟩ := hp
    have G := g_wc hw G
    refine W.eq (g2 := F0 m 285 ls [.int (nI 2)]) rfl ?_
    refine g_topi (x' := 2) rfl ?_
    refine lv_iload hx hb dL_law_285 (lv_at hl 1 rfl) ?_
    refine lv_icmp_eq (tgt := 292) hx hb dL_law_287 (by decide) (fun c_287 => ?_) (fun c_287 => ?_)
    · skip
      refine lv_iload hx hb dL_law_292 (lv_at hl 1 rfl) ?_
      refine lv_if_ne (tgt := 309) hx hb dL_law_294 (by decide) (fun c_294 => ?_) (fun c_294 => ?_)
      · skip
        refine lv_goto (tgt := 1897) hx hb dL_law_309 (by decide) ?_
        have G : gW D (wC ad cy fr bk vw tk to fk fo kp sp lt ib rw cl nu tv tm ta ml tn ((ou, .inl (cy 2, 1, .inr (.inl og))) :: (od, .inl (cy 3, 1, .inr (.inr (.inr (.inl oh))))) :: wM am cy (nI 2) (cS mf mb mv) kp X tn ap le fc f1 f2 (biF kn on) ha ([]))) A s _ _ := g_swMC G
        refine W.widen (k := cells + 8) (n := slots + 400) (by omega) (by omega) ?_
        exact kk _ _ _ ⟨fr, bk, vw, tk, to, fk, fo, kp, sp, lt, ib, rw, cl, nu, tv, tm, ta, ml, tn, mf, mb, mv, kn, on, (nI 2), X, ap, le, fc, f1, f2, ha, og, oh, tx, hF, hT, hR, G⟩ (lv_sub hl [2, 3, 4, 5, 6, 7] rfl)
      · exact absurd c_294 (by decide)
    · exact absurd c_287 (by decide)

set_option maxHeartbeats 4000000 in
set_option maxRecDepth 100000 in
theorem lw_c2 {p : Program} {l : Launch} {e : Env} {s : State} {m : MethodId} {below : List Frame} {meth : Method} {c : Code} {H : Heap} {locs : List Loc} {cells slots : Nat} {Q : State → Prop} {D : va_G} {cy : Nat → ClassId} {A : Nat → Prop} {ad am : Nat → Nat} {ou od b L li : Nat} {xs : Nat → Int32} {ls : Array Slot} (C0 : gC p s m #[.ref b] meth c code 9 (some .boolean) RL D (gts cy) A) (hst : l.stackTraces = false) (hXs : va_X b L xs s s.heap) (hbl : b < s.heap.size) (hbA : ¬ A b) (hli : li + 3 < L) (hL : L ≤ 2048) (hce : cells + 8 ≤ 601024) (hsl : slots + 400 ≤ 7293034) (I : lwI D A s cy ad am ou od H locs) (hl : lv_has ls 9 [(0, .ref b), (1, .ref (ad 0)), (2, .ref (am 0)), (3, .ref ou), (4, .ref od), (5, .int (nI li))])
    (kk : ∀ (H : Heap) (locs : List Loc) (ls : Array Slot), lwI D A s cy ad am ou od H locs → lv_has ls 9 [(0, .ref b), (1, .ref (ad 0)), (2, .ref (am 0)), (3, .ref ou), (4, .ref od), (5, .int (nI li))] → W p l e room_1 s m #[.ref b] below meth c H locs (cells + 8) (slots + 400) Q (F0 m 1897 ls [])) : W p l e room_1 s m #[.ref b] below meth c H locs cells slots Q (F0 m 312 ls []) := by
  obtain ⟨fr, bk, vw, tk, to, fk, fo, kp, sp, lt, ib, rw, cl, nu, tv, tm, ta, ml, tn, mf, mb, mv, kn, on, th, X, ap, le, fc, f1, f2, ha, og, oh, tx, hF, hT, hR, G⟩ := I
  have hx := C0.1
  have hb := C0.2.1
  have hown := C0.2.2.2.2.2.1
  have hts := C0.2.2.2.2.2.2.1
  have hRs : rsOk (0, lt, ib, rw, cl, nu) := ⟨by show 0 < 9; decide, hR.2⟩
  have hkp := hF.1
  have h60 := hT.2.2.1
  have htm := hT.1
  obtain ⟨p0, hp0⟩ : ∃ z : Int32, z = xs (li + 1) := ⟨_, rfl⟩
  refine lv_aload_n hx hb dL_law_312 rfl (lv_at hl 1 rfl) ?_
  refine lv_aload_n hx hb dL_law_313 rfl (lv_at hl 0 rfl) ?_
  refine lv_iload hx hb dL_law_314 (lv_at hl 5 rfl) ?_
  refine lv_iconst (v := 1) hx hb dL_law_316 (by decide) ?_
  refine lv_iadd hx hb dL_law_317 ?_
  refine g_topi (x' := nI (li + 1)) (nI_add li 1) ?_
  refine va_sld hx hb hXs hbl hbA G.2.2 (vp_in_nI (n := li + 1) (by omega) (by omega)) dL_law_318 ?_
  refine g_topi (x' := p0) (by rw [nI_clamp (n := li + 1) (by omega)]; exact hp0.symm) ?_
  refine lv_aload_n hx hb dL_law_319 rfl (lv_at hl 3 rfl) ?_
  refine g_callH (As := [.ref (ad 0), .int p0, .ref ou]) (rest := []) C0 G (c_L_renew l D cy (ad := ad) (fr := fr) (bk := bk) (vw := vw) (tk := tk) (to := to) (fk := fk) (fo := fo) (kp := kp) (sp := sp) (lt := lt) (ib := ib) (rw := rw) (cl := cl) (nu := nu) (tv := tv) (tm := tm) (ta := ta) (ml := ml) (tn := tn) (R := wM am cy th (cS mf mb mv) kp X tn ap le fc f1 f2 (biF kn on) ha ([])) (ou := ou) (od := od) (og := og) (oh := oh) (p0 := p0) hst hF.1) k_L_renew ml_L_113 dL_law_320 rfl rfl hl.1 (Nat.le_of_ble_eq_true rfl) ⟨Nat.le_of_ble_eq_true rfl, Nat.le_of_ble_eq_true rfl⟩ ⟨(by show _ ≤ 601024; omega), (by show _ ≤ 7293034; omega)⟩ (fun r W2 H locs hp G => ?_)
  rcases hp with ⟨k, hk, rfl, rfl, hw⟩ | ⟨rfl, hw, hx9⟩
  · skip
    obtain ⟨eF, eB, eV, hv4⟩ := hF.2 k (by omega)
    have G : gW D (wC ad cy (va_up (saU fr kp) k 0) (va_up (saU bk kp) k 0) (va_up (saU vw kp) k 0) tk to fk fo (saK kp) sp lt ib rw cl nu tv tm ta ml tn ((ou, .inl (cy 2, 1, .inr (.inl (vp_updL og 0 (nI ((pc ((saU fr kp) k)) + (pc ((saU bk kp) k)))).toInt64)))) :: (od, .inl (cy 3, 1, .inr (.inr (.inr (.inl oh))))) :: wM am cy th (cS mf mb mv) kp X tn ap le fc f1 f2 (biF kn on) ha ([]))) A s _ _ := g_wc hw G
    refine W.eq (g2 := F0 m 323 ls [.int 0]) rfl ?_
    refine lv_istore (lv' := [(6, .int 0), (0, .ref b), (1, .ref (ad 0)), (2, .ref (am 0)), (3, .ref ou), (4, .ref od), (5, .int (nI li))]) hx hb dL_law_323 hl (by decide) rfl (fun ls hl => ?_)
    refine lv_aload_n hx hb dL_law_325 rfl (lv_at hl 3 rfl) ?_
    refine lv_aload_n hx hb dL_law_326 rfl (lv_at hl 1 rfl) ?_
    refine lv_iload hx hb dL_law_327 (lv_at hl 6 rfl) ?_
    refine lv_iconst (v := 1) hx hb dL_law_329 (by decide) ?_
    refine lv_iadd hx hb dL_law_330 ?_
    refine g_topi (x' := nI (li + 1)) (nI_add li 1) ?_
    refine va_sld hx hb hXs hbl hbA G.2.2 (vp_in_nI (n := li + 1) (by omega) (by omega)) dL_law_331 ?_
    refine g_topi (x' := nI k) (by rw [nI_clamp (n := li + 1) (by omega)]; exact hp0.symm) ?_
    have G : gW D (wM am cy th (cS mf mb mv) kp X tn ap le fc f1 f2 (biF kn on) ha ((ou, .inl (cy 2, 1, .inr (.inl (vp_updL og 0 (nI ((pc ((saU fr kp) k)) + (pc ((saU bk kp) k)))).toInt64)))) :: (od, .inl (cy 3, 1, .inr (.inr (.inr (.inl oh))))) :: wC ad cy (va_up (saU fr kp) k 0) (va_up (saU bk kp) k 0) (va_up (saU vw kp) k 0) tk to fk fo (saK kp) sp lt ib rw cl nu tv tm ta ml tn ([]))) A s _ _ := g_swCM G
    refine g_callV (As := [.int (nI k)]) (rest := []) (q0 := 0) C0 G (c_X5_renew_ok l D cy (am := am) (mf := mf) (mb := mb) (mv := mv) (th := th) (sv := kp) (X := X) (ln := tn) (ap := ap) (le := le) (fc := fc) (f1 := f1) (f2 := f2) (ha := ha) (R := ((ou, .inl (cy 2, 1, .inr (.inl (vp_updL og 0 (nI ((pc ((saU fr kp) k)) + (pc ((saU bk kp) k)))).toInt64)))) :: (od, .inl (cy 3, 1, .inr (.inr (.inr (.inl oh))))) :: wC ad cy (va_up (saU fr kp) k 0) (va_up (saU bk kp) k 0) (va_up (saU vw kp) k 0) tk to fk fo (saK kp) sp lt ib rw cl nu tv tm ta ml tn ([]))) (B := biF kn on) (k := k) (by omega) hkp) k_X5_renew ml_L_115 rfl rfl dL_law_332 rfl rfl hl.1 (Nat.le_of_ble_eq_true rfl) ⟨Nat.le_of_ble_eq_true rfl, Nat.le_of_ble_eq_true rfl⟩ ⟨(by show _ ≤ 601024; omega), (by show _ ≤ 7293034; omega)⟩ (fun r W2 H locs hp G => ?_)
    obtain ⟨rfl, hw⟩ := hp
    have G := g_wc hw G
    refine W.eq (g2 := F0 m 335 ls [.int (nI (((cuN ((mSv mf kp) k) ((mSv mb kp) k) (0 : Int32)) + (cuN ((mSv mf kp) k) ((mSv mb kp) k) (1 : Int32))) + (2 * (cuN ((mSv mf kp) k) ((mSv mb kp) k) (3 : Int32)))))]) rfl ?_
    refine lv_istore (lv' := [(7, .int (nI (((cuN ((mSv mf kp) k) ((mSv mb kp) k) (0 : Int32)) + (cuN ((mSv mf kp) k) ((mSv mb kp) k) (1 : Int32))) + (2 * (cuN ((mSv mf kp) k) ((mSv mb kp) k) (3 : Int32)))))), (6, .int 0), (0, .ref b), (1, .ref (ad 0)), (2, .ref (am 0)), (3, .ref ou), (4, .ref od), (5, .int (nI li))]) hx hb dL_law_335 hl (by decide) rfl (fun ls hl => ?_)
    refine lv_aload_n hx hb dL_law_337 rfl (lv_at hl 4 rfl) ?_
    refine g_callV (As := []) (rest := []) (q0 := 0) C0 G (c_X5_thrown l D cy (am := am) (mf := va_up (mSv mf kp) k 0) (mb := va_up (mSv mb kp) k 0) (mv := va_up (mSv mv kp) k 0) (th := nI 0) (sv := saK kp) (X := X) (ln := tn) (ap := ap) (le := le) (fc := fc) (f1 := f1) (f2 := f2) (ha := ha) (R := ((ou, .inl (cy 2, 1, .inr (.inl (vp_updL og 0 (nI ((pc ((saU fr kp) k)) + (pc ((saU bk kp) k)))).toInt64)))) :: (od, .inl (cy 3, 1, .inr (.inr (.inr (.inl oh))))) :: wC ad cy (va_up (saU fr kp) k 0) (va_up (saU bk kp) k 0) (va_up (saU vw kp) k 0) tk to fk fo (saK kp) sp lt ib rw cl nu tv tm ta ml tn ([]))) (B := biF kn on)  ) k_X5_thrown ml_L_106 rfl rfl dL_law_338 rfl rfl hl.1 (Nat.le_of_ble_eq_true rfl) ⟨Nat.le_of_ble_eq_true rfl, Nat.le_of_ble_eq_true rfl⟩ ⟨(by show _ ≤ 601024; omega), (by show _ ≤ 7293034; omega)⟩ (fun r W2 H locs hp G => ?_)
    obtain ⟨rfl, hw⟩ := hp
    have G := g_wc hw G
    refine W.eq (g2 := F0 m 341 ls [.int (nI 0)]) rfl ?_
    refine g_topi (x' := 0) rfl ?_
    refine lv_iload hx hb dL_law_341 (lv_at hl 1 rfl) ?_
    refine lv_icmp_eq (tgt := 348) hx hb dL_law_343 (by decide) (fun c_343 => ?_) (fun c_343 => ?_)
    · skip
      refine lv_iload hx hb dL_law_348 (lv_at hl 1 rfl) ?_
      refine lv_if_ne (tgt := 365) hx hb dL_law_350 (by decide) (fun c_350 => ?_) (fun c_350 => ?_)
      · exact absurd c_350 (by decide)
      · skip
        refine lv_aload_n hx hb dL_law_353 rfl (lv_at hl 5 rfl) ?_
        refine lv_iconst (v := 0) hx hb dL_law_354 (by decide) ?_
        refine g_topi (x' := nI 0) rfl ?_
        refine g_lald (q0 := 4) (n := 1) C0 G rfl 2 rfl (vp_in_nI (n := 0) (by omega) (by decide)) dL_law_355 ?_
        refine g_topl (x' := (vp_updL og 0 (nI ((pc ((saU fr kp) k)) + (pc ((saU bk kp) k)))).toInt64) 0) (congrArg (vp_updL og 0 (nI ((pc ((saU fr kp) k)) + (pc ((saU bk kp) k)))).toInt64) (nI_clamp (n := 0) (by omega))) ?_
        refine g_topl (x' := (nI ((pc ((saU fr kp) k)) + (pc ((saU bk kp) k)))).toInt64) (if_pos rfl) ?_
        refine lv_iload hx hb dL_law_356 (lv_at hl 0 rfl) ?_
        refine lv_i2l hx hb dL_law_358 rfl ?_
        refine W.lcmp hx hb dL_law_359 ?_
        refine lv_if_eq (tgt := 365) hx hb dL_law_360 (by decide) (fun c_360 => ?_) (fun c_360 => ?_)
        · skip
          have c_360 : ((nI ((pc ((saU fr kp) k)) + (pc ((saU bk kp) k)))).toInt64) = ((nI (((cuN ((mSv mf kp) k) ((mSv mb kp) k) (0 : Int32)) + (cuN ((mSv mf kp) k) ((mSv mb kp) k) (1 : Int32))) + (2 * (cuN ((mSv mf kp) k) ((mSv mb kp) k) (3 : Int32))))).toInt64) := lgc_eq.mp c_360
          refine lv_goto (tgt := 1897) hx hb dL_law_365 (by decide) ?_
          have G : gW D (wC ad cy (va_up (saU fr kp) k 0) (va_up (saU bk kp) k 0) (va_up (saU vw kp) k 0) tk to fk fo (saK kp) sp lt ib rw cl nu tv tm ta ml tn ((ou, .inl (cy 2, 1, .inr (.inl (vp_updL og 0 (nI ((pc ((saU fr kp) k)) + (pc ((saU bk kp) k)))).toInt64)))) :: (od, .inl (cy 3, 1, .inr (.inr (.inr (.inl oh))))) :: wM am cy (nI 0) (cS (va_up (mSv mf kp) k 0) (va_up (mSv mb kp) k 0) (va_up (mSv mv kp) k 0)) (saK kp) X tn ap le fc f1 f2 (biF kn on) ha ([]))) A s _ _ := g_swMC G
          refine W.widen (k := cells + 8) (n := slots + 400) (by omega) (by omega) ?_
          exact kk _ _ _ ⟨(va_up (saU fr kp) k 0), (va_up (saU bk kp) k 0), (va_up (saU vw kp) k 0), tk, to, fk, fo, (saK kp), sp, lt, ib, rw, cl, nu, tv, tm, ta, ml, tn, (va_up (mSv mf kp) k 0), (va_up (mSv mb kp) k 0), (va_up (mSv mv kp) k 0), kn, on, (nI 0), X, ap, le, fc, f1, f2, ha, (vp_updL og 0 (nI ((pc ((saU fr kp) k)) + (pc ((saU bk kp) k)))).toInt64), oh, tx, (by simp only [mSv_sa]; exact lwF_v (lwF_b (lwF_f (lwF_sa hF))) (by decide)), hT, hR, G⟩ (lv_sub hl [2, 3, 4, 5, 6, 7] rfl)
        · skip
          have c_360 : ¬ ((nI ((pc ((saU fr kp) k)) + (pc ((saU bk kp) k)))).toInt64) = ((nI (((cuN ((mSv mf kp) k) ((mSv mb kp) k) (0 : Int32)) + (cuN ((mSv mf kp) k) ((mSv mb kp) k) (1 : Int32))) + (2 * (cuN ((mSv mf kp) k) ((mSv mb kp) k) (3 : Int32))))).toInt64) := fun h => c_360 (lgc_eq.mpr h)
          exact absurd (by simp only [mSv_sa, saU_lo hk, ← eF, ← eB, ← eV]; rw [← cu_holes]) c_360
    · exact absurd c_343 (by decide)
  · skip
    have G : gW D (wC ad cy fr bk vw tk to fk fo kp sp lt ib rw cl nu tv tm ta ml tn ((ou, .inl (cy 2, 1, .inr (.inl og))) :: (od, .inl (cy 3, 1, .inr (.inr (.inr (.inl oh))))) :: wM am cy th (cS mf mb mv) kp X tn ap le fc f1 f2 (biF kn on) ha ([]))) A s _ _ := g_wc hw G
    refine W.eq (g2 := F0 m 323 ls [.int 1]) rfl ?_
    refine lv_istore (lv' := [(6, .int 1), (0, .ref b), (1, .ref (ad 0)), (2, .ref (am 0)), (3, .ref ou), (4, .ref od), (5, .int (nI li))]) hx hb dL_law_323 hl (by decide) rfl (fun ls hl => ?_)
    refine lv_aload_n hx hb dL_law_325 rfl (lv_at hl 3 rfl) ?_
    refine lv_aload_n hx hb dL_law_326 rfl (lv_at hl 1 rfl) ?_
    refine lv_iload hx hb dL_law_327 (lv_at hl 6 rfl) ?_
    refine lv_iconst (v := 1) hx hb dL_law_329 (by decide) ?_
    refine lv_iadd hx hb dL_law_330 ?_
    refine g_topi (x' := nI (li + 1)) (nI_add li 1) ?_
    refine va_sld hx hb hXs hbl hbA G.2.2 (vp_in_nI (n := li + 1) (by omega) (by omega)) dL_law_331 ?_
    refine g_topi (x' := p0) (by rw [nI_clamp (n := li + 1) (by omega)]; exact hp0.symm) ?_
    have G : gW D (wM am cy th (cS mf mb mv) kp X tn ap le fc f1 f2 (biF kn on) ha ((ou, .inl (cy 2, 1, .inr (.inl og))) :: (od, .inl (cy 3, 1, .inr (.inr (.inr (.inl oh))))) :: wC ad cy fr bk vw tk to fk fo kp sp lt ib rw cl nu tv tm ta ml tn ([]))) A s _ _ := g_swCM G
    refine g_callV (As := [.int p0]) (rest := []) (q0 := 0) C0 G (c_X5_renew_e1 l D cy (am := am) (mf := mf) (mb := mb) (mv := mv) (th := th) (sv := kp) (X := X) (ln := tn) (ap := ap) (le := le) (fc := fc) (f1 := f1) (f2 := f2) (ha := ha) (R := ((ou, .inl (cy 2, 1, .inr (.inl og))) :: (od, .inl (cy 3, 1, .inr (.inr (.inr (.inl oh))))) :: wC ad cy fr bk vw tk to fk fo kp sp lt ib rw cl nu tv tm ta ml tn ([]))) (B := biF kn on) (p0 := p0) (by rw [inB_ir (x := p0) (n := 2) (hi := 2) rfl (by decide)]; exact hx9)) k_X5_renew ml_L_115 rfl rfl dL_law_332 rfl rfl hl.1 (Nat.le_of_ble_eq_true rfl) ⟨Nat.le_of_ble_eq_true rfl, Nat.le_of_ble_eq_true rfl⟩ ⟨(by show _ ≤ 601024; omega), (by show _ ≤ 7293034; omega)⟩ (fun r W2 H locs hp G => ?_)
    obtain ⟨rfl, hw⟩ := hp
    have G := g_wc hw G
    refine W.eq (g2 := F0 m 335 ls [.int 0]) rfl ?_
    refine lv_istore (lv' := [(7, .int 0), (6, .int 1), (0, .ref b), (1, .ref (ad 0)), (2, .ref (am 0)), (3, .ref ou), (4, .ref od), (5, .int (nI li))]) hx hb dL_law_335 hl (by decide) rfl (fun ls hl => ?_)
    refine lv_aload_n hx hb dL_law_337 rfl (lv_at hl 4 rfl) ?_
    refine g_callV (As := []) (rest := []) (q0 := 0) C0 G (c_X5_thrown l D cy (am := am) (mf := mf) (mb := mb) (mv := mv) (th := nI 1) (sv := kp) (X := X) (ln := tn) (ap := ap) (le := le) (fc := fc) (f1 := f1) (f2 := f2) (ha := ha) (R := ((ou, .inl (cy 2, 1, .inr (.inl og))) :: (od, .inl (cy 3, 1, .inr (.inr (.inr (.inl oh))))) :: wC ad cy fr bk vw tk to fk fo kp sp lt ib rw cl nu tv tm ta ml tn ([]))) (B := biF kn on)  ) k_X5_thrown ml_L_106 rfl rfl dL_law_338 rfl rfl hl.1 (Nat.le_of_ble_eq_true rfl) ⟨Nat.le_of_ble_eq_true rfl, Nat.le_of_ble_eq_true rfl⟩ ⟨(by show _ ≤ 601024; omega), (by show _ ≤ 7293034; omega)⟩ (fun r W2 H locs hp G => ?_)
    obtain ⟨rfl, hw⟩ := hp
    have G := g_wc hw G
    refine W.eq (g2 := F0 m 341 ls [.int (nI 1)]) rfl ?_
    refine g_topi (x' := 1) rfl ?_
    refine lv_iload hx hb dL_law_341 (lv_at hl 1 rfl) ?_
    refine lv_icmp_eq (tgt := 348) hx hb dL_law_343 (by decide) (fun c_343 => ?_) (fun c_343 => ?_)
    · skip
      refine lv_iload hx hb dL_law_348 (lv_at hl 1 rfl) ?_
      refine lv_if_ne (tgt := 365) hx hb dL_law_350 (by decide) (fun c_350 => ?_) (fun c_350 => ?_)
      · skip
        refine lv_goto (tgt := 1897) hx hb dL_law_365 (by decide) ?_
        have G : gW D (wC ad cy fr bk vw tk to fk fo kp sp lt ib rw cl nu tv tm ta ml tn ((ou, .inl (cy 2, 1, .inr (.inl og))) :: (od, .inl (cy 3, 1, .inr (.inr (.inr (.inl oh))))) :: wM am cy (nI 1) (cS mf mb mv) kp X tn ap le fc f1 f2 (biF kn on) ha ([]))) A s _ _ := g_swMC G
        refine W.widen (k := cells + 8) (n := slots + 400) (by omega) (by omega) ?_
        exact kk _ _ _ ⟨fr, bk, vw, tk, to, fk, fo, kp, sp, lt, ib, rw, cl, nu, tv, tm, ta, ml, tn, mf, mb, mv, kn, on, (nI 1), X, ap, le, fc, f1, f2, ha, og, oh, tx, hF, hT, hR, G⟩ (lv_sub hl [2, 3, 4, 5, 6, 7] rfl)
      · exact absurd c_350 (by decide)
    · exact absurd c_343 (by decide)

set_option maxHeartbeats 4000000 in
set_option maxRecDepth 100000 in
theorem lw_c3 {p : Program} {l : Launch} {e : Env} {s : State} {m : MethodId} {below : List Frame} {meth : Method} {c : Code} {H : Heap} {locs : List Loc} {cells slots : Nat} {Q : State → Prop} {D : va_G} {cy : Nat → ClassId} {A : Nat → Prop} {ad am : Nat → Nat} {ou od b L li : Nat} {xs : Nat → Int32} {ls : Array Slot} (C0 : gC p s m #[.ref b] meth c code 9 (some .boolean) RL D (gts cy) A) (hst : l.stackTraces = false) (hXs : va_X b L xs s s.heap) (hbl : b < s.heap.size) (hbA : ¬ A b) (hli : li + 3 < L) (hL : L ≤ 2048) (hce : cells + 8 ≤ 601024) (hsl : slots + 400 ≤ 7293034) (I : lwI D A s cy ad am ou od H locs) (hl : lv_has ls 9 [(0, .ref b), (1, .ref (ad 0)), (2, .ref (am 0)), (3, .ref ou), (4, .ref od), (5, .int (nI li))])
    (kk : ∀ (H : Heap) (locs : List Loc) (ls : Array Slot), lwI D A s cy ad am ou od H locs → lv_has ls 9 [(0, .ref b), (1, .ref (ad 0)), (2, .ref (am 0)), (3, .ref ou), (4, .ref od), (5, .int (nI li))] → W p l e room_1 s m #[.ref b] below meth c H locs (cells + 8) (slots + 400) Q (F0 m 1897 ls [])) : W p l e room_1 s m #[.ref b] below meth c H locs cells slots Q (F0 m 368 ls []) := by
  obtain ⟨fr, bk, vw, tk, to, fk, fo, kp, sp, lt, ib, rw, cl, nu, tv, tm, ta, ml, tn, mf, mb, mv, kn, on, th, X, ap, le, fc, f1, f2, ha, og, oh, tx, hF, hT, hR, G⟩ := I
  have hx := C0.1
  have hb := C0.2.1
  have hown := C0.2.2.2.2.2.1
  have hts := C0.2.2.2.2.2.2.1
  have hRs : rsOk (0, lt, ib, rw, cl, nu) := ⟨by show 0 < 9; decide, hR.2⟩
  have hkp := hF.1
  have h60 := hT.2.2.1
  have htm := hT.1
  obtain ⟨p0, hp0⟩ : ∃ z : Int32, z = xs (li + 1) := ⟨_, rfl⟩
  obtain ⟨p1, hp1⟩ : ∃ z : Int32, z = xs (li + 2) := ⟨_, rfl⟩
  refine lv_aload_n hx hb dL_law_368 rfl (lv_at hl 1 rfl) ?_
  refine lv_aload_n hx hb dL_law_369 rfl (lv_at hl 0 rfl) ?_
  refine lv_iload hx hb dL_law_370 (lv_at hl 5 rfl) ?_
  refine lv_iconst (v := 1) hx hb dL_law_372 (by decide) ?_
  refine lv_iadd hx hb dL_law_373 ?_
  refine g_topi (x' := nI (li + 1)) (nI_add li 1) ?_
  refine va_sld hx hb hXs hbl hbA G.2.2 (vp_in_nI (n := li + 1) (by omega) (by omega)) dL_law_374 ?_
  refine g_topi (x' := p0) (by rw [nI_clamp (n := li + 1) (by omega)]; exact hp0.symm) ?_
  refine lv_aload_n hx hb dL_law_375 rfl (lv_at hl 0 rfl) ?_
  refine lv_iload hx hb dL_law_376 (lv_at hl 5 rfl) ?_
  refine lv_iconst (v := 2) hx hb dL_law_378 (by decide) ?_
  refine lv_iadd hx hb dL_law_379 ?_
  refine g_topi (x' := nI (li + 2)) (nI_add li 2) ?_
  refine va_sld hx hb hXs hbl hbA G.2.2 (vp_in_nI (n := li + 2) (by omega) (by omega)) dL_law_380 ?_
  refine g_topi (x' := p1) (by rw [nI_clamp (n := li + 2) (by omega)]; exact hp1.symm) ?_
  refine lv_aload_n hx hb dL_law_381 rfl (lv_at hl 3 rfl) ?_
  refine g_callH (As := [.ref (ad 0), .int p0, .int p1, .ref ou]) (rest := []) C0 G (c_L_copy l D cy (ad := ad) (fr := fr) (bk := bk) (vw := vw) (tk := tk) (to := to) (fk := fk) (fo := fo) (kp := kp) (sp := sp) (lt := lt) (ib := ib) (rw := rw) (cl := cl) (nu := nu) (tv := tv) (tm := tm) (ta := ta) (ml := ml) (tn := tn) (R := wM am cy th (cS mf mb mv) kp X tn ap le fc f1 f2 (biF kn on) ha ([])) (ou := ou) (od := od) (og := og) (oh := oh) (p0 := p0) (p1 := p1) hst hF.1) k_L_copy ml_L_116 dL_law_382 rfl rfl hl.1 (Nat.le_of_ble_eq_true rfl) ⟨Nat.le_of_ble_eq_true rfl, Nat.le_of_ble_eq_true rfl⟩ ⟨(by show _ ≤ 601024; omega), (by show _ ≤ 7293034; omega)⟩ (fun r W2 H locs hp G => ?_)
  rcases hp with ⟨k, hk, rfl, j, hj, rfl, hcd0, rfl, hw⟩ | ⟨rfl, hw, hx9⟩ | ⟨rfl, hw, hx9⟩
  · skip
    obtain ⟨eF, eB, eV, hv4⟩ := hF.2 k (by omega)
    have G : gW D (wC ad cy (va_up (va_up (saU fr kp) j 0) j ((fa (sdW ((saU fr kp) k) ((saU bk kp) k)) (onW ((saU fr kp) k) ((saU bk kp) k))).2)) (va_up (va_up (saU bk kp) j 0) j (((fa (sdW ((saU fr kp) k) ((saU bk kp) k)) (onW ((saU fr kp) k) ((saU bk kp) k))).1) &&& (((fa (sdW ((saU fr kp) k) ((saU bk kp) k)) (onW ((saU fr kp) k) ((saU bk kp) k))).2) ^^^ ((-1) : Int64)))) (va_up (saU vw kp) j 0) ((fa (sdW ((saU fr kp) k) ((saU bk kp) k)) (onW ((saU fr kp) k) ((saU bk kp) k))).1) ((fa (sdW ((saU fr kp) k) ((saU bk kp) k)) (onW ((saU fr kp) k) ((saU bk kp) k))).2) fk fo (saK kp) sp lt ib rw cl nu tv tm ta ml tn ((ou, .inl (cy 2, 1, .inr (.inl (vp_updL og 0 (nI (pc (blW ((va_up (va_up (saU fr kp) j 0) j ((fa (sdW ((saU fr kp) k) ((saU bk kp) k)) (onW ((saU fr kp) k) ((saU bk kp) k))).2)) j) ((va_up (va_up (saU bk kp) j 0) j (((fa (sdW ((saU fr kp) k) ((saU bk kp) k)) (onW ((saU fr kp) k) ((saU bk kp) k))).1) &&& (((fa (sdW ((saU fr kp) k) ((saU bk kp) k)) (onW ((saU fr kp) k) ((saU bk kp) k))).2) ^^^ ((-1) : Int64)))) j)))).toInt64)))) :: (od, .inl (cy 3, 1, .inr (.inr (.inr (.inl oh))))) :: wM am cy th (cS mf mb mv) kp X tn ap le fc f1 f2 (biF kn on) ha ([]))) A s _ _ := g_wc hw G
    refine W.eq (g2 := F0 m 385 ls [.int 0]) rfl ?_
    refine lv_istore (lv' := [(6, .int 0), (0, .ref b), (1, .ref (ad 0)), (2, .ref (am 0)), (3, .ref ou), (4, .ref od), (5, .int (nI li))]) hx hb dL_law_385 hl (by decide) rfl (fun ls hl => ?_)
    refine lv_aload_n hx hb dL_law_387 rfl (lv_at hl 3 rfl) ?_
    refine lv_aload_n hx hb dL_law_388 rfl (lv_at hl 1 rfl) ?_
    refine lv_iload hx hb dL_law_389 (lv_at hl 6 rfl) ?_
    refine lv_iconst (v := 1) hx hb dL_law_391 (by decide) ?_
    refine lv_iadd hx hb dL_law_392 ?_
    refine g_topi (x' := nI (li + 1)) (nI_add li 1) ?_
    refine va_sld hx hb hXs hbl hbA G.2.2 (vp_in_nI (n := li + 1) (by omega) (by omega)) dL_law_393 ?_
    refine g_topi (x' := nI k) (by rw [nI_clamp (n := li + 1) (by omega)]; exact hp0.symm) ?_
    refine lv_aload_n hx hb dL_law_394 rfl (lv_at hl 1 rfl) ?_
    refine lv_iload hx hb dL_law_395 (lv_at hl 6 rfl) ?_
    refine lv_iconst (v := 2) hx hb dL_law_397 (by decide) ?_
    refine lv_iadd hx hb dL_law_398 ?_
    refine g_topi (x' := nI (li + 2)) (nI_add li 2) ?_
    refine va_sld hx hb hXs hbl hbA G.2.2 (vp_in_nI (n := li + 2) (by omega) (by omega)) dL_law_399 ?_
    refine g_topi (x' := nI j) (by rw [nI_clamp (n := li + 2) (by omega)]; exact hp1.symm) ?_
    have G : gW D (wM am cy th (cS mf mb mv) kp X tn ap le fc f1 f2 (biF kn on) ha ((ou, .inl (cy 2, 1, .inr (.inl (vp_updL og 0 (nI (pc (blW ((va_up (va_up (saU fr kp) j 0) j ((fa (sdW ((saU fr kp) k) ((saU bk kp) k)) (onW ((saU fr kp) k) ((saU bk kp) k))).2)) j) ((va_up (va_up (saU bk kp) j 0) j (((fa (sdW ((saU fr kp) k) ((saU bk kp) k)) (onW ((saU fr kp) k) ((saU bk kp) k))).1) &&& (((fa (sdW ((saU fr kp) k) ((saU bk kp) k)) (onW ((saU fr kp) k) ((saU bk kp) k))).2) ^^^ ((-1) : Int64)))) j)))).toInt64)))) :: (od, .inl (cy 3, 1, .inr (.inr (.inr (.inl oh))))) :: wC ad cy (va_up (va_up (saU fr kp) j 0) j ((fa (sdW ((saU fr kp) k) ((saU bk kp) k)) (onW ((saU fr kp) k) ((saU bk kp) k))).2)) (va_up (va_up (saU bk kp) j 0) j (((fa (sdW ((saU fr kp) k) ((saU bk kp) k)) (onW ((saU fr kp) k) ((saU bk kp) k))).1) &&& (((fa (sdW ((saU fr kp) k) ((saU bk kp) k)) (onW ((saU fr kp) k) ((saU bk kp) k))).2) ^^^ ((-1) : Int64)))) (va_up (saU vw kp) j 0) ((fa (sdW ((saU fr kp) k) ((saU bk kp) k)) (onW ((saU fr kp) k) ((saU bk kp) k))).1) ((fa (sdW ((saU fr kp) k) ((saU bk kp) k)) (onW ((saU fr kp) k) ((saU bk kp) k))).2) fk fo (saK kp) sp lt ib rw cl nu tv tm ta ml tn ([]))) A s _ _ := g_swCM G
    refine g_callV (As := [.int (nI k), .int (nI j)]) (rest := []) (q0 := 0) C0 G (c_X5_copy_ok l D cy (am := am) (mf := mf) (mb := mb) (mv := mv) (kn := kn) (on := on) (th := th) (sv := kp) (X := X) (ln := tn) (ap := ap) (le := le) (fc := fc) (f1 := f1) (f2 := f2) (ha := ha) (R := ((ou, .inl (cy 2, 1, .inr (.inl (vp_updL og 0 (nI (pc (blW ((va_up (va_up (saU fr kp) j 0) j ((fa (sdW ((saU fr kp) k) ((saU bk kp) k)) (onW ((saU fr kp) k) ((saU bk kp) k))).2)) j) ((va_up (va_up (saU bk kp) j 0) j (((fa (sdW ((saU fr kp) k) ((saU bk kp) k)) (onW ((saU fr kp) k) ((saU bk kp) k))).1) &&& (((fa (sdW ((saU fr kp) k) ((saU bk kp) k)) (onW ((saU fr kp) k) ((saU bk kp) k))).2) ^^^ ((-1) : Int64)))) j)))).toInt64)))) :: (od, .inl (cy 3, 1, .inr (.inr (.inr (.inl oh))))) :: wC ad cy (va_up (va_up (saU fr kp) j 0) j ((fa (sdW ((saU fr kp) k) ((saU bk kp) k)) (onW ((saU fr kp) k) ((saU bk kp) k))).2)) (va_up (va_up (saU bk kp) j 0) j (((fa (sdW ((saU fr kp) k) ((saU bk kp) k)) (onW ((saU fr kp) k) ((saU bk kp) k))).1) &&& (((fa (sdW ((saU fr kp) k) ((saU bk kp) k)) (onW ((saU fr kp) k) ((saU bk kp) k))).2) ^^^ ((-1) : Int64)))) (va_up (saU vw kp) j 0) ((fa (sdW ((saU fr kp) k) ((saU bk kp) k)) (onW ((saU fr kp) k) ((saU bk kp) k))).1) ((fa (sdW ((saU fr kp) k) ((saU bk kp) k)) (onW ((saU fr kp) k) ((saU bk kp) k))).2) fk fo (saK kp) sp lt ib rw cl nu tv tm ta ml tn ([]))) (k := k) (j := j) (by omega) (by omega) hcd0 hkp) k_X5_copy ml_L_119 rfl rfl dL_law_400 rfl rfl hl.1 (Nat.le_of_ble_eq_true rfl) ⟨Nat.le_of_ble_eq_true rfl, Nat.le_of_ble_eq_true rfl⟩ ⟨(by show _ ≤ 601024; omega), (by show _ ≤ 7293034; omega)⟩ (fun r W2 H locs hp G => ?_)
    obtain ⟨rfl, hw⟩ := hp
    have G := g_wc hw G
    refine W.eq (g2 := F0 m 403 ls [.int (nI (pc ((fa (sdW (mSv mf kp k) (mSv mb kp k)) (onW (mSv mf kp k) (mSv mb kp k))).1 ^^^ (-1))))]) rfl ?_
    refine lv_istore (lv' := [(7, .int (nI (pc ((fa (sdW (mSv mf kp k) (mSv mb kp k)) (onW (mSv mf kp k) (mSv mb kp k))).1 ^^^ (-1))))), (6, .int 0), (0, .ref b), (1, .ref (ad 0)), (2, .ref (am 0)), (3, .ref ou), (4, .ref od), (5, .int (nI li))]) hx hb dL_law_403 hl (by decide) rfl (fun ls hl => ?_)
    refine lv_aload_n hx hb dL_law_405 rfl (lv_at hl 4 rfl) ?_
    refine g_callV (As := []) (rest := []) (q0 := 0) C0 G (c_X5_thrown l D cy (am := am) (mf := va_up (mSv mf kp) j (cyF (fa (sdW (mSv mf kp k) (mSv mb kp k)) (onW (mSv mf kp k) (mSv mb kp k))).1 (fa (sdW (mSv mf kp k) (mSv mb kp k)) (onW (mSv mf kp k) (mSv mb kp k))).2 64)) (mb := va_up (mSv mb kp) j (cyB (fa (sdW (mSv mf kp k) (mSv mb kp k)) (onW (mSv mf kp k) (mSv mb kp k))).1 (fa (sdW (mSv mf kp k) (mSv mb kp k)) (onW (mSv mf kp k) (mSv mb kp k))).2 64)) (mv := va_up (mSv mv kp) j 0) (th := nI 0) (sv := saK kp) (X := X) (ln := tn) (ap := ap) (le := le) (fc := fc) (f1 := f1) (f2 := f2) (ha := ha) (R := ((ou, .inl (cy 2, 1, .inr (.inl (vp_updL og 0 (nI (pc (blW ((va_up (va_up (saU fr kp) j 0) j ((fa (sdW ((saU fr kp) k) ((saU bk kp) k)) (onW ((saU fr kp) k) ((saU bk kp) k))).2)) j) ((va_up (va_up (saU bk kp) j 0) j (((fa (sdW ((saU fr kp) k) ((saU bk kp) k)) (onW ((saU fr kp) k) ((saU bk kp) k))).1) &&& (((fa (sdW ((saU fr kp) k) ((saU bk kp) k)) (onW ((saU fr kp) k) ((saU bk kp) k))).2) ^^^ ((-1) : Int64)))) j)))).toInt64)))) :: (od, .inl (cy 3, 1, .inr (.inr (.inr (.inl oh))))) :: wC ad cy (va_up (va_up (saU fr kp) j 0) j ((fa (sdW ((saU fr kp) k) ((saU bk kp) k)) (onW ((saU fr kp) k) ((saU bk kp) k))).2)) (va_up (va_up (saU bk kp) j 0) j (((fa (sdW ((saU fr kp) k) ((saU bk kp) k)) (onW ((saU fr kp) k) ((saU bk kp) k))).1) &&& (((fa (sdW ((saU fr kp) k) ((saU bk kp) k)) (onW ((saU fr kp) k) ((saU bk kp) k))).2) ^^^ ((-1) : Int64)))) (va_up (saU vw kp) j 0) ((fa (sdW ((saU fr kp) k) ((saU bk kp) k)) (onW ((saU fr kp) k) ((saU bk kp) k))).1) ((fa (sdW ((saU fr kp) k) ((saU bk kp) k)) (onW ((saU fr kp) k) ((saU bk kp) k))).2) fk fo (saK kp) sp lt ib rw cl nu tv tm ta ml tn ([]))) (B := biF ((fa (sdW (mSv mf kp k) (mSv mb kp k)) (onW (mSv mf kp k) (mSv mb kp k))).1) ((fa (sdW (mSv mf kp k) (mSv mb kp k)) (onW (mSv mf kp k) (mSv mb kp k))).2))  ) k_X5_thrown ml_L_106 rfl rfl dL_law_406 rfl rfl hl.1 (Nat.le_of_ble_eq_true rfl) ⟨Nat.le_of_ble_eq_true rfl, Nat.le_of_ble_eq_true rfl⟩ ⟨(by show _ ≤ 601024; omega), (by show _ ≤ 7293034; omega)⟩ (fun r W2 H locs hp G => ?_)
    obtain ⟨rfl, hw⟩ := hp
    have G := g_wc hw G
    refine W.eq (g2 := F0 m 409 ls [.int (nI 0)]) rfl ?_
    refine g_topi (x' := 0) rfl ?_
    refine lv_iload hx hb dL_law_409 (lv_at hl 1 rfl) ?_
    refine lv_icmp_eq (tgt := 416) hx hb dL_law_411 (by decide) (fun c_411 => ?_) (fun c_411 => ?_)
    · skip
      refine lv_iload hx hb dL_law_416 (lv_at hl 1 rfl) ?_
      refine lv_if_ne (tgt := 433) hx hb dL_law_418 (by decide) (fun c_418 => ?_) (fun c_418 => ?_)
      · exact absurd c_418 (by decide)
      · skip
        refine lv_aload_n hx hb dL_law_421 rfl (lv_at hl 5 rfl) ?_
        refine lv_iconst (v := 0) hx hb dL_law_422 (by decide) ?_
        refine g_topi (x' := nI 0) rfl ?_
        refine g_lald (q0 := 4) (n := 1) C0 G rfl 2 rfl (vp_in_nI (n := 0) (by omega) (by decide)) dL_law_423 ?_
        refine g_topl (x' := (vp_updL og 0 (nI (pc (blW ((va_up (va_up (saU fr kp) j 0) j ((fa (sdW ((saU fr kp) k) ((saU bk kp) k)) (onW ((saU fr kp) k) ((saU bk kp) k))).2)) j) ((va_up (va_up (saU bk kp) j 0) j (((fa (sdW ((saU fr kp) k) ((saU bk kp) k)) (onW ((saU fr kp) k) ((saU bk kp) k))).1) &&& (((fa (sdW ((saU fr kp) k) ((saU bk kp) k)) (onW ((saU fr kp) k) ((saU bk kp) k))).2) ^^^ ((-1) : Int64)))) j)))).toInt64) 0) (congrArg (vp_updL og 0 (nI (pc (blW ((va_up (va_up (saU fr kp) j 0) j ((fa (sdW ((saU fr kp) k) ((saU bk kp) k)) (onW ((saU fr kp) k) ((saU bk kp) k))).2)) j) ((va_up (va_up (saU bk kp) j 0) j (((fa (sdW ((saU fr kp) k) ((saU bk kp) k)) (onW ((saU fr kp) k) ((saU bk kp) k))).1) &&& (((fa (sdW ((saU fr kp) k) ((saU bk kp) k)) (onW ((saU fr kp) k) ((saU bk kp) k))).2) ^^^ ((-1) : Int64)))) j)))).toInt64) (nI_clamp (n := 0) (by omega))) ?_
        refine g_topl (x' := (nI (pc (blW ((va_up (va_up (saU fr kp) j 0) j ((fa (sdW ((saU fr kp) k) ((saU bk kp) k)) (onW ((saU fr kp) k) ((saU bk kp) k))).2)) j) ((va_up (va_up (saU bk kp) j 0) j (((fa (sdW ((saU fr kp) k) ((saU bk kp) k)) (onW ((saU fr kp) k) ((saU bk kp) k))).1) &&& (((fa (sdW ((saU fr kp) k) ((saU bk kp) k)) (onW ((saU fr kp) k) ((saU bk kp) k))).2) ^^^ ((-1) : Int64)))) j)))).toInt64) (if_pos rfl) ?_
        refine lv_iload hx hb dL_law_424 (lv_at hl 0 rfl) ?_
        refine lv_i2l hx hb dL_law_426 rfl ?_
        refine W.lcmp hx hb dL_law_427 ?_
        refine lv_if_eq (tgt := 433) hx hb dL_law_428 (by decide) (fun c_428 => ?_) (fun c_428 => ?_)
        · skip
          have c_428 : ((nI (pc (blW ((va_up (va_up (saU fr kp) j 0) j ((fa (sdW ((saU fr kp) k) ((saU bk kp) k)) (onW ((saU fr kp) k) ((saU bk kp) k))).2)) j) ((va_up (va_up (saU bk kp) j 0) j (((fa (sdW ((saU fr kp) k) ((saU bk kp) k)) (onW ((saU fr kp) k) ((saU bk kp) k))).1) &&& (((fa (sdW ((saU fr kp) k) ((saU bk kp) k)) (onW ((saU fr kp) k) ((saU bk kp) k))).2) ^^^ ((-1) : Int64)))) j)))).toInt64) = ((nI (pc ((fa (sdW (mSv mf kp k) (mSv mb kp k)) (onW (mSv mf kp k) (mSv mb kp k))).1 ^^^ (-1)))).toInt64) := lgc_eq.mp c_428
          refine lv_goto (tgt := 1897) hx hb dL_law_433 (by decide) ?_
          have G : gW D (wC ad cy (va_up (va_up (saU fr kp) j 0) j ((fa (sdW ((saU fr kp) k) ((saU bk kp) k)) (onW ((saU fr kp) k) ((saU bk kp) k))).2)) (va_up (va_up (saU bk kp) j 0) j (((fa (sdW ((saU fr kp) k) ((saU bk kp) k)) (onW ((saU fr kp) k) ((saU bk kp) k))).1) &&& (((fa (sdW ((saU fr kp) k) ((saU bk kp) k)) (onW ((saU fr kp) k) ((saU bk kp) k))).2) ^^^ ((-1) : Int64)))) (va_up (saU vw kp) j 0) ((fa (sdW ((saU fr kp) k) ((saU bk kp) k)) (onW ((saU fr kp) k) ((saU bk kp) k))).1) ((fa (sdW ((saU fr kp) k) ((saU bk kp) k)) (onW ((saU fr kp) k) ((saU bk kp) k))).2) fk fo (saK kp) sp lt ib rw cl nu tv tm ta ml tn ((ou, .inl (cy 2, 1, .inr (.inl (vp_updL og 0 (nI (pc (blW ((va_up (va_up (saU fr kp) j 0) j ((fa (sdW ((saU fr kp) k) ((saU bk kp) k)) (onW ((saU fr kp) k) ((saU bk kp) k))).2)) j) ((va_up (va_up (saU bk kp) j 0) j (((fa (sdW ((saU fr kp) k) ((saU bk kp) k)) (onW ((saU fr kp) k) ((saU bk kp) k))).1) &&& (((fa (sdW ((saU fr kp) k) ((saU bk kp) k)) (onW ((saU fr kp) k) ((saU bk kp) k))).2) ^^^ ((-1) : Int64)))) j)))).toInt64)))) :: (od, .inl (cy 3, 1, .inr (.inr (.inr (.inl oh))))) :: wM am cy (nI 0) (cS (va_up (mSv mf kp) j (cyF (fa (sdW (mSv mf kp k) (mSv mb kp k)) (onW (mSv mf kp k) (mSv mb kp k))).1 (fa (sdW (mSv mf kp k) (mSv mb kp k)) (onW (mSv mf kp k) (mSv mb kp k))).2 64)) (va_up (mSv mb kp) j (cyB (fa (sdW (mSv mf kp k) (mSv mb kp k)) (onW (mSv mf kp k) (mSv mb kp k))).1 (fa (sdW (mSv mf kp k) (mSv mb kp k)) (onW (mSv mf kp k) (mSv mb kp k))).2 64)) (va_up (mSv mv kp) j 0)) (saK kp) X tn ap le fc f1 f2 (biF ((fa (sdW (mSv mf kp k) (mSv mb kp k)) (onW (mSv mf kp k) (mSv mb kp k))).1) ((fa (sdW (mSv mf kp k) (mSv mb kp k)) (onW (mSv mf kp k) (mSv mb kp k))).2)) ha ([]))) A s _ _ := g_swMC G
          refine W.widen (k := cells + 8) (n := slots + 400) (by omega) (by omega) ?_
          exact kk _ _ _ ⟨(va_up (va_up (saU fr kp) j 0) j ((fa (sdW ((saU fr kp) k) ((saU bk kp) k)) (onW ((saU fr kp) k) ((saU bk kp) k))).2)), (va_up (va_up (saU bk kp) j 0) j (((fa (sdW ((saU fr kp) k) ((saU bk kp) k)) (onW ((saU fr kp) k) ((saU bk kp) k))).1) &&& (((fa (sdW ((saU fr kp) k) ((saU bk kp) k)) (onW ((saU fr kp) k) ((saU bk kp) k))).2) ^^^ ((-1) : Int64)))), (va_up (saU vw kp) j 0), ((fa (sdW ((saU fr kp) k) ((saU bk kp) k)) (onW ((saU fr kp) k) ((saU bk kp) k))).1), ((fa (sdW ((saU fr kp) k) ((saU bk kp) k)) (onW ((saU fr kp) k) ((saU bk kp) k))).2), fk, fo, (saK kp), sp, lt, ib, rw, cl, nu, tv, tm, ta, ml, tn, (va_up (mSv mf kp) j (cyF (fa (sdW (mSv mf kp k) (mSv mb kp k)) (onW (mSv mf kp k) (mSv mb kp k))).1 (fa (sdW (mSv mf kp k) (mSv mb kp k)) (onW (mSv mf kp k) (mSv mb kp k))).2 64)), (va_up (mSv mb kp) j (cyB (fa (sdW (mSv mf kp k) (mSv mb kp k)) (onW (mSv mf kp k) (mSv mb kp k))).1 (fa (sdW (mSv mf kp k) (mSv mb kp k)) (onW (mSv mf kp k) (mSv mb kp k))).2 64)), (va_up (mSv mv kp) j 0), ((fa (sdW (mSv mf kp k) (mSv mb kp k)) (onW (mSv mf kp k) (mSv mb kp k))).1), ((fa (sdW (mSv mf kp k) (mSv mb kp k)) (onW (mSv mf kp k) (mSv mb kp k))).2), (nI 0), X, ap, le, fc, f1, f2, ha, (vp_updL og 0 (nI (pc (blW ((va_up (va_up (saU fr kp) j 0) j ((fa (sdW ((saU fr kp) k) ((saU bk kp) k)) (onW ((saU fr kp) k) ((saU bk kp) k))).2)) j) ((va_up (va_up (saU bk kp) j 0) j (((fa (sdW ((saU fr kp) k) ((saU bk kp) k)) (onW ((saU fr kp) k) ((saU bk kp) k))).1) &&& (((fa (sdW ((saU fr kp) k) ((saU bk kp) k)) (onW ((saU fr kp) k) ((saU bk kp) k))).2) ^^^ ((-1) : Int64)))) j)))).toInt64), oh, tx, (by simp only [mSv_sa, saU_lo hk, ← eF, ← eB, ← eV, bx_uu, (cy_on (kn := (fa (sdW (fr k) (bk k)) (onW (fr k) (bk k))).1) (on := (fa (sdW (fr k) (bk k)) (onW (fr k) (bk k))).2) (ok_fa (fr k) (bk k))).1, (cy_on (kn := (fa (sdW (fr k) (bk k)) (onW (fr k) (bk k))).1) (on := (fa (sdW (fr k) (bk k)) (onW (fr k) (bk k))).2) (ok_fa (fr k) (bk k))).2]; exact lwF_v (lwF_b (lwF_f (lwF_sa hF))) (by decide)), hT, hR, G⟩ (lv_sub hl [2, 3, 4, 5, 6, 7] rfl)
        · skip
          have c_428 : ¬ ((nI (pc (blW ((va_up (va_up (saU fr kp) j 0) j ((fa (sdW ((saU fr kp) k) ((saU bk kp) k)) (onW ((saU fr kp) k) ((saU bk kp) k))).2)) j) ((va_up (va_up (saU bk kp) j 0) j (((fa (sdW ((saU fr kp) k) ((saU bk kp) k)) (onW ((saU fr kp) k) ((saU bk kp) k))).1) &&& (((fa (sdW ((saU fr kp) k) ((saU bk kp) k)) (onW ((saU fr kp) k) ((saU bk kp) k))).2) ^^^ ((-1) : Int64)))) j)))).toInt64) = ((nI (pc ((fa (sdW (mSv mf kp k) (mSv mb kp k)) (onW (mSv mf kp k) (mSv mb kp k))).1 ^^^ (-1)))).toInt64) := fun h => c_428 (lgc_eq.mpr h)
          exact absurd (by simp only [mSv_sa, saU_lo hk, ← eF, ← eB, ← eV, va_up_e]; rw [bl_cy (kn := (fa (sdW (fr k) (bk k)) (onW (fr k) (bk k))).1) (on := (fa (sdW (fr k) (bk k)) (onW (fr k) (bk k))).2) (ok_fa (fr k) (bk k))]) c_428
    · exact absurd c_411 (by decide)
  · skip
    have G : gW D (wC ad cy fr bk vw tk to fk fo kp sp lt ib rw cl nu tv tm ta ml tn ((ou, .inl (cy 2, 1, .inr (.inl og))) :: (od, .inl (cy 3, 1, .inr (.inr (.inr (.inl oh))))) :: wM am cy th (cS mf mb mv) kp X tn ap le fc f1 f2 (biF kn on) ha ([]))) A s _ _ := g_wc hw G
    refine W.eq (g2 := F0 m 385 ls [.int 1]) rfl ?_
    refine lv_istore (lv' := [(6, .int 1), (0, .ref b), (1, .ref (ad 0)), (2, .ref (am 0)), (3, .ref ou), (4, .ref od), (5, .int (nI li))]) hx hb dL_law_385 hl (by decide) rfl (fun ls hl => ?_)
    refine lv_aload_n hx hb dL_law_387 rfl (lv_at hl 3 rfl) ?_
    refine lv_aload_n hx hb dL_law_388 rfl (lv_at hl 1 rfl) ?_
    refine lv_iload hx hb dL_law_389 (lv_at hl 6 rfl) ?_
    refine lv_iconst (v := 1) hx hb dL_law_391 (by decide) ?_
    refine lv_iadd hx hb dL_law_392 ?_
    refine g_topi (x' := nI (li + 1)) (nI_add li 1) ?_
    refine va_sld hx hb hXs hbl hbA G.2.2 (vp_in_nI (n := li + 1) (by omega) (by omega)) dL_law_393 ?_
    refine g_topi (x' := p0) (by rw [nI_clamp (n := li + 1) (by omega)]; exact hp0.symm) ?_
    refine lv_aload_n hx hb dL_law_394 rfl (lv_at hl 1 rfl) ?_
    refine lv_iload hx hb dL_law_395 (lv_at hl 6 rfl) ?_
    refine lv_iconst (v := 2) hx hb dL_law_397 (by decide) ?_
    refine lv_iadd hx hb dL_law_398 ?_
    refine g_topi (x' := nI (li + 2)) (nI_add li 2) ?_
    refine va_sld hx hb hXs hbl hbA G.2.2 (vp_in_nI (n := li + 2) (by omega) (by omega)) dL_law_399 ?_
    refine g_topi (x' := p1) (by rw [nI_clamp (n := li + 2) (by omega)]; exact hp1.symm) ?_
    have G : gW D (wM am cy th (cS mf mb mv) kp X tn ap le fc f1 f2 (biF kn on) ha ((ou, .inl (cy 2, 1, .inr (.inl og))) :: (od, .inl (cy 3, 1, .inr (.inr (.inr (.inl oh))))) :: wC ad cy fr bk vw tk to fk fo kp sp lt ib rw cl nu tv tm ta ml tn ([]))) A s _ _ := g_swCM G
    refine g_callV (As := [.int p0, .int p1]) (rest := []) (q0 := 0) C0 G (c_X5_copy_e1 l D cy (am := am) (mf := mf) (mb := mb) (mv := mv) (th := th) (sv := kp) (X := X) (ln := tn) (ap := ap) (le := le) (fc := fc) (f1 := f1) (f2 := f2) (ha := ha) (R := ((ou, .inl (cy 2, 1, .inr (.inl og))) :: (od, .inl (cy 3, 1, .inr (.inr (.inr (.inl oh))))) :: wC ad cy fr bk vw tk to fk fo kp sp lt ib rw cl nu tv tm ta ml tn ([]))) (B := biF kn on) (p0 := p0) (p1 := p1) (by rw [inB_ir (x := p0) (n := 2) (hi := 2) rfl (by decide), inB_ir (x := p1) (n := 2) (hi := 2) rfl (by decide)]; exact hx9)) k_X5_copy ml_L_119 rfl rfl dL_law_400 rfl rfl hl.1 (Nat.le_of_ble_eq_true rfl) ⟨Nat.le_of_ble_eq_true rfl, Nat.le_of_ble_eq_true rfl⟩ ⟨(by show _ ≤ 601024; omega), (by show _ ≤ 7293034; omega)⟩ (fun r W2 H locs hp G => ?_)
    obtain ⟨rfl, hw⟩ := hp
    have G := g_wc hw G
    refine W.eq (g2 := F0 m 403 ls [.int 0]) rfl ?_
    refine lv_istore (lv' := [(7, .int 0), (6, .int 1), (0, .ref b), (1, .ref (ad 0)), (2, .ref (am 0)), (3, .ref ou), (4, .ref od), (5, .int (nI li))]) hx hb dL_law_403 hl (by decide) rfl (fun ls hl => ?_)
    refine lv_aload_n hx hb dL_law_405 rfl (lv_at hl 4 rfl) ?_
    refine g_callV (As := []) (rest := []) (q0 := 0) C0 G (c_X5_thrown l D cy (am := am) (mf := mf) (mb := mb) (mv := mv) (th := nI 1) (sv := kp) (X := X) (ln := tn) (ap := ap) (le := le) (fc := fc) (f1 := f1) (f2 := f2) (ha := ha) (R := ((ou, .inl (cy 2, 1, .inr (.inl og))) :: (od, .inl (cy 3, 1, .inr (.inr (.inr (.inl oh))))) :: wC ad cy fr bk vw tk to fk fo kp sp lt ib rw cl nu tv tm ta ml tn ([]))) (B := biF kn on)  ) k_X5_thrown ml_L_106 rfl rfl dL_law_406 rfl rfl hl.1 (Nat.le_of_ble_eq_true rfl) ⟨Nat.le_of_ble_eq_true rfl, Nat.le_of_ble_eq_true rfl⟩ ⟨(by show _ ≤ 601024; omega), (by show _ ≤ 7293034; omega)⟩ (fun r W2 H locs hp G => ?_)
    obtain ⟨rfl, hw⟩ := hp
    have G := g_wc hw G
    refine W.eq (g2 := F0 m 409 ls [.int (nI 1)]) rfl ?_
    refine g_topi (x' := 1) rfl ?_
    refine lv_iload hx hb dL_law_409 (lv_at hl 1 rfl) ?_
    refine lv_icmp_eq (tgt := 416) hx hb dL_law_411 (by decide) (fun c_411 => ?_) (fun c_411 => ?_)
    · skip
      refine lv_iload hx hb dL_law_416 (lv_at hl 1 rfl) ?_
      refine lv_if_ne (tgt := 433) hx hb dL_law_418 (by decide) (fun c_418 => ?_) (fun c_418 => ?_)
      · skip
        refine lv_goto (tgt := 1897) hx hb dL_law_433 (by decide) ?_
        have G : gW D (wC ad cy fr bk vw tk to fk fo kp sp lt ib rw cl nu tv tm ta ml tn ((ou, .inl (cy 2, 1, .inr (.inl og))) :: (od, .inl (cy 3, 1, .inr (.inr (.inr (.inl oh))))) :: wM am cy (nI 1) (cS mf mb mv) kp X tn ap le fc f1 f2 (biF kn on) ha ([]))) A s _ _ := g_swMC G
        refine W.widen (k := cells + 8) (n := slots + 400) (by omega) (by omega) ?_
        exact kk _ _ _ ⟨fr, bk, vw, tk, to, fk, fo, kp, sp, lt, ib, rw, cl, nu, tv, tm, ta, ml, tn, mf, mb, mv, kn, on, (nI 1), X, ap, le, fc, f1, f2, ha, og, oh, tx, hF, hT, hR, G⟩ (lv_sub hl [2, 3, 4, 5, 6, 7] rfl)
      · exact absurd c_418 (by decide)
    · exact absurd c_411 (by decide)
  · skip
    obtain ⟨k, hk, rfl, rfl⟩ := hx9
    have G : gW D (wC ad cy fr bk vw tk to fk fo kp sp lt ib rw cl nu tv tm ta ml tn ((ou, .inl (cy 2, 1, .inr (.inl og))) :: (od, .inl (cy 3, 1, .inr (.inr (.inr (.inl oh))))) :: wM am cy th (cS mf mb mv) kp X tn ap le fc f1 f2 (biF kn on) ha ([]))) A s _ _ := g_wc hw G
    refine W.eq (g2 := F0 m 385 ls [.int 2]) rfl ?_
    refine lv_istore (lv' := [(6, .int 2), (0, .ref b), (1, .ref (ad 0)), (2, .ref (am 0)), (3, .ref ou), (4, .ref od), (5, .int (nI li))]) hx hb dL_law_385 hl (by decide) rfl (fun ls hl => ?_)
    refine lv_aload_n hx hb dL_law_387 rfl (lv_at hl 3 rfl) ?_
    refine lv_aload_n hx hb dL_law_388 rfl (lv_at hl 1 rfl) ?_
    refine lv_iload hx hb dL_law_389 (lv_at hl 6 rfl) ?_
    refine lv_iconst (v := 1) hx hb dL_law_391 (by decide) ?_
    refine lv_iadd hx hb dL_law_392 ?_
    refine g_topi (x' := nI (li + 1)) (nI_add li 1) ?_
    refine va_sld hx hb hXs hbl hbA G.2.2 (vp_in_nI (n := li + 1) (by omega) (by omega)) dL_law_393 ?_
    refine g_topi (x' := nI k) (by rw [nI_clamp (n := li + 1) (by omega)]; exact hp0.symm) ?_
    refine lv_aload_n hx hb dL_law_394 rfl (lv_at hl 1 rfl) ?_
    refine lv_iload hx hb dL_law_395 (lv_at hl 6 rfl) ?_
    refine lv_iconst (v := 2) hx hb dL_law_397 (by decide) ?_
    refine lv_iadd hx hb dL_law_398 ?_
    refine g_topi (x' := nI (li + 2)) (nI_add li 2) ?_
    refine va_sld hx hb hXs hbl hbA G.2.2 (vp_in_nI (n := li + 2) (by omega) (by omega)) dL_law_399 ?_
    refine g_topi (x' := nI k) (by rw [nI_clamp (n := li + 2) (by omega)]; exact hp1.symm) ?_
    have G : gW D (wM am cy th (cS mf mb mv) kp X tn ap le fc f1 f2 (biF kn on) ha ((ou, .inl (cy 2, 1, .inr (.inl og))) :: (od, .inl (cy 3, 1, .inr (.inr (.inr (.inl oh))))) :: wC ad cy fr bk vw tk to fk fo kp sp lt ib rw cl nu tv tm ta ml tn ([]))) A s _ _ := g_swCM G
    refine g_callV (As := [.int (nI k), .int (nI k)]) (rest := []) (q0 := 0) C0 G (c_X5_copy_e2 l D cy (am := am) (mf := mf) (mb := mb) (mv := mv) (th := th) (sv := kp) (X := X) (ln := tn) (ap := ap) (le := le) (fc := fc) (f1 := f1) (f2 := f2) (ha := ha) (R := ((ou, .inl (cy 2, 1, .inr (.inl og))) :: (od, .inl (cy 3, 1, .inr (.inr (.inr (.inl oh))))) :: wC ad cy fr bk vw tk to fk fo kp sp lt ib rw cl nu tv tm ta ml tn ([]))) (B := biF kn on) (k := k) (j := k) (by omega) (by omega) rfl) k_X5_copy ml_L_119 rfl rfl dL_law_400 rfl rfl hl.1 (Nat.le_of_ble_eq_true rfl) ⟨Nat.le_of_ble_eq_true rfl, Nat.le_of_ble_eq_true rfl⟩ ⟨(by show _ ≤ 601024; omega), (by show _ ≤ 7293034; omega)⟩ (fun r W2 H locs hp G => ?_)
    obtain ⟨rfl, hw⟩ := hp
    have G := g_wc hw G
    refine W.eq (g2 := F0 m 403 ls [.int 0]) rfl ?_
    refine lv_istore (lv' := [(7, .int 0), (6, .int 2), (0, .ref b), (1, .ref (ad 0)), (2, .ref (am 0)), (3, .ref ou), (4, .ref od), (5, .int (nI li))]) hx hb dL_law_403 hl (by decide) rfl (fun ls hl => ?_)
    refine lv_aload_n hx hb dL_law_405 rfl (lv_at hl 4 rfl) ?_
    refine g_callV (As := []) (rest := []) (q0 := 0) C0 G (c_X5_thrown l D cy (am := am) (mf := mf) (mb := mb) (mv := mv) (th := nI 2) (sv := kp) (X := X) (ln := tn) (ap := ap) (le := le) (fc := fc) (f1 := f1) (f2 := f2) (ha := ha) (R := ((ou, .inl (cy 2, 1, .inr (.inl og))) :: (od, .inl (cy 3, 1, .inr (.inr (.inr (.inl oh))))) :: wC ad cy fr bk vw tk to fk fo kp sp lt ib rw cl nu tv tm ta ml tn ([]))) (B := biF kn on)  ) k_X5_thrown ml_L_106 rfl rfl dL_law_406 rfl rfl hl.1 (Nat.le_of_ble_eq_true rfl) ⟨Nat.le_of_ble_eq_true rfl, Nat.le_of_ble_eq_true rfl⟩ ⟨(by show _ ≤ 601024; omega), (by show _ ≤ 7293034; omega)⟩ (fun r W2 H locs hp G => ?_)
    obtain ⟨rfl, hw⟩ := hp
    have G := g_wc hw G
    refine W.eq (g2 := F0 m 409 ls [.int (nI 2)]) rfl ?_
    refine g_topi (x' := 2) rfl ?_
    refine lv_iload hx hb dL_law_409 (lv_at hl 1 rfl) ?_
    refine lv_icmp_eq (tgt := 416) hx hb dL_law_411 (by decide) (fun c_411 => ?_) (fun c_411 => ?_)
    · skip
      refine lv_iload hx hb dL_law_416 (lv_at hl 1 rfl) ?_
      refine lv_if_ne (tgt := 433) hx hb dL_law_418 (by decide) (fun c_418 => ?_) (fun c_418 => ?_)
      · skip
        refine lv_goto (tgt := 1897) hx hb dL_law_433 (by decide) ?_
        have G : gW D (wC ad cy fr bk vw tk to fk fo kp sp lt ib rw cl nu tv tm ta ml tn ((ou, .inl (cy 2, 1, .inr (.inl og))) :: (od, .inl (cy 3, 1, .inr (.inr (.inr (.inl oh))))) :: wM am cy (nI 2) (cS mf mb mv) kp X tn ap le fc f1 f2 (biF kn on) ha ([]))) A s _ _ := g_swMC G
        refine W.widen (k := cells + 8) (n := slots + 400) (by omega) (by omega) ?_
        exact kk _ _ _ ⟨fr, bk, vw, tk, to, fk, fo, kp, sp, lt, ib, rw, cl, nu, tv, tm, ta, ml, tn, mf, mb, mv, kn, on, (nI 2), X, ap, le, fc, f1, f2, ha, og, oh, tx, hF, hT, hR, G⟩ (lv_sub hl [2, 3, 4, 5, 6, 7] rfl)
      · exact absurd c_418 (by decide)
    · exact absurd c_411 (by decide)

set_option maxHeartbeats 4000000 in
set_option maxRecDepth 100000 in
theorem lw_c4 {p : Program} {l : Launch} {e : Env} {s : State} {m : MethodId} {below : List Frame} {meth : Method} {c : Code} {H : Heap} {locs : List Loc} {cells slots : Nat} {Q : State → Prop} {D : va_G} {cy : Nat → ClassId} {A : Nat → Prop} {ad am : Nat → Nat} {ou od b L li : Nat} {xs : Nat → Int32} {ls : Array Slot} (C0 : gC p s m #[.ref b] meth c code 9 (some .boolean) RL D (gts cy) A) (hst : l.stackTraces = false) (hXs : va_X b L xs s s.heap) (hbl : b < s.heap.size) (hbA : ¬ A b) (hli : li + 3 < L) (hL : L ≤ 2048) (hce : cells + 8 ≤ 601024) (hsl : slots + 400 ≤ 7293034) (I : lwI D A s cy ad am ou od H locs) (hl : lv_has ls 9 [(0, .ref b), (1, .ref (ad 0)), (2, .ref (am 0)), (3, .ref ou), (4, .ref od), (5, .int (nI li))])
    (kk : ∀ (H : Heap) (locs : List Loc) (ls : Array Slot), lwI D A s cy ad am ou od H locs → lv_has ls 9 [(0, .ref b), (1, .ref (ad 0)), (2, .ref (am 0)), (3, .ref ou), (4, .ref od), (5, .int (nI li))] → W p l e room_1 s m #[.ref b] below meth c H locs (cells + 8) (slots + 400) Q (F0 m 1897 ls [])) : W p l e room_1 s m #[.ref b] below meth c H locs cells slots Q (F0 m 436 ls []) := by
  obtain ⟨fr, bk, vw, tk, to, fk, fo, kp, sp, lt, ib, rw, cl, nu, tv, tm, ta, ml, tn, mf, mb, mv, kn, on, th, X, ap, le, fc, f1, f2, ha, og, oh, tx, hF, hT, hR, G⟩ := I
  have hx := C0.1
  have hb := C0.2.1
  have hown := C0.2.2.2.2.2.1
  have hts := C0.2.2.2.2.2.2.1
  have hRs : rsOk (0, lt, ib, rw, cl, nu) := ⟨by show 0 < 9; decide, hR.2⟩
  have hkp := hF.1
  have h60 := hT.2.2.1
  have htm := hT.1
  obtain ⟨p0, hp0⟩ : ∃ z : Int32, z = xs (li + 1) := ⟨_, rfl⟩
  obtain ⟨p1, hp1⟩ : ∃ z : Int32, z = xs (li + 2) := ⟨_, rfl⟩
  obtain ⟨p2, hp2⟩ : ∃ z : Int32, z = xs (li + 3) := ⟨_, rfl⟩
  refine lv_aload_n hx hb dL_law_436 rfl (lv_at hl 1 rfl) ?_
  refine lv_aload_n hx hb dL_law_437 rfl (lv_at hl 0 rfl) ?_
  refine lv_iload hx hb dL_law_438 (lv_at hl 5 rfl) ?_
  refine lv_iconst (v := 1) hx hb dL_law_440 (by decide) ?_
  refine lv_iadd hx hb dL_law_441 ?_
  refine g_topi (x' := nI (li + 1)) (nI_add li 1) ?_
  refine va_sld hx hb hXs hbl hbA G.2.2 (vp_in_nI (n := li + 1) (by omega) (by omega)) dL_law_442 ?_
  refine g_topi (x' := p0) (by rw [nI_clamp (n := li + 1) (by omega)]; exact hp0.symm) ?_
  refine lv_aload_n hx hb dL_law_443 rfl (lv_at hl 0 rfl) ?_
  refine lv_iload hx hb dL_law_444 (lv_at hl 5 rfl) ?_
  refine lv_iconst (v := 2) hx hb dL_law_446 (by decide) ?_
  refine lv_iadd hx hb dL_law_447 ?_
  refine g_topi (x' := nI (li + 2)) (nI_add li 2) ?_
  refine va_sld hx hb hXs hbl hbA G.2.2 (vp_in_nI (n := li + 2) (by omega) (by omega)) dL_law_448 ?_
  refine g_topi (x' := p1) (by rw [nI_clamp (n := li + 2) (by omega)]; exact hp1.symm) ?_
  refine lv_aload_n hx hb dL_law_449 rfl (lv_at hl 0 rfl) ?_
  refine lv_iload hx hb dL_law_450 (lv_at hl 5 rfl) ?_
  refine lv_iconst (v := 3) hx hb dL_law_452 (by decide) ?_
  refine lv_iadd hx hb dL_law_453 ?_
  refine g_topi (x' := nI (li + 3)) (nI_add li 3) ?_
  refine va_sld hx hb hXs hbl hbA G.2.2 (vp_in_nI (n := li + 3) (by omega) (by omega)) dL_law_454 ?_
  refine g_topi (x' := p2) (by rw [nI_clamp (n := li + 3) (by omega)]; exact hp2.symm) ?_
  refine lv_aload_n hx hb dL_law_455 rfl (lv_at hl 3 rfl) ?_
  refine g_callH (As := [.ref (ad 0), .int p0, .int p1, .int p2, .ref ou]) (rest := []) C0 G (c_L_wear l D cy (ad := ad) (fr := fr) (bk := bk) (vw := vw) (tk := tk) (to := to) (fk := fk) (fo := fo) (kp := kp) (sp := sp) (lt := lt) (ib := ib) (rw := rw) (cl := cl) (nu := nu) (tv := tv) (tm := tm) (ta := ta) (ml := ml) (tn := tn) (R := wM am cy th (cS mf mb mv) kp X tn ap le fc f1 f2 (biF kn on) ha ([])) (ou := ou) (od := od) (og := og) (oh := oh) (p0 := p0) (p1 := p1) (p2 := p2) hst hF.1 (fun k hk => (hF.2 k (by omega)).2.2.2)) k_L_wear ml_L_120 dL_law_456 rfl rfl hl.1 (Nat.le_of_ble_eq_true rfl) ⟨Nat.le_of_ble_eq_true rfl, Nat.le_of_ble_eq_true rfl⟩ ⟨(by show _ ≤ 601024; omega), (by show _ ≤ 7293034; omega)⟩ (fun r W2 H locs hp G => ?_)
  rcases hp with ⟨k, hk, rfl, i, hi, rfl, j, hj, rfl, hcd0, rfl, hw⟩ | ⟨rfl, hw, hx9⟩ | ⟨rfl, hw, hx9⟩
  · skip
    obtain ⟨eF, eB, eV, hv4⟩ := hF.2 k (by omega)
    have G : gW D (wC ad cy (va_up (saU fr kp) k (shF ((saU fr kp) k) (sbB ((saU vw kp) k)) (scN (vw k) i j) true)) (va_up (saU bk kp) k (shB ((saU bk kp) k) (sbB ((saU vw kp) k)) (scN (vw k) i j) true)) (saU vw kp) tk to fk fo (saK kp) sp lt ib rw cl nu tv tm ta ml tn ((ou, .inl (cy 2, 1, .inr (.inl (vp_updL og 0 (kdI ((va_up (saU fr kp) k (shF ((saU fr kp) k) (sbB ((saU vw kp) k)) (scN (vw k) i j) true)) k) ((va_up (saU bk kp) k (shB ((saU bk kp) k) (sbB ((saU vw kp) k)) (scN (vw k) i j) true)) k) (scN (vw k) i j)).toInt64)))) :: (od, .inl (cy 3, 1, .inr (.inr (.inr (.inl oh))))) :: wM am cy th (cS mf mb mv) kp X tn ap le fc f1 f2 (biF kn on) ha ([]))) A s _ _ := g_wc hw G
    refine W.eq (g2 := F0 m 459 ls [.int 0]) rfl ?_
    refine lv_istore (lv' := [(6, .int 0), (0, .ref b), (1, .ref (ad 0)), (2, .ref (am 0)), (3, .ref ou), (4, .ref od), (5, .int (nI li))]) hx hb dL_law_459 hl (by decide) rfl (fun ls hl => ?_)
    refine lv_aload_n hx hb dL_law_461 rfl (lv_at hl 3 rfl) ?_
    refine lv_aload_n hx hb dL_law_462 rfl (lv_at hl 1 rfl) ?_
    refine lv_iload hx hb dL_law_463 (lv_at hl 6 rfl) ?_
    refine lv_iconst (v := 1) hx hb dL_law_465 (by decide) ?_
    refine lv_iadd hx hb dL_law_466 ?_
    refine g_topi (x' := nI (li + 1)) (nI_add li 1) ?_
    refine va_sld hx hb hXs hbl hbA G.2.2 (vp_in_nI (n := li + 1) (by omega) (by omega)) dL_law_467 ?_
    refine g_topi (x' := nI k) (by rw [nI_clamp (n := li + 1) (by omega)]; exact hp0.symm) ?_
    refine lv_aload_n hx hb dL_law_468 rfl (lv_at hl 1 rfl) ?_
    refine lv_iload hx hb dL_law_469 (lv_at hl 6 rfl) ?_
    refine lv_iconst (v := 2) hx hb dL_law_471 (by decide) ?_
    refine lv_iadd hx hb dL_law_472 ?_
    refine g_topi (x' := nI (li + 2)) (nI_add li 2) ?_
    refine va_sld hx hb hXs hbl hbA G.2.2 (vp_in_nI (n := li + 2) (by omega) (by omega)) dL_law_473 ?_
    refine g_topi (x' := nI i) (by rw [nI_clamp (n := li + 2) (by omega)]; exact hp1.symm) ?_
    refine lv_aload_n hx hb dL_law_474 rfl (lv_at hl 1 rfl) ?_
    refine lv_iload hx hb dL_law_475 (lv_at hl 6 rfl) ?_
    refine lv_iconst (v := 3) hx hb dL_law_477 (by decide) ?_
    refine lv_iadd hx hb dL_law_478 ?_
    refine g_topi (x' := nI (li + 3)) (nI_add li 3) ?_
    refine va_sld hx hb hXs hbl hbA G.2.2 (vp_in_nI (n := li + 3) (by omega) (by omega)) dL_law_479 ?_
    refine g_topi (x' := nI j) (by rw [nI_clamp (n := li + 3) (by omega)]; exact hp2.symm) ?_
    have G : gW D (wM am cy th (cS mf mb mv) kp X tn ap le fc f1 f2 (biF kn on) ha ((ou, .inl (cy 2, 1, .inr (.inl (vp_updL og 0 (kdI ((va_up (saU fr kp) k (shF ((saU fr kp) k) (sbB ((saU vw kp) k)) (scN (vw k) i j) true)) k) ((va_up (saU bk kp) k (shB ((saU bk kp) k) (sbB ((saU vw kp) k)) (scN (vw k) i j) true)) k) (scN (vw k) i j)).toInt64)))) :: (od, .inl (cy 3, 1, .inr (.inr (.inr (.inl oh))))) :: wC ad cy (va_up (saU fr kp) k (shF ((saU fr kp) k) (sbB ((saU vw kp) k)) (scN (vw k) i j) true)) (va_up (saU bk kp) k (shB ((saU bk kp) k) (sbB ((saU vw kp) k)) (scN (vw k) i j) true)) (saU vw kp) tk to fk fo (saK kp) sp lt ib rw cl nu tv tm ta ml tn ([]))) A s _ _ := g_swCM G
    refine g_callV (As := [.int (nI k), .int (nI i), .int (nI j)]) (rest := []) (q0 := 0) C0 G (c_X5_wear_ok l D cy (am := am) (mf := mf) (mb := mb) (mv := mv) (th := th) (sv := kp) (X := X) (ln := tn) (ap := ap) (le := le) (fc := fc) (f1 := f1) (f2 := f2) (ha := ha) (R := ((ou, .inl (cy 2, 1, .inr (.inl (vp_updL og 0 (kdI ((va_up (saU fr kp) k (shF ((saU fr kp) k) (sbB ((saU vw kp) k)) (scN (vw k) i j) true)) k) ((va_up (saU bk kp) k (shB ((saU bk kp) k) (sbB ((saU vw kp) k)) (scN (vw k) i j) true)) k) (scN (vw k) i j)).toInt64)))) :: (od, .inl (cy 3, 1, .inr (.inr (.inr (.inl oh))))) :: wC ad cy (va_up (saU fr kp) k (shF ((saU fr kp) k) (sbB ((saU vw kp) k)) (scN (vw k) i j) true)) (va_up (saU bk kp) k (shB ((saU bk kp) k) (sbB ((saU vw kp) k)) (scN (vw k) i j) true)) (saU vw kp) tk to fk fo (saK kp) sp lt ib rw cl nu tv tm ta ml tn ([]))) (B := biF kn on) (k := k) (i := i) (j := j) (by omega) (by omega) (by omega) (by rw [← eV]; exact hv4) (by rw [← eF, ← eB, ← eV]; exact hcd0) hkp) k_X5_wear ml_L_122 rfl rfl dL_law_480 rfl rfl hl.1 (Nat.le_of_ble_eq_true rfl) ⟨Nat.le_of_ble_eq_true rfl, Nat.le_of_ble_eq_true rfl⟩ ⟨(by show _ ≤ 601024; omega), (by show _ ≤ 7293034; omega)⟩ (fun r W2 H locs hp G => ?_)
    obtain ⟨rfl, hw⟩ := hp
    have G := g_wc hw G
    refine W.eq (g2 := F0 m 483 ls [.int (kdI ((va_up (mSv mf kp) k (skF ((mSv mf kp) k) (scN ((mSv mv kp) k) i j) (tgN (mSv mf kp k) (mSv mb kp k) (scN (mSv mv kp k) i j) (sbB (mSv mv kp k))))) k) ((va_up (mSv mb kp) k (skB ((mSv mb kp) k) (scN ((mSv mv kp) k) i j) (tgN (mSv mf kp k) (mSv mb kp k) (scN (mSv mv kp k) i j) (sbB (mSv mv kp k))))) k) (scN ((mSv mv kp) k) i j))]) rfl ?_
    refine lv_istore (lv' := [(7, .int (kdI ((va_up (mSv mf kp) k (skF ((mSv mf kp) k) (scN ((mSv mv kp) k) i j) (tgN (mSv mf kp k) (mSv mb kp k) (scN (mSv mv kp k) i j) (sbB (mSv mv kp k))))) k) ((va_up (mSv mb kp) k (skB ((mSv mb kp) k) (scN ((mSv mv kp) k) i j) (tgN (mSv mf kp k) (mSv mb kp k) (scN (mSv mv kp k) i j) (sbB (mSv mv kp k))))) k) (scN ((mSv mv kp) k) i j))), (6, .int 0), (0, .ref b), (1, .ref (ad 0)), (2, .ref (am 0)), (3, .ref ou), (4, .ref od), (5, .int (nI li))]) hx hb dL_law_483 hl (by decide) rfl (fun ls hl => ?_)
    refine lv_aload_n hx hb dL_law_485 rfl (lv_at hl 4 rfl) ?_
    refine g_callV (As := []) (rest := []) (q0 := 0) C0 G (c_X5_thrown l D cy (am := am) (mf := va_up (mSv mf kp) k (skF ((mSv mf kp) k) (scN ((mSv mv kp) k) i j) (tgN (mSv mf kp k) (mSv mb kp k) (scN (mSv mv kp k) i j) (sbB (mSv mv kp k))))) (mb := va_up (mSv mb kp) k (skB ((mSv mb kp) k) (scN ((mSv mv kp) k) i j) (tgN (mSv mf kp k) (mSv mb kp k) (scN (mSv mv kp k) i j) (sbB (mSv mv kp k))))) (mv := mSv mv kp) (th := nI 0) (sv := saK kp) (X := X) (ln := tn) (ap := ap) (le := le) (fc := fc) (f1 := f1) (f2 := f2) (ha := ha) (R := ((ou, .inl (cy 2, 1, .inr (.inl (vp_updL og 0 (kdI ((va_up (saU fr kp) k (shF ((saU fr kp) k) (sbB ((saU vw kp) k)) (scN (vw k) i j) true)) k) ((va_up (saU bk kp) k (shB ((saU bk kp) k) (sbB ((saU vw kp) k)) (scN (vw k) i j) true)) k) (scN (vw k) i j)).toInt64)))) :: (od, .inl (cy 3, 1, .inr (.inr (.inr (.inl oh))))) :: wC ad cy (va_up (saU fr kp) k (shF ((saU fr kp) k) (sbB ((saU vw kp) k)) (scN (vw k) i j) true)) (va_up (saU bk kp) k (shB ((saU bk kp) k) (sbB ((saU vw kp) k)) (scN (vw k) i j) true)) (saU vw kp) tk to fk fo (saK kp) sp lt ib rw cl nu tv tm ta ml tn ([]))) (B := biF kn on)  ) k_X5_thrown ml_L_106 rfl rfl dL_law_486 rfl rfl hl.1 (Nat.le_of_ble_eq_true rfl) ⟨Nat.le_of_ble_eq_true rfl, Nat.le_of_ble_eq_true rfl⟩ ⟨(by show _ ≤ 601024; omega), (by show _ ≤ 7293034; omega)⟩ (fun r W2 H locs hp G => ?_)
    obtain ⟨rfl, hw⟩ := hp
    have G := g_wc hw G
    refine W.eq (g2 := F0 m 489 ls [.int (nI 0)]) rfl ?_
    refine g_topi (x' := 0) rfl ?_
    refine lv_iload hx hb dL_law_489 (lv_at hl 1 rfl) ?_
    refine lv_icmp_eq (tgt := 496) hx hb dL_law_491 (by decide) (fun c_491 => ?_) (fun c_491 => ?_)
    · skip
      refine lv_iload hx hb dL_law_496 (lv_at hl 1 rfl) ?_
      refine lv_if_ne (tgt := 513) hx hb dL_law_498 (by decide) (fun c_498 => ?_) (fun c_498 => ?_)
      · exact absurd c_498 (by decide)
      · skip
        refine lv_aload_n hx hb dL_law_501 rfl (lv_at hl 5 rfl) ?_
        refine lv_iconst (v := 0) hx hb dL_law_502 (by decide) ?_
        refine g_topi (x' := nI 0) rfl ?_
        refine g_lald (q0 := 4) (n := 1) C0 G rfl 2 rfl (vp_in_nI (n := 0) (by omega) (by decide)) dL_law_503 ?_
        refine g_topl (x' := (vp_updL og 0 (kdI ((va_up (saU fr kp) k (shF ((saU fr kp) k) (sbB ((saU vw kp) k)) (scN (vw k) i j) true)) k) ((va_up (saU bk kp) k (shB ((saU bk kp) k) (sbB ((saU vw kp) k)) (scN (vw k) i j) true)) k) (scN (vw k) i j)).toInt64) 0) (congrArg (vp_updL og 0 (kdI ((va_up (saU fr kp) k (shF ((saU fr kp) k) (sbB ((saU vw kp) k)) (scN (vw k) i j) true)) k) ((va_up (saU bk kp) k (shB ((saU bk kp) k) (sbB ((saU vw kp) k)) (scN (vw k) i j) true)) k) (scN (vw k) i j)).toInt64) (nI_clamp (n := 0) (by omega))) ?_
        refine g_topl (x' := (kdI ((va_up (saU fr kp) k (shF ((saU fr kp) k) (sbB ((saU vw kp) k)) (scN (vw k) i j) true)) k) ((va_up (saU bk kp) k (shB ((saU bk kp) k) (sbB ((saU vw kp) k)) (scN (vw k) i j) true)) k) (scN (vw k) i j)).toInt64) (if_pos rfl) ?_
        refine lv_iload hx hb dL_law_504 (lv_at hl 0 rfl) ?_
        refine lv_i2l hx hb dL_law_506 rfl ?_
        refine W.lcmp hx hb dL_law_507 ?_
        refine lv_if_eq (tgt := 513) hx hb dL_law_508 (by decide) (fun c_508 => ?_) (fun c_508 => ?_)
        · skip
          have c_508 : ((kdI ((va_up (saU fr kp) k (shF ((saU fr kp) k) (sbB ((saU vw kp) k)) (scN (vw k) i j) true)) k) ((va_up (saU bk kp) k (shB ((saU bk kp) k) (sbB ((saU vw kp) k)) (scN (vw k) i j) true)) k) (scN (vw k) i j)).toInt64) = ((kdI ((va_up (mSv mf kp) k (skF ((mSv mf kp) k) (scN ((mSv mv kp) k) i j) (tgN (mSv mf kp k) (mSv mb kp k) (scN (mSv mv kp k) i j) (sbB (mSv mv kp k))))) k) ((va_up (mSv mb kp) k (skB ((mSv mb kp) k) (scN ((mSv mv kp) k) i j) (tgN (mSv mf kp k) (mSv mb kp k) (scN (mSv mv kp k) i j) (sbB (mSv mv kp k))))) k) (scN ((mSv mv kp) k) i j)).toInt64) := lgc_eq.mp c_508
          refine lv_goto (tgt := 1897) hx hb dL_law_513 (by decide) ?_
          have G : gW D (wC ad cy (va_up (saU fr kp) k (shF ((saU fr kp) k) (sbB ((saU vw kp) k)) (scN (vw k) i j) true)) (va_up (saU bk kp) k (shB ((saU bk kp) k) (sbB ((saU vw kp) k)) (scN (vw k) i j) true)) (saU vw kp) tk to fk fo (saK kp) sp lt ib rw cl nu tv tm ta ml tn ((ou, .inl (cy 2, 1, .inr (.inl (vp_updL og 0 (kdI ((va_up (saU fr kp) k (shF ((saU fr kp) k) (sbB ((saU vw kp) k)) (scN (vw k) i j) true)) k) ((va_up (saU bk kp) k (shB ((saU bk kp) k) (sbB ((saU vw kp) k)) (scN (vw k) i j) true)) k) (scN (vw k) i j)).toInt64)))) :: (od, .inl (cy 3, 1, .inr (.inr (.inr (.inl oh))))) :: wM am cy (nI 0) (cS (va_up (mSv mf kp) k (skF ((mSv mf kp) k) (scN ((mSv mv kp) k) i j) (tgN (mSv mf kp k) (mSv mb kp k) (scN (mSv mv kp k) i j) (sbB (mSv mv kp k))))) (va_up (mSv mb kp) k (skB ((mSv mb kp) k) (scN ((mSv mv kp) k) i j) (tgN (mSv mf kp k) (mSv mb kp k) (scN (mSv mv kp k) i j) (sbB (mSv mv kp k))))) (mSv mv kp)) (saK kp) X tn ap le fc f1 f2 (biF kn on) ha ([]))) A s _ _ := g_swMC G
          refine W.widen (k := cells + 8) (n := slots + 400) (by omega) (by omega) ?_
          exact kk _ _ _ ⟨(va_up (saU fr kp) k (shF ((saU fr kp) k) (sbB ((saU vw kp) k)) (scN (vw k) i j) true)), (va_up (saU bk kp) k (shB ((saU bk kp) k) (sbB ((saU vw kp) k)) (scN (vw k) i j) true)), (saU vw kp), tk, to, fk, fo, (saK kp), sp, lt, ib, rw, cl, nu, tv, tm, ta, ml, tn, (va_up (mSv mf kp) k (skF ((mSv mf kp) k) (scN ((mSv mv kp) k) i j) (tgN (mSv mf kp k) (mSv mb kp k) (scN (mSv mv kp k) i j) (sbB (mSv mv kp k))))), (va_up (mSv mb kp) k (skB ((mSv mb kp) k) (scN ((mSv mv kp) k) i j) (tgN (mSv mf kp k) (mSv mb kp k) (scN (mSv mv kp k) i j) (sbB (mSv mv kp k))))), (mSv mv kp), kn, on, (nI 0), X, ap, le, fc, f1, f2, ha, (vp_updL og 0 (kdI ((va_up (saU fr kp) k (shF ((saU fr kp) k) (sbB ((saU vw kp) k)) (scN (vw k) i j) true)) k) ((va_up (saU bk kp) k (shB ((saU bk kp) k) (sbB ((saU vw kp) k)) (scN (vw k) i j) true)) k) (scN (vw k) i j)).toInt64), oh, tx, (by simp only [mSv_sa, saU_lo hk, ← eF, ← eB, ← eV, (sk_sh (f := fr k) (b := bk k) (k := scN (vw k) i j) (bk := sbB (vw k)) (ho := true) (scN_lt hi hj) hcd0).1, (sk_sh (f := fr k) (b := bk k) (k := scN (vw k) i j) (bk := sbB (vw k)) (ho := true) (scN_lt hi hj) hcd0).2]; exact lwF_b (lwF_f (lwF_sa hF))), hT, hR, G⟩ (lv_sub hl [2, 3, 4, 5, 6, 7] rfl)
        · skip
          have c_508 : ¬ ((kdI ((va_up (saU fr kp) k (shF ((saU fr kp) k) (sbB ((saU vw kp) k)) (scN (vw k) i j) true)) k) ((va_up (saU bk kp) k (shB ((saU bk kp) k) (sbB ((saU vw kp) k)) (scN (vw k) i j) true)) k) (scN (vw k) i j)).toInt64) = ((kdI ((va_up (mSv mf kp) k (skF ((mSv mf kp) k) (scN ((mSv mv kp) k) i j) (tgN (mSv mf kp k) (mSv mb kp k) (scN (mSv mv kp k) i j) (sbB (mSv mv kp k))))) k) ((va_up (mSv mb kp) k (skB ((mSv mb kp) k) (scN ((mSv mv kp) k) i j) (tgN (mSv mf kp k) (mSv mb kp k) (scN (mSv mv kp k) i j) (sbB (mSv mv kp k))))) k) (scN ((mSv mv kp) k) i j)).toInt64) := fun h => c_508 (lgc_eq.mpr h)
          exact absurd (by simp only [mSv_sa, saU_lo hk, ← eF, ← eB, ← eV, va_up_e]; rw [(sk_sh (f := fr k) (b := bk k) (k := scN (vw k) i j) (bk := sbB (vw k)) (ho := true) (scN_lt hi hj) hcd0).1, (sk_sh (f := fr k) (b := bk k) (k := scN (vw k) i j) (bk := sbB (vw k)) (ho := true) (scN_lt hi hj) hcd0).2]) c_508
    · exact absurd c_491 (by decide)
  · skip
    have G : gW D (wC ad cy fr bk vw tk to fk fo kp sp lt ib rw cl nu tv tm ta ml tn ((ou, .inl (cy 2, 1, .inr (.inl og))) :: (od, .inl (cy 3, 1, .inr (.inr (.inr (.inl oh))))) :: wM am cy th (cS mf mb mv) kp X tn ap le fc f1 f2 (biF kn on) ha ([]))) A s _ _ := g_wc hw G
    refine W.eq (g2 := F0 m 459 ls [.int 1]) rfl ?_
    refine lv_istore (lv' := [(6, .int 1), (0, .ref b), (1, .ref (ad 0)), (2, .ref (am 0)), (3, .ref ou), (4, .ref od), (5, .int (nI li))]) hx hb dL_law_459 hl (by decide) rfl (fun ls hl => ?_)
    refine lv_aload_n hx hb dL_law_461 rfl (lv_at hl 3 rfl) ?_
    refine lv_aload_n hx hb dL_law_462 rfl (lv_at hl 1 rfl) ?_
    refine lv_iload hx hb dL_law_463 (lv_at hl 6 rfl) ?_
    refine lv_iconst (v := 1) hx hb dL_law_465 (by decide) ?_
    refine lv_iadd hx hb dL_law_466 ?_
    refine g_topi (x' := nI (li + 1)) (nI_add li 1) ?_
    refine va_sld hx hb hXs hbl hbA G.2.2 (vp_in_nI (n := li + 1) (by omega) (by omega)) dL_law_467 ?_
    refine g_topi (x' := p0) (by rw [nI_clamp (n := li + 1) (by omega)]; exact hp0.symm) ?_
    refine lv_aload_n hx hb dL_law_468 rfl (lv_at hl 1 rfl) ?_
    refine lv_iload hx hb dL_law_469 (lv_at hl 6 rfl) ?_
    refine lv_iconst (v := 2) hx hb dL_law_471 (by decide) ?_
    refine lv_iadd hx hb dL_law_472 ?_
    refine g_topi (x' := nI (li + 2)) (nI_add li 2) ?_
    refine va_sld hx hb hXs hbl hbA G.2.2 (vp_in_nI (n := li + 2) (by omega) (by omega)) dL_law_473 ?_
    refine g_topi (x' := p1) (by rw [nI_clamp (n := li + 2) (by omega)]; exact hp1.symm) ?_
    refine lv_aload_n hx hb dL_law_474 rfl (lv_at hl 1 rfl) ?_
    refine lv_iload hx hb dL_law_475 (lv_at hl 6 rfl) ?_
    refine lv_iconst (v := 3) hx hb dL_law_477 (by decide) ?_
    refine lv_iadd hx hb dL_law_478 ?_
    refine g_topi (x' := nI (li + 3)) (nI_add li 3) ?_
    refine va_sld hx hb hXs hbl hbA G.2.2 (vp_in_nI (n := li + 3) (by omega) (by omega)) dL_law_479 ?_
    refine g_topi (x' := p2) (by rw [nI_clamp (n := li + 3) (by omega)]; exact hp2.symm) ?_
    have G : gW D (wM am cy th (cS mf mb mv) kp X tn ap le fc f1 f2 (biF kn on) ha ((ou, .inl (cy 2, 1, .inr (.inl og))) :: (od, .inl (cy 3, 1, .inr (.inr (.inr (.inl oh))))) :: wC ad cy fr bk vw tk to fk fo kp sp lt ib rw cl nu tv tm ta ml tn ([]))) A s _ _ := g_swCM G
    refine g_callV (As := [.int p0, .int p1, .int p2]) (rest := []) (q0 := 0) C0 G (c_X5_wear_e1 l D cy (am := am) (mf := mf) (mb := mb) (mv := mv) (th := th) (sv := kp) (X := X) (ln := tn) (ap := ap) (le := le) (fc := fc) (f1 := f1) (f2 := f2) (ha := ha) (R := ((ou, .inl (cy 2, 1, .inr (.inl og))) :: (od, .inl (cy 3, 1, .inr (.inr (.inr (.inl oh))))) :: wC ad cy fr bk vw tk to fk fo kp sp lt ib rw cl nu tv tm ta ml tn ([]))) (B := biF kn on) (p0 := p0) (p1 := p1) (p2 := p2) (by rw [inB_ir (x := p0) (n := 2) (hi := 2) rfl (by decide), inB_ir (x := p1) (n := 7) (hi := 7) rfl (by decide), inB_ir (x := p2) (n := 7) (hi := 7) rfl (by decide), ← Bool.and_assoc]; exact hx9)) k_X5_wear ml_L_122 rfl rfl dL_law_480 rfl rfl hl.1 (Nat.le_of_ble_eq_true rfl) ⟨Nat.le_of_ble_eq_true rfl, Nat.le_of_ble_eq_true rfl⟩ ⟨(by show _ ≤ 601024; omega), (by show _ ≤ 7293034; omega)⟩ (fun r W2 H locs hp G => ?_)
    obtain ⟨rfl, hw⟩ := hp
    have G := g_wc hw G
    refine W.eq (g2 := F0 m 483 ls [.int 0]) rfl ?_
    refine lv_istore (lv' := [(7, .int 0), (6, .int 1), (0, .ref b), (1, .ref (ad 0)), (2, .ref (am 0)), (3, .ref ou), (4, .ref od), (5, .int (nI li))]) hx hb dL_law_483 hl (by decide) rfl (fun ls hl => ?_)
    refine lv_aload_n hx hb dL_law_485 rfl (lv_at hl 4 rfl) ?_
    refine g_callV (As := []) (rest := []) (q0 := 0) C0 G (c_X5_thrown l D cy (am := am) (mf := mf) (mb := mb) (mv := mv) (th := nI 1) (sv := kp) (X := X) (ln := tn) (ap := ap) (le := le) (fc := fc) (f1 := f1) (f2 := f2) (ha := ha) (R := ((ou, .inl (cy 2, 1, .inr (.inl og))) :: (od, .inl (cy 3, 1, .inr (.inr (.inr (.inl oh))))) :: wC ad cy fr bk vw tk to fk fo kp sp lt ib rw cl nu tv tm ta ml tn ([]))) (B := biF kn on)  ) k_X5_thrown ml_L_106 rfl rfl dL_law_486 rfl rfl hl.1 (Nat.le_of_ble_eq_true rfl) ⟨Nat.le_of_ble_eq_true rfl, Nat.le_of_ble_eq_true rfl⟩ ⟨(by show _ ≤ 601024; omega), (by show _ ≤ 7293034; omega)⟩ (fun r W2 H locs hp G => ?_)
    obtain ⟨rfl, hw⟩ := hp
    have G := g_wc hw G
    refine W.eq (g2 := F0 m 489 ls [.int (nI 1)]) rfl ?_
    refine g_topi (x' := 1) rfl ?_
    refine lv_iload hx hb dL_law_489 (lv_at hl 1 rfl) ?_
    refine lv_icmp_eq (tgt := 496) hx hb dL_law_491 (by decide) (fun c_491 => ?_) (fun c_491 => ?_)
    · skip
      refine lv_iload hx hb dL_law_496 (lv_at hl 1 rfl) ?_
      refine lv_if_ne (tgt := 513) hx hb dL_law_498 (by decide) (fun c_498 => ?_) (fun c_498 => ?_)
      · skip
        refine lv_goto (tgt := 1897) hx hb dL_law_513 (by decide) ?_
        have G : gW D (wC ad cy fr bk vw tk to fk fo kp sp lt ib rw cl nu tv tm ta ml tn ((ou, .inl (cy 2, 1, .inr (.inl og))) :: (od, .inl (cy 3, 1, .inr (.inr (.inr (.inl oh))))) :: wM am cy (nI 1) (cS mf mb mv) kp X tn ap le fc f1 f2 (biF kn on) ha ([]))) A s _ _ := g_swMC G
        refine W.widen (k := cells + 8) (n := slots + 400) (by omega) (by omega) ?_
        exact kk _ _ _ ⟨fr, bk, vw, tk, to, fk, fo, kp, sp, lt, ib, rw, cl, nu, tv, tm, ta, ml, tn, mf, mb, mv, kn, on, (nI 1), X, ap, le, fc, f1, f2, ha, og, oh, tx, hF, hT, hR, G⟩ (lv_sub hl [2, 3, 4, 5, 6, 7] rfl)
      · exact absurd c_498 (by decide)
    · exact absurd c_491 (by decide)
  · skip
    obtain ⟨k, hk, rfl, i, hi, rfl, j, hj, rfl, hcf⟩ := hx9
    obtain ⟨eF, eB, eV, hv4⟩ := hF.2 k (by omega)
    have G : gW D (wC ad cy fr bk vw tk to fk fo kp sp lt ib rw cl nu tv tm ta ml tn ((ou, .inl (cy 2, 1, .inr (.inl og))) :: (od, .inl (cy 3, 1, .inr (.inr (.inr (.inl oh))))) :: wM am cy th (cS mf mb mv) kp X tn ap le fc f1 f2 (biF kn on) ha ([]))) A s _ _ := g_wc hw G
    refine W.eq (g2 := F0 m 459 ls [.int 2]) rfl ?_
    refine lv_istore (lv' := [(6, .int 2), (0, .ref b), (1, .ref (ad 0)), (2, .ref (am 0)), (3, .ref ou), (4, .ref od), (5, .int (nI li))]) hx hb dL_law_459 hl (by decide) rfl (fun ls hl => ?_)
    refine lv_aload_n hx hb dL_law_461 rfl (lv_at hl 3 rfl) ?_
    refine lv_aload_n hx hb dL_law_462 rfl (lv_at hl 1 rfl) ?_
    refine lv_iload hx hb dL_law_463 (lv_at hl 6 rfl) ?_
    refine lv_iconst (v := 1) hx hb dL_law_465 (by decide) ?_
    refine lv_iadd hx hb dL_law_466 ?_
    refine g_topi (x' := nI (li + 1)) (nI_add li 1) ?_
    refine va_sld hx hb hXs hbl hbA G.2.2 (vp_in_nI (n := li + 1) (by omega) (by omega)) dL_law_467 ?_
    refine g_topi (x' := nI k) (by rw [nI_clamp (n := li + 1) (by omega)]; exact hp0.symm) ?_
    refine lv_aload_n hx hb dL_law_468 rfl (lv_at hl 1 rfl) ?_
    refine lv_iload hx hb dL_law_469 (lv_at hl 6 rfl) ?_
    refine lv_iconst (v := 2) hx hb dL_law_471 (by decide) ?_
    refine lv_iadd hx hb dL_law_472 ?_
    refine g_topi (x' := nI (li + 2)) (nI_add li 2) ?_
    refine va_sld hx hb hXs hbl hbA G.2.2 (vp_in_nI (n := li + 2) (by omega) (by omega)) dL_law_473 ?_
    refine g_topi (x' := nI i) (by rw [nI_clamp (n := li + 2) (by omega)]; exact hp1.symm) ?_
    refine lv_aload_n hx hb dL_law_474 rfl (lv_at hl 1 rfl) ?_
    refine lv_iload hx hb dL_law_475 (lv_at hl 6 rfl) ?_
    refine lv_iconst (v := 3) hx hb dL_law_477 (by decide) ?_
    refine lv_iadd hx hb dL_law_478 ?_
    refine g_topi (x' := nI (li + 3)) (nI_add li 3) ?_
    refine va_sld hx hb hXs hbl hbA G.2.2 (vp_in_nI (n := li + 3) (by omega) (by omega)) dL_law_479 ?_
    refine g_topi (x' := nI j) (by rw [nI_clamp (n := li + 3) (by omega)]; exact hp2.symm) ?_
    have G : gW D (wM am cy th (cS mf mb mv) kp X tn ap le fc f1 f2 (biF kn on) ha ((ou, .inl (cy 2, 1, .inr (.inl og))) :: (od, .inl (cy 3, 1, .inr (.inr (.inr (.inl oh))))) :: wC ad cy fr bk vw tk to fk fo kp sp lt ib rw cl nu tv tm ta ml tn ([]))) A s _ _ := g_swCM G
    refine g_callV (As := [.int (nI k), .int (nI i), .int (nI j)]) (rest := []) (q0 := 0) C0 G (c_X5_wear_e2 l D cy (am := am) (mf := mf) (mb := mb) (mv := mv) (th := th) (sv := kp) (X := X) (ln := tn) (ap := ap) (le := le) (fc := fc) (f1 := f1) (f2 := f2) (ha := ha) (R := ((ou, .inl (cy 2, 1, .inr (.inl og))) :: (od, .inl (cy 3, 1, .inr (.inr (.inr (.inl oh))))) :: wC ad cy fr bk vw tk to fk fo kp sp lt ib rw cl nu tv tm ta ml tn ([]))) (B := biF kn on) (k := k) (i := i) (j := j) (by omega) (by omega) (by omega) (by rw [← eV]; exact hv4) (by rw [← eF, ← eB, ← eV]; show ¬ hoB (fr k) (bk k) (sbB (vw k)) (scN (vw k) i j) = false; rw [hcf]; decide)) k_X5_wear ml_L_122 rfl rfl dL_law_480 rfl rfl hl.1 (Nat.le_of_ble_eq_true rfl) ⟨Nat.le_of_ble_eq_true rfl, Nat.le_of_ble_eq_true rfl⟩ ⟨(by show _ ≤ 601024; omega), (by show _ ≤ 7293034; omega)⟩ (fun r W2 H locs hp G => ?_)
    obtain ⟨rfl, hw⟩ := hp
    have G := g_wc hw G
    refine W.eq (g2 := F0 m 483 ls [.int 0]) rfl ?_
    refine lv_istore (lv' := [(7, .int 0), (6, .int 2), (0, .ref b), (1, .ref (ad 0)), (2, .ref (am 0)), (3, .ref ou), (4, .ref od), (5, .int (nI li))]) hx hb dL_law_483 hl (by decide) rfl (fun ls hl => ?_)
    refine lv_aload_n hx hb dL_law_485 rfl (lv_at hl 4 rfl) ?_
    refine g_callV (As := []) (rest := []) (q0 := 0) C0 G (c_X5_thrown l D cy (am := am) (mf := mf) (mb := mb) (mv := mv) (th := nI 2) (sv := kp) (X := X) (ln := tn) (ap := ap) (le := le) (fc := fc) (f1 := f1) (f2 := f2) (ha := ha) (R := ((ou, .inl (cy 2, 1, .inr (.inl og))) :: (od, .inl (cy 3, 1, .inr (.inr (.inr (.inl oh))))) :: wC ad cy fr bk vw tk to fk fo kp sp lt ib rw cl nu tv tm ta ml tn ([]))) (B := biF kn on)  ) k_X5_thrown ml_L_106 rfl rfl dL_law_486 rfl rfl hl.1 (Nat.le_of_ble_eq_true rfl) ⟨Nat.le_of_ble_eq_true rfl, Nat.le_of_ble_eq_true rfl⟩ ⟨(by show _ ≤ 601024; omega), (by show _ ≤ 7293034; omega)⟩ (fun r W2 H locs hp G => ?_)
    obtain ⟨rfl, hw⟩ := hp
    have G := g_wc hw G
    refine W.eq (g2 := F0 m 489 ls [.int (nI 2)]) rfl ?_
    refine g_topi (x' := 2) rfl ?_
    refine lv_iload hx hb dL_law_489 (lv_at hl 1 rfl) ?_
    refine lv_icmp_eq (tgt := 496) hx hb dL_law_491 (by decide) (fun c_491 => ?_) (fun c_491 => ?_)
    · skip
      refine lv_iload hx hb dL_law_496 (lv_at hl 1 rfl) ?_
      refine lv_if_ne (tgt := 513) hx hb dL_law_498 (by decide) (fun c_498 => ?_) (fun c_498 => ?_)
      · skip
        refine lv_goto (tgt := 1897) hx hb dL_law_513 (by decide) ?_
        have G : gW D (wC ad cy fr bk vw tk to fk fo kp sp lt ib rw cl nu tv tm ta ml tn ((ou, .inl (cy 2, 1, .inr (.inl og))) :: (od, .inl (cy 3, 1, .inr (.inr (.inr (.inl oh))))) :: wM am cy (nI 2) (cS mf mb mv) kp X tn ap le fc f1 f2 (biF kn on) ha ([]))) A s _ _ := g_swMC G
        refine W.widen (k := cells + 8) (n := slots + 400) (by omega) (by omega) ?_
        exact kk _ _ _ ⟨fr, bk, vw, tk, to, fk, fo, kp, sp, lt, ib, rw, cl, nu, tv, tm, ta, ml, tn, mf, mb, mv, kn, on, (nI 2), X, ap, le, fc, f1, f2, ha, og, oh, tx, hF, hT, hR, G⟩ (lv_sub hl [2, 3, 4, 5, 6, 7] rfl)
      · exact absurd c_498 (by decide)
    · exact absurd c_491 (by decide)

set_option maxHeartbeats 4000000 in
set_option maxRecDepth 100000 in
theorem lw_c5 {p : Program} {l : Launch} {e : Env} {s : State} {m : MethodId} {below : List Frame} {meth : Method} {c : Code} {H : Heap} {locs : List Loc} {cells slots : Nat} {Q : State → Prop} {D : va_G} {cy : Nat → ClassId} {A : Nat → Prop} {ad am : Nat → Nat} {ou od b L li : Nat} {xs : Nat → Int32} {ls : Array Slot} (C0 : gC p s m #[.ref b] meth c code 9 (some .boolean) RL D (gts cy) A) (hst : l.stackTraces = false) (hXs : va_X b L xs s s.heap) (hbl : b < s.heap.size) (hbA : ¬ A b) (hli : li + 3 < L) (hL : L ≤ 2048) (hce : cells + 8 ≤ 601024) (hsl : slots + 400 ≤ 7293034) (I : lwI D A s cy ad am ou od H locs) (hl : lv_has ls 9 [(0, .ref b), (1, .ref (ad 0)), (2, .ref (am 0)), (3, .ref ou), (4, .ref od), (5, .int (nI li))])
    (kk : ∀ (H : Heap) (locs : List Loc) (ls : Array Slot), lwI D A s cy ad am ou od H locs → lv_has ls 9 [(0, .ref b), (1, .ref (ad 0)), (2, .ref (am 0)), (3, .ref ou), (4, .ref od), (5, .int (nI li))] → W p l e room_1 s m #[.ref b] below meth c H locs (cells + 8) (slots + 400) Q (F0 m 1897 ls [])) : W p l e room_1 s m #[.ref b] below meth c H locs cells slots Q (F0 m 516 ls []) := by
  obtain ⟨fr, bk, vw, tk, to, fk, fo, kp, sp, lt, ib, rw, cl, nu, tv, tm, ta, ml, tn, mf, mb, mv, kn, on, th, X, ap, le, fc, f1, f2, ha, og, oh, tx, hF, hT, hR, G⟩ := I
  have hx := C0.1
  have hb := C0.2.1
  have hown := C0.2.2.2.2.2.1
  have hts := C0.2.2.2.2.2.2.1
  have hRs : rsOk (0, lt, ib, rw, cl, nu) := ⟨by show 0 < 9; decide, hR.2⟩
  have hkp := hF.1
  have h60 := hT.2.2.1
  have htm := hT.1
  obtain ⟨p0, hp0⟩ : ∃ z : Int32, z = xs (li + 1) := ⟨_, rfl⟩
  obtain ⟨p1, hp1⟩ : ∃ z : Int32, z = xs (li + 2) := ⟨_, rfl⟩
  obtain ⟨p2, hp2⟩ : ∃ z : Int32, z = xs (li + 3) := ⟨_, rfl⟩
  refine lv_aload_n hx hb dL_law_516 rfl (lv_at hl 1 rfl) ?_
  refine lv_aload_n hx hb dL_law_517 rfl (lv_at hl 0 rfl) ?_
  refine lv_iload hx hb dL_law_518 (lv_at hl 5 rfl) ?_
  refine lv_iconst (v := 1) hx hb dL_law_520 (by decide) ?_
  refine lv_iadd hx hb dL_law_521 ?_
  refine g_topi (x' := nI (li + 1)) (nI_add li 1) ?_
  refine va_sld hx hb hXs hbl hbA G.2.2 (vp_in_nI (n := li + 1) (by omega) (by omega)) dL_law_522 ?_
  refine g_topi (x' := p0) (by rw [nI_clamp (n := li + 1) (by omega)]; exact hp0.symm) ?_
  refine lv_aload_n hx hb dL_law_523 rfl (lv_at hl 0 rfl) ?_
  refine lv_iload hx hb dL_law_524 (lv_at hl 5 rfl) ?_
  refine lv_iconst (v := 2) hx hb dL_law_526 (by decide) ?_
  refine lv_iadd hx hb dL_law_527 ?_
  refine g_topi (x' := nI (li + 2)) (nI_add li 2) ?_
  refine va_sld hx hb hXs hbl hbA G.2.2 (vp_in_nI (n := li + 2) (by omega) (by omega)) dL_law_528 ?_
  refine g_topi (x' := p1) (by rw [nI_clamp (n := li + 2) (by omega)]; exact hp1.symm) ?_
  refine lv_aload_n hx hb dL_law_529 rfl (lv_at hl 0 rfl) ?_
  refine lv_iload hx hb dL_law_530 (lv_at hl 5 rfl) ?_
  refine lv_iconst (v := 3) hx hb dL_law_532 (by decide) ?_
  refine lv_iadd hx hb dL_law_533 ?_
  refine g_topi (x' := nI (li + 3)) (nI_add li 3) ?_
  refine va_sld hx hb hXs hbl hbA G.2.2 (vp_in_nI (n := li + 3) (by omega) (by omega)) dL_law_534 ?_
  refine g_topi (x' := p2) (by rw [nI_clamp (n := li + 3) (by omega)]; exact hp2.symm) ?_
  refine lv_aload_n hx hb dL_law_535 rfl (lv_at hl 3 rfl) ?_
  refine g_callH (As := [.ref (ad 0), .int p0, .int p1, .int p2, .ref ou]) (rest := []) C0 G (c_L_lose l D cy (ad := ad) (fr := fr) (bk := bk) (vw := vw) (tk := tk) (to := to) (fk := fk) (fo := fo) (kp := kp) (sp := sp) (lt := lt) (ib := ib) (rw := rw) (cl := cl) (nu := nu) (tv := tv) (tm := tm) (ta := ta) (ml := ml) (tn := tn) (R := wM am cy th (cS mf mb mv) kp X tn ap le fc f1 f2 (biF kn on) ha ([])) (ou := ou) (od := od) (og := og) (oh := oh) (p0 := p0) (p1 := p1) (p2 := p2) hst hF.1 (fun k hk => (hF.2 k (by omega)).2.2.2)) k_L_lose ml_L_123 dL_law_536 rfl rfl hl.1 (Nat.le_of_ble_eq_true rfl) ⟨Nat.le_of_ble_eq_true rfl, Nat.le_of_ble_eq_true rfl⟩ ⟨(by show _ ≤ 601024; omega), (by show _ ≤ 7293034; omega)⟩ (fun r W2 H locs hp G => ?_)
  rcases hp with ⟨k, hk, rfl, i, hi, rfl, j, hj, rfl, hcd0, rfl, hw⟩ | ⟨rfl, hw, hx9⟩ | ⟨rfl, hw, hx9⟩
  · skip
    obtain ⟨eF, eB, eV, hv4⟩ := hF.2 k (by omega)
    have G : gW D (wC ad cy (va_up (saU fr kp) k (shF ((saU fr kp) k) (sbB ((saU vw kp) k)) (scN (vw k) i j) false)) (va_up (saU bk kp) k (shB ((saU bk kp) k) (sbB ((saU vw kp) k)) (scN (vw k) i j) false)) (saU vw kp) tk to fk fo (saK kp) sp lt ib rw cl nu tv tm ta ml tn ((ou, .inl (cy 2, 1, .inr (.inl (vp_updL og 0 (kdI ((va_up (saU fr kp) k (shF ((saU fr kp) k) (sbB ((saU vw kp) k)) (scN (vw k) i j) false)) k) ((va_up (saU bk kp) k (shB ((saU bk kp) k) (sbB ((saU vw kp) k)) (scN (vw k) i j) false)) k) (scN (vw k) i j)).toInt64)))) :: (od, .inl (cy 3, 1, .inr (.inr (.inr (.inl oh))))) :: wM am cy th (cS mf mb mv) kp X tn ap le fc f1 f2 (biF kn on) ha ([]))) A s _ _ := g_wc hw G
    refine W.eq (g2 := F0 m 539 ls [.int 0]) rfl ?_
    refine lv_istore (lv' := [(6, .int 0), (0, .ref b), (1, .ref (ad 0)), (2, .ref (am 0)), (3, .ref ou), (4, .ref od), (5, .int (nI li))]) hx hb dL_law_539 hl (by decide) rfl (fun ls hl => ?_)
    refine lv_aload_n hx hb dL_law_541 rfl (lv_at hl 3 rfl) ?_
    refine lv_aload_n hx hb dL_law_542 rfl (lv_at hl 1 rfl) ?_
    refine lv_iload hx hb dL_law_543 (lv_at hl 6 rfl) ?_
    refine lv_iconst (v := 1) hx hb dL_law_545 (by decide) ?_
    refine lv_iadd hx hb dL_law_546 ?_
    refine g_topi (x' := nI (li + 1)) (nI_add li 1) ?_
    refine va_sld hx hb hXs hbl hbA G.2.2 (vp_in_nI (n := li + 1) (by omega) (by omega)) dL_law_547 ?_
    refine g_topi (x' := nI k) (by rw [nI_clamp (n := li + 1) (by omega)]; exact hp0.symm) ?_
    refine lv_aload_n hx hb dL_law_548 rfl (lv_at hl 1 rfl) ?_
    refine lv_iload hx hb dL_law_549 (lv_at hl 6 rfl) ?_
    refine lv_iconst (v := 2) hx hb dL_law_551 (by decide) ?_
    refine lv_iadd hx hb dL_law_552 ?_
    refine g_topi (x' := nI (li + 2)) (nI_add li 2) ?_
    refine va_sld hx hb hXs hbl hbA G.2.2 (vp_in_nI (n := li + 2) (by omega) (by omega)) dL_law_553 ?_
    refine g_topi (x' := nI i) (by rw [nI_clamp (n := li + 2) (by omega)]; exact hp1.symm) ?_
    refine lv_aload_n hx hb dL_law_554 rfl (lv_at hl 1 rfl) ?_
    refine lv_iload hx hb dL_law_555 (lv_at hl 6 rfl) ?_
    refine lv_iconst (v := 3) hx hb dL_law_557 (by decide) ?_
    refine lv_iadd hx hb dL_law_558 ?_
    refine g_topi (x' := nI (li + 3)) (nI_add li 3) ?_
    refine va_sld hx hb hXs hbl hbA G.2.2 (vp_in_nI (n := li + 3) (by omega) (by omega)) dL_law_559 ?_
    refine g_topi (x' := nI j) (by rw [nI_clamp (n := li + 3) (by omega)]; exact hp2.symm) ?_
    have G : gW D (wM am cy th (cS mf mb mv) kp X tn ap le fc f1 f2 (biF kn on) ha ((ou, .inl (cy 2, 1, .inr (.inl (vp_updL og 0 (kdI ((va_up (saU fr kp) k (shF ((saU fr kp) k) (sbB ((saU vw kp) k)) (scN (vw k) i j) false)) k) ((va_up (saU bk kp) k (shB ((saU bk kp) k) (sbB ((saU vw kp) k)) (scN (vw k) i j) false)) k) (scN (vw k) i j)).toInt64)))) :: (od, .inl (cy 3, 1, .inr (.inr (.inr (.inl oh))))) :: wC ad cy (va_up (saU fr kp) k (shF ((saU fr kp) k) (sbB ((saU vw kp) k)) (scN (vw k) i j) false)) (va_up (saU bk kp) k (shB ((saU bk kp) k) (sbB ((saU vw kp) k)) (scN (vw k) i j) false)) (saU vw kp) tk to fk fo (saK kp) sp lt ib rw cl nu tv tm ta ml tn ([]))) A s _ _ := g_swCM G
    refine g_callV (As := [.int (nI k), .int (nI i), .int (nI j)]) (rest := []) (q0 := 0) C0 G (c_X5_lose_ok l D cy (am := am) (mf := mf) (mb := mb) (mv := mv) (th := th) (sv := kp) (X := X) (ln := tn) (ap := ap) (le := le) (fc := fc) (f1 := f1) (f2 := f2) (ha := ha) (R := ((ou, .inl (cy 2, 1, .inr (.inl (vp_updL og 0 (kdI ((va_up (saU fr kp) k (shF ((saU fr kp) k) (sbB ((saU vw kp) k)) (scN (vw k) i j) false)) k) ((va_up (saU bk kp) k (shB ((saU bk kp) k) (sbB ((saU vw kp) k)) (scN (vw k) i j) false)) k) (scN (vw k) i j)).toInt64)))) :: (od, .inl (cy 3, 1, .inr (.inr (.inr (.inl oh))))) :: wC ad cy (va_up (saU fr kp) k (shF ((saU fr kp) k) (sbB ((saU vw kp) k)) (scN (vw k) i j) false)) (va_up (saU bk kp) k (shB ((saU bk kp) k) (sbB ((saU vw kp) k)) (scN (vw k) i j) false)) (saU vw kp) tk to fk fo (saK kp) sp lt ib rw cl nu tv tm ta ml tn ([]))) (B := biF kn on) (k := k) (i := i) (j := j) (by omega) (by omega) (by omega) (by rw [← eV]; exact hv4) (by rw [← eF, ← eB, ← eV]; exact hcd0) hkp) k_X5_lose ml_L_125 rfl rfl dL_law_560 rfl rfl hl.1 (Nat.le_of_ble_eq_true rfl) ⟨Nat.le_of_ble_eq_true rfl, Nat.le_of_ble_eq_true rfl⟩ ⟨(by show _ ≤ 601024; omega), (by show _ ≤ 7293034; omega)⟩ (fun r W2 H locs hp G => ?_)
    obtain ⟨rfl, hw⟩ := hp
    have G := g_wc hw G
    refine W.eq (g2 := F0 m 563 ls [.int (kdI ((va_up (mSv mf kp) k (skF ((mSv mf kp) k) (scN ((mSv mv kp) k) i j) (tgN (mSv mf kp k) (mSv mb kp k) (scN (mSv mv kp k) i j) (sbB (mSv mv kp k))))) k) ((va_up (mSv mb kp) k (skB ((mSv mb kp) k) (scN ((mSv mv kp) k) i j) (tgN (mSv mf kp k) (mSv mb kp k) (scN (mSv mv kp k) i j) (sbB (mSv mv kp k))))) k) (scN ((mSv mv kp) k) i j))]) rfl ?_
    refine lv_istore (lv' := [(7, .int (kdI ((va_up (mSv mf kp) k (skF ((mSv mf kp) k) (scN ((mSv mv kp) k) i j) (tgN (mSv mf kp k) (mSv mb kp k) (scN (mSv mv kp k) i j) (sbB (mSv mv kp k))))) k) ((va_up (mSv mb kp) k (skB ((mSv mb kp) k) (scN ((mSv mv kp) k) i j) (tgN (mSv mf kp k) (mSv mb kp k) (scN (mSv mv kp k) i j) (sbB (mSv mv kp k))))) k) (scN ((mSv mv kp) k) i j))), (6, .int 0), (0, .ref b), (1, .ref (ad 0)), (2, .ref (am 0)), (3, .ref ou), (4, .ref od), (5, .int (nI li))]) hx hb dL_law_563 hl (by decide) rfl (fun ls hl => ?_)
    refine lv_aload_n hx hb dL_law_565 rfl (lv_at hl 4 rfl) ?_
    refine g_callV (As := []) (rest := []) (q0 := 0) C0 G (c_X5_thrown l D cy (am := am) (mf := va_up (mSv mf kp) k (skF ((mSv mf kp) k) (scN ((mSv mv kp) k) i j) (tgN (mSv mf kp k) (mSv mb kp k) (scN (mSv mv kp k) i j) (sbB (mSv mv kp k))))) (mb := va_up (mSv mb kp) k (skB ((mSv mb kp) k) (scN ((mSv mv kp) k) i j) (tgN (mSv mf kp k) (mSv mb kp k) (scN (mSv mv kp k) i j) (sbB (mSv mv kp k))))) (mv := mSv mv kp) (th := nI 0) (sv := saK kp) (X := X) (ln := tn) (ap := ap) (le := le) (fc := fc) (f1 := f1) (f2 := f2) (ha := ha) (R := ((ou, .inl (cy 2, 1, .inr (.inl (vp_updL og 0 (kdI ((va_up (saU fr kp) k (shF ((saU fr kp) k) (sbB ((saU vw kp) k)) (scN (vw k) i j) false)) k) ((va_up (saU bk kp) k (shB ((saU bk kp) k) (sbB ((saU vw kp) k)) (scN (vw k) i j) false)) k) (scN (vw k) i j)).toInt64)))) :: (od, .inl (cy 3, 1, .inr (.inr (.inr (.inl oh))))) :: wC ad cy (va_up (saU fr kp) k (shF ((saU fr kp) k) (sbB ((saU vw kp) k)) (scN (vw k) i j) false)) (va_up (saU bk kp) k (shB ((saU bk kp) k) (sbB ((saU vw kp) k)) (scN (vw k) i j) false)) (saU vw kp) tk to fk fo (saK kp) sp lt ib rw cl nu tv tm ta ml tn ([]))) (B := biF kn on)  ) k_X5_thrown ml_L_106 rfl rfl dL_law_566 rfl rfl hl.1 (Nat.le_of_ble_eq_true rfl) ⟨Nat.le_of_ble_eq_true rfl, Nat.le_of_ble_eq_true rfl⟩ ⟨(by show _ ≤ 601024; omega), (by show _ ≤ 7293034; omega)⟩ (fun r W2 H locs hp G => ?_)
    obtain ⟨rfl, hw⟩ := hp
    have G := g_wc hw G
    refine W.eq (g2 := F0 m 569 ls [.int (nI 0)]) rfl ?_
    refine g_topi (x' := 0) rfl ?_
    refine lv_iload hx hb dL_law_569 (lv_at hl 1 rfl) ?_
    refine lv_icmp_eq (tgt := 576) hx hb dL_law_571 (by decide) (fun c_571 => ?_) (fun c_571 => ?_)
    · skip
      refine lv_iload hx hb dL_law_576 (lv_at hl 1 rfl) ?_
      refine lv_if_ne (tgt := 593) hx hb dL_law_578 (by decide) (fun c_578 => ?_) (fun c_578 => ?_)
      · exact absurd c_578 (by decide)
      · skip
        refine lv_aload_n hx hb dL_law_581 rfl (lv_at hl 5 rfl) ?_
        refine lv_iconst (v := 0) hx hb dL_law_582 (by decide) ?_
        refine g_topi (x' := nI 0) rfl ?_
        refine g_lald (q0 := 4) (n := 1) C0 G rfl 2 rfl (vp_in_nI (n := 0) (by omega) (by decide)) dL_law_583 ?_
        refine g_topl (x' := (vp_updL og 0 (kdI ((va_up (saU fr kp) k (shF ((saU fr kp) k) (sbB ((saU vw kp) k)) (scN (vw k) i j) false)) k) ((va_up (saU bk kp) k (shB ((saU bk kp) k) (sbB ((saU vw kp) k)) (scN (vw k) i j) false)) k) (scN (vw k) i j)).toInt64) 0) (congrArg (vp_updL og 0 (kdI ((va_up (saU fr kp) k (shF ((saU fr kp) k) (sbB ((saU vw kp) k)) (scN (vw k) i j) false)) k) ((va_up (saU bk kp) k (shB ((saU bk kp) k) (sbB ((saU vw kp) k)) (scN (vw k) i j) false)) k) (scN (vw k) i j)).toInt64) (nI_clamp (n := 0) (by omega))) ?_
        refine g_topl (x' := (kdI ((va_up (saU fr kp) k (shF ((saU fr kp) k) (sbB ((saU vw kp) k)) (scN (vw k) i j) false)) k) ((va_up (saU bk kp) k (shB ((saU bk kp) k) (sbB ((saU vw kp) k)) (scN (vw k) i j) false)) k) (scN (vw k) i j)).toInt64) (if_pos rfl) ?_
        refine lv_iload hx hb dL_law_584 (lv_at hl 0 rfl) ?_
        refine lv_i2l hx hb dL_law_586 rfl ?_
        refine W.lcmp hx hb dL_law_587 ?_
        refine lv_if_eq (tgt := 593) hx hb dL_law_588 (by decide) (fun c_588 => ?_) (fun c_588 => ?_)
        · skip
          have c_588 : ((kdI ((va_up (saU fr kp) k (shF ((saU fr kp) k) (sbB ((saU vw kp) k)) (scN (vw k) i j) false)) k) ((va_up (saU bk kp) k (shB ((saU bk kp) k) (sbB ((saU vw kp) k)) (scN (vw k) i j) false)) k) (scN (vw k) i j)).toInt64) = ((kdI ((va_up (mSv mf kp) k (skF ((mSv mf kp) k) (scN ((mSv mv kp) k) i j) (tgN (mSv mf kp k) (mSv mb kp k) (scN (mSv mv kp k) i j) (sbB (mSv mv kp k))))) k) ((va_up (mSv mb kp) k (skB ((mSv mb kp) k) (scN ((mSv mv kp) k) i j) (tgN (mSv mf kp k) (mSv mb kp k) (scN (mSv mv kp k) i j) (sbB (mSv mv kp k))))) k) (scN ((mSv mv kp) k) i j)).toInt64) := lgc_eq.mp c_588
          refine lv_goto (tgt := 1897) hx hb dL_law_593 (by decide) ?_
          have G : gW D (wC ad cy (va_up (saU fr kp) k (shF ((saU fr kp) k) (sbB ((saU vw kp) k)) (scN (vw k) i j) false)) (va_up (saU bk kp) k (shB ((saU bk kp) k) (sbB ((saU vw kp) k)) (scN (vw k) i j) false)) (saU vw kp) tk to fk fo (saK kp) sp lt ib rw cl nu tv tm ta ml tn ((ou, .inl (cy 2, 1, .inr (.inl (vp_updL og 0 (kdI ((va_up (saU fr kp) k (shF ((saU fr kp) k) (sbB ((saU vw kp) k)) (scN (vw k) i j) false)) k) ((va_up (saU bk kp) k (shB ((saU bk kp) k) (sbB ((saU vw kp) k)) (scN (vw k) i j) false)) k) (scN (vw k) i j)).toInt64)))) :: (od, .inl (cy 3, 1, .inr (.inr (.inr (.inl oh))))) :: wM am cy (nI 0) (cS (va_up (mSv mf kp) k (skF ((mSv mf kp) k) (scN ((mSv mv kp) k) i j) (tgN (mSv mf kp k) (mSv mb kp k) (scN (mSv mv kp k) i j) (sbB (mSv mv kp k))))) (va_up (mSv mb kp) k (skB ((mSv mb kp) k) (scN ((mSv mv kp) k) i j) (tgN (mSv mf kp k) (mSv mb kp k) (scN (mSv mv kp k) i j) (sbB (mSv mv kp k))))) (mSv mv kp)) (saK kp) X tn ap le fc f1 f2 (biF kn on) ha ([]))) A s _ _ := g_swMC G
          refine W.widen (k := cells + 8) (n := slots + 400) (by omega) (by omega) ?_
          exact kk _ _ _ ⟨(va_up (saU fr kp) k (shF ((saU fr kp) k) (sbB ((saU vw kp) k)) (scN (vw k) i j) false)), (va_up (saU bk kp) k (shB ((saU bk kp) k) (sbB ((saU vw kp) k)) (scN (vw k) i j) false)), (saU vw kp), tk, to, fk, fo, (saK kp), sp, lt, ib, rw, cl, nu, tv, tm, ta, ml, tn, (va_up (mSv mf kp) k (skF ((mSv mf kp) k) (scN ((mSv mv kp) k) i j) (tgN (mSv mf kp k) (mSv mb kp k) (scN (mSv mv kp k) i j) (sbB (mSv mv kp k))))), (va_up (mSv mb kp) k (skB ((mSv mb kp) k) (scN ((mSv mv kp) k) i j) (tgN (mSv mf kp k) (mSv mb kp k) (scN (mSv mv kp k) i j) (sbB (mSv mv kp k))))), (mSv mv kp), kn, on, (nI 0), X, ap, le, fc, f1, f2, ha, (vp_updL og 0 (kdI ((va_up (saU fr kp) k (shF ((saU fr kp) k) (sbB ((saU vw kp) k)) (scN (vw k) i j) false)) k) ((va_up (saU bk kp) k (shB ((saU bk kp) k) (sbB ((saU vw kp) k)) (scN (vw k) i j) false)) k) (scN (vw k) i j)).toInt64), oh, tx, (by simp only [mSv_sa, saU_lo hk, ← eF, ← eB, ← eV, (sk_sh (f := fr k) (b := bk k) (k := scN (vw k) i j) (bk := sbB (vw k)) (ho := false) (scN_lt hi hj) hcd0).1, (sk_sh (f := fr k) (b := bk k) (k := scN (vw k) i j) (bk := sbB (vw k)) (ho := false) (scN_lt hi hj) hcd0).2]; exact lwF_b (lwF_f (lwF_sa hF))), hT, hR, G⟩ (lv_sub hl [2, 3, 4, 5, 6, 7] rfl)
        · skip
          have c_588 : ¬ ((kdI ((va_up (saU fr kp) k (shF ((saU fr kp) k) (sbB ((saU vw kp) k)) (scN (vw k) i j) false)) k) ((va_up (saU bk kp) k (shB ((saU bk kp) k) (sbB ((saU vw kp) k)) (scN (vw k) i j) false)) k) (scN (vw k) i j)).toInt64) = ((kdI ((va_up (mSv mf kp) k (skF ((mSv mf kp) k) (scN ((mSv mv kp) k) i j) (tgN (mSv mf kp k) (mSv mb kp k) (scN (mSv mv kp k) i j) (sbB (mSv mv kp k))))) k) ((va_up (mSv mb kp) k (skB ((mSv mb kp) k) (scN ((mSv mv kp) k) i j) (tgN (mSv mf kp k) (mSv mb kp k) (scN (mSv mv kp k) i j) (sbB (mSv mv kp k))))) k) (scN ((mSv mv kp) k) i j)).toInt64) := fun h => c_588 (lgc_eq.mpr h)
          exact absurd (by simp only [mSv_sa, saU_lo hk, ← eF, ← eB, ← eV, va_up_e]; rw [(sk_sh (f := fr k) (b := bk k) (k := scN (vw k) i j) (bk := sbB (vw k)) (ho := false) (scN_lt hi hj) hcd0).1, (sk_sh (f := fr k) (b := bk k) (k := scN (vw k) i j) (bk := sbB (vw k)) (ho := false) (scN_lt hi hj) hcd0).2]) c_588
    · exact absurd c_571 (by decide)
  · skip
    have G : gW D (wC ad cy fr bk vw tk to fk fo kp sp lt ib rw cl nu tv tm ta ml tn ((ou, .inl (cy 2, 1, .inr (.inl og))) :: (od, .inl (cy 3, 1, .inr (.inr (.inr (.inl oh))))) :: wM am cy th (cS mf mb mv) kp X tn ap le fc f1 f2 (biF kn on) ha ([]))) A s _ _ := g_wc hw G
    refine W.eq (g2 := F0 m 539 ls [.int 1]) rfl ?_
    refine lv_istore (lv' := [(6, .int 1), (0, .ref b), (1, .ref (ad 0)), (2, .ref (am 0)), (3, .ref ou), (4, .ref od), (5, .int (nI li))]) hx hb dL_law_539 hl (by decide) rfl (fun ls hl => ?_)
    refine lv_aload_n hx hb dL_law_541 rfl (lv_at hl 3 rfl) ?_
    refine lv_aload_n hx hb dL_law_542 rfl (lv_at hl 1 rfl) ?_
    refine lv_iload hx hb dL_law_543 (lv_at hl 6 rfl) ?_
    refine lv_iconst (v := 1) hx hb dL_law_545 (by decide) ?_
    refine lv_iadd hx hb dL_law_546 ?_
    refine g_topi (x' := nI (li + 1)) (nI_add li 1) ?_
    refine va_sld hx hb hXs hbl hbA G.2.2 (vp_in_nI (n := li + 1) (by omega) (by omega)) dL_law_547 ?_
    refine g_topi (x' := p0) (by rw [nI_clamp (n := li + 1) (by omega)]; exact hp0.symm) ?_
    refine lv_aload_n hx hb dL_law_548 rfl (lv_at hl 1 rfl) ?_
    refine lv_iload hx hb dL_law_549 (lv_at hl 6 rfl) ?_
    refine lv_iconst (v := 2) hx hb dL_law_551 (by decide) ?_
    refine lv_iadd hx hb dL_law_552 ?_
    refine g_topi (x' := nI (li + 2)) (nI_add li 2) ?_
    refine va_sld hx hb hXs hbl hbA G.2.2 (vp_in_nI (n := li + 2) (by omega) (by omega)) dL_law_553 ?_
    refine g_topi (x' := p1) (by rw [nI_clamp (n := li + 2) (by omega)]; exact hp1.symm) ?_
    refine lv_aload_n hx hb dL_law_554 rfl (lv_at hl 1 rfl) ?_
    refine lv_iload hx hb dL_law_555 (lv_at hl 6 rfl) ?_
    refine lv_iconst (v := 3) hx hb dL_law_557 (by decide) ?_
    refine lv_iadd hx hb dL_law_558 ?_
    refine g_topi (x' := nI (li + 3)) (nI_add li 3) ?_
    refine va_sld hx hb hXs hbl hbA G.2.2 (vp_in_nI (n := li + 3) (by omega) (by omega)) dL_law_559 ?_
    refine g_topi (x' := p2) (by rw [nI_clamp (n := li + 3) (by omega)]; exact hp2.symm) ?_
    have G : gW D (wM am cy th (cS mf mb mv) kp X tn ap le fc f1 f2 (biF kn on) ha ((ou, .inl (cy 2, 1, .inr (.inl og))) :: (od, .inl (cy 3, 1, .inr (.inr (.inr (.inl oh))))) :: wC ad cy fr bk vw tk to fk fo kp sp lt ib rw cl nu tv tm ta ml tn ([]))) A s _ _ := g_swCM G
    refine g_callV (As := [.int p0, .int p1, .int p2]) (rest := []) (q0 := 0) C0 G (c_X5_lose_e1 l D cy (am := am) (mf := mf) (mb := mb) (mv := mv) (th := th) (sv := kp) (X := X) (ln := tn) (ap := ap) (le := le) (fc := fc) (f1 := f1) (f2 := f2) (ha := ha) (R := ((ou, .inl (cy 2, 1, .inr (.inl og))) :: (od, .inl (cy 3, 1, .inr (.inr (.inr (.inl oh))))) :: wC ad cy fr bk vw tk to fk fo kp sp lt ib rw cl nu tv tm ta ml tn ([]))) (B := biF kn on) (p0 := p0) (p1 := p1) (p2 := p2) (by rw [inB_ir (x := p0) (n := 2) (hi := 2) rfl (by decide), inB_ir (x := p1) (n := 7) (hi := 7) rfl (by decide), inB_ir (x := p2) (n := 7) (hi := 7) rfl (by decide), ← Bool.and_assoc]; exact hx9)) k_X5_lose ml_L_125 rfl rfl dL_law_560 rfl rfl hl.1 (Nat.le_of_ble_eq_true rfl) ⟨Nat.le_of_ble_eq_true rfl, Nat.le_of_ble_eq_true rfl⟩ ⟨(by show _ ≤ 601024; omega), (by show _ ≤ 7293034; omega)⟩ (fun r W2 H locs hp G => ?_)
    obtain ⟨rfl, hw⟩ := hp
    have G := g_wc hw G
    refine W.eq (g2 := F0 m 563 ls [.int 0]) rfl ?_
    refine lv_istore (lv' := [(7, .int 0), (6, .int 1), (0, .ref b), (1, .ref (ad 0)), (2, .ref (am 0)), (3, .ref ou), (4, .ref od), (5, .int (nI li))]) hx hb dL_law_563 hl (by decide) rfl (fun ls hl => ?_)
    refine lv_aload_n hx hb dL_law_565 rfl (lv_at hl 4 rfl) ?_
    refine g_callV (As := []) (rest := []) (q0 := 0) C0 G (c_X5_thrown l D cy (am := am) (mf := mf) (mb := mb) (mv := mv) (th := nI 1) (sv := kp) (X := X) (ln := tn) (ap := ap) (le := le) (fc := fc) (f1 := f1) (f2 := f2) (ha := ha) (R := ((ou, .inl (cy 2, 1, .inr (.inl og))) :: (od, .inl (cy 3, 1, .inr (.inr (.inr (.inl oh))))) :: wC ad cy fr bk vw tk to fk fo kp sp lt ib rw cl nu tv tm ta ml tn ([]))) (B := biF kn on)  ) k_X5_thrown ml_L_106 rfl rfl dL_law_566 rfl rfl hl.1 (Nat.le_of_ble_eq_true rfl) ⟨Nat.le_of_ble_eq_true rfl, Nat.le_of_ble_eq_true rfl⟩ ⟨(by show _ ≤ 601024; omega), (by show _ ≤ 7293034; omega)⟩ (fun r W2 H locs hp G => ?_)
    obtain ⟨rfl, hw⟩ := hp
    have G := g_wc hw G
    refine W.eq (g2 := F0 m 569 ls [.int (nI 1)]) rfl ?_
    refine g_topi (x' := 1) rfl ?_
    refine lv_iload hx hb dL_law_569 (lv_at hl 1 rfl) ?_
    refine lv_icmp_eq (tgt := 576) hx hb dL_law_571 (by decide) (fun c_571 => ?_) (fun c_571 => ?_)
    · skip
      refine lv_iload hx hb dL_law_576 (lv_at hl 1 rfl) ?_
      refine lv_if_ne (tgt := 593) hx hb dL_law_578 (by decide) (fun c_578 => ?_) (fun c_578 => ?_)
      · skip
        refine lv_goto (tgt := 1897) hx hb dL_law_593 (by decide) ?_
        have G : gW D (wC ad cy fr bk vw tk to fk fo kp sp lt ib rw cl nu tv tm ta ml tn ((ou, .inl (cy 2, 1, .inr (.inl og))) :: (od, .inl (cy 3, 1, .inr (.inr (.inr (.inl oh))))) :: wM am cy (nI 1) (cS mf mb mv) kp X tn ap le fc f1 f2 (biF kn on) ha ([]))) A s _ _ := g_swMC G
        refine W.widen (k := cells + 8) (n := slots + 400) (by omega) (by omega) ?_
        exact kk _ _ _ ⟨fr, bk, vw, tk, to, fk, fo, kp, sp, lt, ib, rw, cl, nu, tv, tm, ta, ml, tn, mf, mb, mv, kn, on, (nI 1), X, ap, le, fc, f1, f2, ha, og, oh, tx, hF, hT, hR, G⟩ (lv_sub hl [2, 3, 4, 5, 6, 7] rfl)
      · exact absurd c_578 (by decide)
    · exact absurd c_571 (by decide)
  · skip
    obtain ⟨k, hk, rfl, i, hi, rfl, j, hj, rfl, hcf⟩ := hx9
    obtain ⟨eF, eB, eV, hv4⟩ := hF.2 k (by omega)
    have G : gW D (wC ad cy fr bk vw tk to fk fo kp sp lt ib rw cl nu tv tm ta ml tn ((ou, .inl (cy 2, 1, .inr (.inl og))) :: (od, .inl (cy 3, 1, .inr (.inr (.inr (.inl oh))))) :: wM am cy th (cS mf mb mv) kp X tn ap le fc f1 f2 (biF kn on) ha ([]))) A s _ _ := g_wc hw G
    refine W.eq (g2 := F0 m 539 ls [.int 2]) rfl ?_
    refine lv_istore (lv' := [(6, .int 2), (0, .ref b), (1, .ref (ad 0)), (2, .ref (am 0)), (3, .ref ou), (4, .ref od), (5, .int (nI li))]) hx hb dL_law_539 hl (by decide) rfl (fun ls hl => ?_)
    refine lv_aload_n hx hb dL_law_541 rfl (lv_at hl 3 rfl) ?_
    refine lv_aload_n hx hb dL_law_542 rfl (lv_at hl 1 rfl) ?_
    refine lv_iload hx hb dL_law_543 (lv_at hl 6 rfl) ?_
    refine lv_iconst (v := 1) hx hb dL_law_545 (by decide) ?_
    refine lv_iadd hx hb dL_law_546 ?_
    refine g_topi (x' := nI (li + 1)) (nI_add li 1) ?_
    refine va_sld hx hb hXs hbl hbA G.2.2 (vp_in_nI (n := li + 1) (by omega) (by omega)) dL_law_547 ?_
    refine g_topi (x' := nI k) (by rw [nI_clamp (n := li + 1) (by omega)]; exact hp0.symm) ?_
    refine lv_aload_n hx hb dL_law_548 rfl (lv_at hl 1 rfl) ?_
    refine lv_iload hx hb dL_law_549 (lv_at hl 6 rfl) ?_
    refine lv_iconst (v := 2) hx hb dL_law_551 (by decide) ?_
    refine lv_iadd hx hb dL_law_552 ?_
    refine g_topi (x' := nI (li + 2)) (nI_add li 2) ?_
    refine va_sld hx hb hXs hbl hbA G.2.2 (vp_in_nI (n := li + 2) (by omega) (by omega)) dL_law_553 ?_
    refine g_topi (x' := nI i) (by rw [nI_clamp (n := li + 2) (by omega)]; exact hp1.symm) ?_
    refine lv_aload_n hx hb dL_law_554 rfl (lv_at hl 1 rfl) ?_
    refine lv_iload hx hb dL_law_555 (lv_at hl 6 rfl) ?_
    refine lv_iconst (v := 3) hx hb dL_law_557 (by decide) ?_
    refine lv_iadd hx hb dL_law_558 ?_
    refine g_topi (x' := nI (li + 3)) (nI_add li 3) ?_
    refine va_sld hx hb hXs hbl hbA G.2.2 (vp_in_nI (n := li + 3) (by omega) (by omega)) dL_law_559 ?_
    refine g_topi (x' := nI j) (by rw [nI_clamp (n := li + 3) (by omega)]; exact hp2.symm) ?_
    have G : gW D (wM am cy th (cS mf mb mv) kp X tn ap le fc f1 f2 (biF kn on) ha ((ou, .inl (cy 2, 1, .inr (.inl og))) :: (od, .inl (cy 3, 1, .inr (.inr (.inr (.inl oh))))) :: wC ad cy fr bk vw tk to fk fo kp sp lt ib rw cl nu tv tm ta ml tn ([]))) A s _ _ := g_swCM G
    refine g_callV (As := [.int (nI k), .int (nI i), .int (nI j)]) (rest := []) (q0 := 0) C0 G (c_X5_lose_e2 l D cy (am := am) (mf := mf) (mb := mb) (mv := mv) (th := th) (sv := kp) (X := X) (ln := tn) (ap := ap) (le := le) (fc := fc) (f1 := f1) (f2 := f2) (ha := ha) (R := ((ou, .inl (cy 2, 1, .inr (.inl og))) :: (od, .inl (cy 3, 1, .inr (.inr (.inr (.inl oh))))) :: wC ad cy fr bk vw tk to fk fo kp sp lt ib rw cl nu tv tm ta ml tn ([]))) (B := biF kn on) (k := k) (i := i) (j := j) (by omega) (by omega) (by omega) (by rw [← eV]; exact hv4) (by rw [← eF, ← eB, ← eV]; show ¬ hoB (fr k) (bk k) (sbB (vw k)) (scN (vw k) i j) = true; rw [hcf]; decide)) k_X5_lose ml_L_125 rfl rfl dL_law_560 rfl rfl hl.1 (Nat.le_of_ble_eq_true rfl) ⟨Nat.le_of_ble_eq_true rfl, Nat.le_of_ble_eq_true rfl⟩ ⟨(by show _ ≤ 601024; omega), (by show _ ≤ 7293034; omega)⟩ (fun r W2 H locs hp G => ?_)
    obtain ⟨rfl, hw⟩ := hp
    have G := g_wc hw G
    refine W.eq (g2 := F0 m 563 ls [.int 0]) rfl ?_
    refine lv_istore (lv' := [(7, .int 0), (6, .int 2), (0, .ref b), (1, .ref (ad 0)), (2, .ref (am 0)), (3, .ref ou), (4, .ref od), (5, .int (nI li))]) hx hb dL_law_563 hl (by decide) rfl (fun ls hl => ?_)
    refine lv_aload_n hx hb dL_law_565 rfl (lv_at hl 4 rfl) ?_
    refine g_callV (As := []) (rest := []) (q0 := 0) C0 G (c_X5_thrown l D cy (am := am) (mf := mf) (mb := mb) (mv := mv) (th := nI 2) (sv := kp) (X := X) (ln := tn) (ap := ap) (le := le) (fc := fc) (f1 := f1) (f2 := f2) (ha := ha) (R := ((ou, .inl (cy 2, 1, .inr (.inl og))) :: (od, .inl (cy 3, 1, .inr (.inr (.inr (.inl oh))))) :: wC ad cy fr bk vw tk to fk fo kp sp lt ib rw cl nu tv tm ta ml tn ([]))) (B := biF kn on)  ) k_X5_thrown ml_L_106 rfl rfl dL_law_566 rfl rfl hl.1 (Nat.le_of_ble_eq_true rfl) ⟨Nat.le_of_ble_eq_true rfl, Nat.le_of_ble_eq_true rfl⟩ ⟨(by show _ ≤ 601024; omega), (by show _ ≤ 7293034; omega)⟩ (fun r W2 H locs hp G => ?_)
    obtain ⟨rfl, hw⟩ := hp
    have G := g_wc hw G
    refine W.eq (g2 := F0 m 569 ls [.int (nI 2)]) rfl ?_
    refine g_topi (x' := 2) rfl ?_
    refine lv_iload hx hb dL_law_569 (lv_at hl 1 rfl) ?_
    refine lv_icmp_eq (tgt := 576) hx hb dL_law_571 (by decide) (fun c_571 => ?_) (fun c_571 => ?_)
    · skip
      refine lv_iload hx hb dL_law_576 (lv_at hl 1 rfl) ?_
      refine lv_if_ne (tgt := 593) hx hb dL_law_578 (by decide) (fun c_578 => ?_) (fun c_578 => ?_)
      · skip
        refine lv_goto (tgt := 1897) hx hb dL_law_593 (by decide) ?_
        have G : gW D (wC ad cy fr bk vw tk to fk fo kp sp lt ib rw cl nu tv tm ta ml tn ((ou, .inl (cy 2, 1, .inr (.inl og))) :: (od, .inl (cy 3, 1, .inr (.inr (.inr (.inl oh))))) :: wM am cy (nI 2) (cS mf mb mv) kp X tn ap le fc f1 f2 (biF kn on) ha ([]))) A s _ _ := g_swMC G
        refine W.widen (k := cells + 8) (n := slots + 400) (by omega) (by omega) ?_
        exact kk _ _ _ ⟨fr, bk, vw, tk, to, fk, fo, kp, sp, lt, ib, rw, cl, nu, tv, tm, ta, ml, tn, mf, mb, mv, kn, on, (nI 2), X, ap, le, fc, f1, f2, ha, og, oh, tx, hF, hT, hR, G⟩ (lv_sub hl [2, 3, 4, 5, 6, 7] rfl)
      · exact absurd c_578 (by decide)
    · exact absurd c_571 (by decide)

set_option maxHeartbeats 4000000 in
set_option maxRecDepth 100000 in
theorem lw_c6 {p : Program} {l : Launch} {e : Env} {s : State} {m : MethodId} {below : List Frame} {meth : Method} {c : Code} {H : Heap} {locs : List Loc} {cells slots : Nat} {Q : State → Prop} {D : va_G} {cy : Nat → ClassId} {A : Nat → Prop} {ad am : Nat → Nat} {ou od b L li : Nat} {xs : Nat → Int32} {ls : Array Slot} (C0 : gC p s m #[.ref b] meth c code 9 (some .boolean) RL D (gts cy) A) (hst : l.stackTraces = false) (hXs : va_X b L xs s s.heap) (hbl : b < s.heap.size) (hbA : ¬ A b) (hli : li + 3 < L) (hL : L ≤ 2048) (hce : cells + 8 ≤ 601024) (hsl : slots + 400 ≤ 7293034) (I : lwI D A s cy ad am ou od H locs) (hl : lv_has ls 9 [(0, .ref b), (1, .ref (ad 0)), (2, .ref (am 0)), (3, .ref ou), (4, .ref od), (5, .int (nI li))])
    (kk : ∀ (H : Heap) (locs : List Loc) (ls : Array Slot), lwI D A s cy ad am ou od H locs → lv_has ls 9 [(0, .ref b), (1, .ref (ad 0)), (2, .ref (am 0)), (3, .ref ou), (4, .ref od), (5, .int (nI li))] → W p l e room_1 s m #[.ref b] below meth c H locs (cells + 8) (slots + 400) Q (F0 m 1897 ls [])) : W p l e room_1 s m #[.ref b] below meth c H locs cells slots Q (F0 m 596 ls []) := by
  obtain ⟨fr, bk, vw, tk, to, fk, fo, kp, sp, lt, ib, rw, cl, nu, tv, tm, ta, ml, tn, mf, mb, mv, kn, on, th, X, ap, le, fc, f1, f2, ha, og, oh, tx, hF, hT, hR, G⟩ := I
  have hx := C0.1
  have hb := C0.2.1
  have hown := C0.2.2.2.2.2.1
  have hts := C0.2.2.2.2.2.2.1
  have hRs : rsOk (0, lt, ib, rw, cl, nu) := ⟨by show 0 < 9; decide, hR.2⟩
  have hkp := hF.1
  have h60 := hT.2.2.1
  have htm := hT.1
  obtain ⟨p0, hp0⟩ : ∃ z : Int32, z = xs (li + 1) := ⟨_, rfl⟩
  obtain ⟨p1, hp1⟩ : ∃ z : Int32, z = xs (li + 2) := ⟨_, rfl⟩
  refine lv_aload_n hx hb dL_law_596 rfl (lv_at hl 1 rfl) ?_
  refine lv_aload_n hx hb dL_law_597 rfl (lv_at hl 0 rfl) ?_
  refine lv_iload hx hb dL_law_598 (lv_at hl 5 rfl) ?_
  refine lv_iconst (v := 1) hx hb dL_law_600 (by decide) ?_
  refine lv_iadd hx hb dL_law_601 ?_
  refine g_topi (x' := nI (li + 1)) (nI_add li 1) ?_
  refine va_sld hx hb hXs hbl hbA G.2.2 (vp_in_nI (n := li + 1) (by omega) (by omega)) dL_law_602 ?_
  refine g_topi (x' := p0) (by rw [nI_clamp (n := li + 1) (by omega)]; exact hp0.symm) ?_
  refine lv_aload_n hx hb dL_law_603 rfl (lv_at hl 0 rfl) ?_
  refine lv_iload hx hb dL_law_604 (lv_at hl 5 rfl) ?_
  refine lv_iconst (v := 2) hx hb dL_law_606 (by decide) ?_
  refine lv_iadd hx hb dL_law_607 ?_
  refine g_topi (x' := nI (li + 2)) (nI_add li 2) ?_
  refine va_sld hx hb hXs hbl hbA G.2.2 (vp_in_nI (n := li + 2) (by omega) (by omega)) dL_law_608 ?_
  refine g_topi (x' := p1) (by rw [nI_clamp (n := li + 2) (by omega)]; exact hp1.symm) ?_
  refine lv_aload_n hx hb dL_law_609 rfl (lv_at hl 3 rfl) ?_
  refine g_callH (As := [.ref (ad 0), .int p0, .int p1, .ref ou]) (rest := []) C0 G (c_L_turn l D cy (ad := ad) (fr := fr) (bk := bk) (vw := vw) (tk := tk) (to := to) (fk := fk) (fo := fo) (kp := kp) (sp := sp) (lt := lt) (ib := ib) (rw := rw) (cl := cl) (nu := nu) (tv := tv) (tm := tm) (ta := ta) (ml := ml) (tn := tn) (R := wM am cy th (cS mf mb mv) kp X tn ap le fc f1 f2 (biF kn on) ha ([])) (ou := ou) (od := od) (og := og) (oh := oh) (p0 := p0) (p1 := p1) hst hF.1) k_L_turn ml_L_126 dL_law_610 rfl rfl hl.1 (Nat.le_of_ble_eq_true rfl) ⟨Nat.le_of_ble_eq_true rfl, Nat.le_of_ble_eq_true rfl⟩ ⟨(by show _ ≤ 601024; omega), (by show _ ≤ 7293034; omega)⟩ (fun r W2 H locs hp G => ?_)
  rcases hp with ⟨k, hk, rfl, v, hv, rfl, rfl, hw⟩ | ⟨rfl, hw, hx9⟩ | ⟨rfl, hw, hx9⟩
  · skip
    obtain ⟨eF, eB, eV, hv4⟩ := hF.2 k (by omega)
    have G : gW D (wC ad cy (saU fr kp) (saU bk kp) (va_up (saU vw kp) k v) tk to fk fo (saK kp) sp lt ib rw cl nu tv tm ta ml tn ((ou, .inl (cy 2, 1, .inr (.inl (vp_updL og 0 (nI ((saU vw kp) k)).toInt64)))) :: (od, .inl (cy 3, 1, .inr (.inr (.inr (.inl oh))))) :: wM am cy th (cS mf mb mv) kp X tn ap le fc f1 f2 (biF kn on) ha ([]))) A s _ _ := g_wc hw G
    refine W.eq (g2 := F0 m 613 ls [.int 0]) rfl ?_
    refine lv_istore (lv' := [(6, .int 0), (0, .ref b), (1, .ref (ad 0)), (2, .ref (am 0)), (3, .ref ou), (4, .ref od), (5, .int (nI li))]) hx hb dL_law_613 hl (by decide) rfl (fun ls hl => ?_)
    refine lv_aload_n hx hb dL_law_615 rfl (lv_at hl 3 rfl) ?_
    refine lv_aload_n hx hb dL_law_616 rfl (lv_at hl 1 rfl) ?_
    refine lv_iload hx hb dL_law_617 (lv_at hl 6 rfl) ?_
    refine lv_iconst (v := 1) hx hb dL_law_619 (by decide) ?_
    refine lv_iadd hx hb dL_law_620 ?_
    refine g_topi (x' := nI (li + 1)) (nI_add li 1) ?_
    refine va_sld hx hb hXs hbl hbA G.2.2 (vp_in_nI (n := li + 1) (by omega) (by omega)) dL_law_621 ?_
    refine g_topi (x' := nI k) (by rw [nI_clamp (n := li + 1) (by omega)]; exact hp0.symm) ?_
    refine lv_aload_n hx hb dL_law_622 rfl (lv_at hl 1 rfl) ?_
    refine lv_iload hx hb dL_law_623 (lv_at hl 6 rfl) ?_
    refine lv_iconst (v := 2) hx hb dL_law_625 (by decide) ?_
    refine lv_iadd hx hb dL_law_626 ?_
    refine g_topi (x' := nI (li + 2)) (nI_add li 2) ?_
    refine va_sld hx hb hXs hbl hbA G.2.2 (vp_in_nI (n := li + 2) (by omega) (by omega)) dL_law_627 ?_
    refine g_topi (x' := nI v) (by rw [nI_clamp (n := li + 2) (by omega)]; exact hp1.symm) ?_
    have G : gW D (wM am cy th (cS mf mb mv) kp X tn ap le fc f1 f2 (biF kn on) ha ((ou, .inl (cy 2, 1, .inr (.inl (vp_updL og 0 (nI ((saU vw kp) k)).toInt64)))) :: (od, .inl (cy 3, 1, .inr (.inr (.inr (.inl oh))))) :: wC ad cy (saU fr kp) (saU bk kp) (va_up (saU vw kp) k v) tk to fk fo (saK kp) sp lt ib rw cl nu tv tm ta ml tn ([]))) A s _ _ := g_swCM G
    refine g_callV (As := [.int (nI k), .int (nI v)]) (rest := []) (q0 := 0) C0 G (c_X5_turn_ok l D cy (am := am) (mf := mf) (mb := mb) (mv := mv) (th := th) (sv := kp) (X := X) (ln := tn) (ap := ap) (le := le) (fc := fc) (f1 := f1) (f2 := f2) (ha := ha) (R := ((ou, .inl (cy 2, 1, .inr (.inl (vp_updL og 0 (nI ((saU vw kp) k)).toInt64)))) :: (od, .inl (cy 3, 1, .inr (.inr (.inr (.inl oh))))) :: wC ad cy (saU fr kp) (saU bk kp) (va_up (saU vw kp) k v) tk to fk fo (saK kp) sp lt ib rw cl nu tv tm ta ml tn ([]))) (B := biF kn on) (k := k) (v := v) (by omega) (by omega) hkp) k_X5_turn ml_L_128 rfl rfl dL_law_628 rfl rfl hl.1 (Nat.le_of_ble_eq_true rfl) ⟨Nat.le_of_ble_eq_true rfl, Nat.le_of_ble_eq_true rfl⟩ ⟨(by show _ ≤ 601024; omega), (by show _ ≤ 7293034; omega)⟩ (fun r W2 H locs hp G => ?_)
    obtain ⟨rfl, hw⟩ := hp
    have G := g_wc hw G
    refine W.eq (g2 := F0 m 631 ls [.int (nI ((mSv mv kp) k))]) rfl ?_
    refine lv_istore (lv' := [(7, .int (nI ((mSv mv kp) k))), (6, .int 0), (0, .ref b), (1, .ref (ad 0)), (2, .ref (am 0)), (3, .ref ou), (4, .ref od), (5, .int (nI li))]) hx hb dL_law_631 hl (by decide) rfl (fun ls hl => ?_)
    refine lv_aload_n hx hb dL_law_633 rfl (lv_at hl 4 rfl) ?_
    refine g_callV (As := []) (rest := []) (q0 := 0) C0 G (c_X5_thrown l D cy (am := am) (mf := mSv mf kp) (mb := mSv mb kp) (mv := va_up (mSv mv kp) k v) (th := nI 0) (sv := saK kp) (X := X) (ln := tn) (ap := ap) (le := le) (fc := fc) (f1 := f1) (f2 := f2) (ha := ha) (R := ((ou, .inl (cy 2, 1, .inr (.inl (vp_updL og 0 (nI ((saU vw kp) k)).toInt64)))) :: (od, .inl (cy 3, 1, .inr (.inr (.inr (.inl oh))))) :: wC ad cy (saU fr kp) (saU bk kp) (va_up (saU vw kp) k v) tk to fk fo (saK kp) sp lt ib rw cl nu tv tm ta ml tn ([]))) (B := biF kn on)  ) k_X5_thrown ml_L_106 rfl rfl dL_law_634 rfl rfl hl.1 (Nat.le_of_ble_eq_true rfl) ⟨Nat.le_of_ble_eq_true rfl, Nat.le_of_ble_eq_true rfl⟩ ⟨(by show _ ≤ 601024; omega), (by show _ ≤ 7293034; omega)⟩ (fun r W2 H locs hp G => ?_)
    obtain ⟨rfl, hw⟩ := hp
    have G := g_wc hw G
    refine W.eq (g2 := F0 m 637 ls [.int (nI 0)]) rfl ?_
    refine g_topi (x' := 0) rfl ?_
    refine lv_iload hx hb dL_law_637 (lv_at hl 1 rfl) ?_
    refine lv_icmp_eq (tgt := 644) hx hb dL_law_639 (by decide) (fun c_639 => ?_) (fun c_639 => ?_)
    · skip
      refine lv_iload hx hb dL_law_644 (lv_at hl 1 rfl) ?_
      refine lv_if_ne (tgt := 661) hx hb dL_law_646 (by decide) (fun c_646 => ?_) (fun c_646 => ?_)
      · exact absurd c_646 (by decide)
      · skip
        refine lv_aload_n hx hb dL_law_649 rfl (lv_at hl 5 rfl) ?_
        refine lv_iconst (v := 0) hx hb dL_law_650 (by decide) ?_
        refine g_topi (x' := nI 0) rfl ?_
        refine g_lald (q0 := 4) (n := 1) C0 G rfl 2 rfl (vp_in_nI (n := 0) (by omega) (by decide)) dL_law_651 ?_
        refine g_topl (x' := (vp_updL og 0 (nI ((saU vw kp) k)).toInt64) 0) (congrArg (vp_updL og 0 (nI ((saU vw kp) k)).toInt64) (nI_clamp (n := 0) (by omega))) ?_
        refine g_topl (x' := (nI ((saU vw kp) k)).toInt64) (if_pos rfl) ?_
        refine lv_iload hx hb dL_law_652 (lv_at hl 0 rfl) ?_
        refine lv_i2l hx hb dL_law_654 rfl ?_
        refine W.lcmp hx hb dL_law_655 ?_
        refine lv_if_eq (tgt := 661) hx hb dL_law_656 (by decide) (fun c_656 => ?_) (fun c_656 => ?_)
        · skip
          have c_656 : ((nI ((saU vw kp) k)).toInt64) = ((nI ((mSv mv kp) k)).toInt64) := lgc_eq.mp c_656
          refine lv_goto (tgt := 1897) hx hb dL_law_661 (by decide) ?_
          have G : gW D (wC ad cy (saU fr kp) (saU bk kp) (va_up (saU vw kp) k v) tk to fk fo (saK kp) sp lt ib rw cl nu tv tm ta ml tn ((ou, .inl (cy 2, 1, .inr (.inl (vp_updL og 0 (nI ((saU vw kp) k)).toInt64)))) :: (od, .inl (cy 3, 1, .inr (.inr (.inr (.inl oh))))) :: wM am cy (nI 0) (cS (mSv mf kp) (mSv mb kp) (va_up (mSv mv kp) k v)) (saK kp) X tn ap le fc f1 f2 (biF kn on) ha ([]))) A s _ _ := g_swMC G
          refine W.widen (k := cells + 8) (n := slots + 400) (by omega) (by omega) ?_
          exact kk _ _ _ ⟨(saU fr kp), (saU bk kp), (va_up (saU vw kp) k v), tk, to, fk, fo, (saK kp), sp, lt, ib, rw, cl, nu, tv, tm, ta, ml, tn, (mSv mf kp), (mSv mb kp), (va_up (mSv mv kp) k v), kn, on, (nI 0), X, ap, le, fc, f1, f2, ha, (vp_updL og 0 (nI ((saU vw kp) k)).toInt64), oh, tx, (by simp only [mSv_sa]; exact lwF_v (lwF_sa hF) hv), hT, hR, G⟩ (lv_sub hl [2, 3, 4, 5, 6, 7] rfl)
        · skip
          have c_656 : ¬ ((nI ((saU vw kp) k)).toInt64) = ((nI ((mSv mv kp) k)).toInt64) := fun h => c_656 (lgc_eq.mpr h)
          exact absurd (by first | (simp only [mSv_sa, saU_lo hk, ← eF, ← eB, ← eV]; done) | (simp only [mSv_sa, saU_lo hk, ← eF, ← eB, ← eV]; rfl) | rfl) c_656
    · exact absurd c_639 (by decide)
  · skip
    have G : gW D (wC ad cy fr bk vw tk to fk fo kp sp lt ib rw cl nu tv tm ta ml tn ((ou, .inl (cy 2, 1, .inr (.inl og))) :: (od, .inl (cy 3, 1, .inr (.inr (.inr (.inl oh))))) :: wM am cy th (cS mf mb mv) kp X tn ap le fc f1 f2 (biF kn on) ha ([]))) A s _ _ := g_wc hw G
    refine W.eq (g2 := F0 m 613 ls [.int 1]) rfl ?_
    refine lv_istore (lv' := [(6, .int 1), (0, .ref b), (1, .ref (ad 0)), (2, .ref (am 0)), (3, .ref ou), (4, .ref od), (5, .int (nI li))]) hx hb dL_law_613 hl (by decide) rfl (fun ls hl => ?_)
    refine lv_aload_n hx hb dL_law_615 rfl (lv_at hl 3 rfl) ?_
    refine lv_aload_n hx hb dL_law_616 rfl (lv_at hl 1 rfl) ?_
    refine lv_iload hx hb dL_law_617 (lv_at hl 6 rfl) ?_
    refine lv_iconst (v := 1) hx hb dL_law_619 (by decide) ?_
    refine lv_iadd hx hb dL_law_620 ?_
    refine g_topi (x' := nI (li + 1)) (nI_add li 1) ?_
    refine va_sld hx hb hXs hbl hbA G.2.2 (vp_in_nI (n := li + 1) (by omega) (by omega)) dL_law_621 ?_
    refine g_topi (x' := p0) (by rw [nI_clamp (n := li + 1) (by omega)]; exact hp0.symm) ?_
    refine lv_aload_n hx hb dL_law_622 rfl (lv_at hl 1 rfl) ?_
    refine lv_iload hx hb dL_law_623 (lv_at hl 6 rfl) ?_
    refine lv_iconst (v := 2) hx hb dL_law_625 (by decide) ?_
    refine lv_iadd hx hb dL_law_626 ?_
    refine g_topi (x' := nI (li + 2)) (nI_add li 2) ?_
    refine va_sld hx hb hXs hbl hbA G.2.2 (vp_in_nI (n := li + 2) (by omega) (by omega)) dL_law_627 ?_
    refine g_topi (x' := p1) (by rw [nI_clamp (n := li + 2) (by omega)]; exact hp1.symm) ?_
    have G : gW D (wM am cy th (cS mf mb mv) kp X tn ap le fc f1 f2 (biF kn on) ha ((ou, .inl (cy 2, 1, .inr (.inl og))) :: (od, .inl (cy 3, 1, .inr (.inr (.inr (.inl oh))))) :: wC ad cy fr bk vw tk to fk fo kp sp lt ib rw cl nu tv tm ta ml tn ([]))) A s _ _ := g_swCM G
    refine g_callV (As := [.int p0, .int p1]) (rest := []) (q0 := 0) C0 G (c_X5_turn_e1 l D cy (am := am) (mf := mf) (mb := mb) (mv := mv) (th := th) (sv := kp) (X := X) (ln := tn) (ap := ap) (le := le) (fc := fc) (f1 := f1) (f2 := f2) (ha := ha) (R := ((ou, .inl (cy 2, 1, .inr (.inl og))) :: (od, .inl (cy 3, 1, .inr (.inr (.inr (.inl oh))))) :: wC ad cy fr bk vw tk to fk fo kp sp lt ib rw cl nu tv tm ta ml tn ([]))) (B := biF kn on) (p0 := p0) (p1 := p1) (by rw [inB_ir (x := p0) (n := 2) (hi := 2) rfl (by decide)]; exact hx9)) k_X5_turn ml_L_128 rfl rfl dL_law_628 rfl rfl hl.1 (Nat.le_of_ble_eq_true rfl) ⟨Nat.le_of_ble_eq_true rfl, Nat.le_of_ble_eq_true rfl⟩ ⟨(by show _ ≤ 601024; omega), (by show _ ≤ 7293034; omega)⟩ (fun r W2 H locs hp G => ?_)
    obtain ⟨rfl, hw⟩ := hp
    have G := g_wc hw G
    refine W.eq (g2 := F0 m 631 ls [.int 0]) rfl ?_
    refine lv_istore (lv' := [(7, .int 0), (6, .int 1), (0, .ref b), (1, .ref (ad 0)), (2, .ref (am 0)), (3, .ref ou), (4, .ref od), (5, .int (nI li))]) hx hb dL_law_631 hl (by decide) rfl (fun ls hl => ?_)
    refine lv_aload_n hx hb dL_law_633 rfl (lv_at hl 4 rfl) ?_
    refine g_callV (As := []) (rest := []) (q0 := 0) C0 G (c_X5_thrown l D cy (am := am) (mf := mf) (mb := mb) (mv := mv) (th := nI 1) (sv := kp) (X := X) (ln := tn) (ap := ap) (le := le) (fc := fc) (f1 := f1) (f2 := f2) (ha := ha) (R := ((ou, .inl (cy 2, 1, .inr (.inl og))) :: (od, .inl (cy 3, 1, .inr (.inr (.inr (.inl oh))))) :: wC ad cy fr bk vw tk to fk fo kp sp lt ib rw cl nu tv tm ta ml tn ([]))) (B := biF kn on)  ) k_X5_thrown ml_L_106 rfl rfl dL_law_634 rfl rfl hl.1 (Nat.le_of_ble_eq_true rfl) ⟨Nat.le_of_ble_eq_true rfl, Nat.le_of_ble_eq_true rfl⟩ ⟨(by show _ ≤ 601024; omega), (by show _ ≤ 7293034; omega)⟩ (fun r W2 H locs hp G => ?_)
    obtain ⟨rfl, hw⟩ := hp
    have G := g_wc hw G
    refine W.eq (g2 := F0 m 637 ls [.int (nI 1)]) rfl ?_
    refine g_topi (x' := 1) rfl ?_
    refine lv_iload hx hb dL_law_637 (lv_at hl 1 rfl) ?_
    refine lv_icmp_eq (tgt := 644) hx hb dL_law_639 (by decide) (fun c_639 => ?_) (fun c_639 => ?_)
    · skip
      refine lv_iload hx hb dL_law_644 (lv_at hl 1 rfl) ?_
      refine lv_if_ne (tgt := 661) hx hb dL_law_646 (by decide) (fun c_646 => ?_) (fun c_646 => ?_)
      · skip
        refine lv_goto (tgt := 1897) hx hb dL_law_661 (by decide) ?_
        have G : gW D (wC ad cy fr bk vw tk to fk fo kp sp lt ib rw cl nu tv tm ta ml tn ((ou, .inl (cy 2, 1, .inr (.inl og))) :: (od, .inl (cy 3, 1, .inr (.inr (.inr (.inl oh))))) :: wM am cy (nI 1) (cS mf mb mv) kp X tn ap le fc f1 f2 (biF kn on) ha ([]))) A s _ _ := g_swMC G
        refine W.widen (k := cells + 8) (n := slots + 400) (by omega) (by omega) ?_
        exact kk _ _ _ ⟨fr, bk, vw, tk, to, fk, fo, kp, sp, lt, ib, rw, cl, nu, tv, tm, ta, ml, tn, mf, mb, mv, kn, on, (nI 1), X, ap, le, fc, f1, f2, ha, og, oh, tx, hF, hT, hR, G⟩ (lv_sub hl [2, 3, 4, 5, 6, 7] rfl)
      · exact absurd c_646 (by decide)
    · exact absurd c_639 (by decide)
  · skip
    obtain ⟨a1, a2⟩ := hx9
    obtain ⟨k, hk, rfl⟩ := ir_ex (n := 3) a1 (by decide)
    have G : gW D (wC ad cy fr bk vw tk to fk fo kp sp lt ib rw cl nu tv tm ta ml tn ((ou, .inl (cy 2, 1, .inr (.inl og))) :: (od, .inl (cy 3, 1, .inr (.inr (.inr (.inl oh))))) :: wM am cy th (cS mf mb mv) kp X tn ap le fc f1 f2 (biF kn on) ha ([]))) A s _ _ := g_wc hw G
    refine W.eq (g2 := F0 m 613 ls [.int 2]) rfl ?_
    refine lv_istore (lv' := [(6, .int 2), (0, .ref b), (1, .ref (ad 0)), (2, .ref (am 0)), (3, .ref ou), (4, .ref od), (5, .int (nI li))]) hx hb dL_law_613 hl (by decide) rfl (fun ls hl => ?_)
    refine lv_aload_n hx hb dL_law_615 rfl (lv_at hl 3 rfl) ?_
    refine lv_aload_n hx hb dL_law_616 rfl (lv_at hl 1 rfl) ?_
    refine lv_iload hx hb dL_law_617 (lv_at hl 6 rfl) ?_
    refine lv_iconst (v := 1) hx hb dL_law_619 (by decide) ?_
    refine lv_iadd hx hb dL_law_620 ?_
    refine g_topi (x' := nI (li + 1)) (nI_add li 1) ?_
    refine va_sld hx hb hXs hbl hbA G.2.2 (vp_in_nI (n := li + 1) (by omega) (by omega)) dL_law_621 ?_
    refine g_topi (x' := nI k) (by rw [nI_clamp (n := li + 1) (by omega)]; exact hp0.symm) ?_
    refine lv_aload_n hx hb dL_law_622 rfl (lv_at hl 1 rfl) ?_
    refine lv_iload hx hb dL_law_623 (lv_at hl 6 rfl) ?_
    refine lv_iconst (v := 2) hx hb dL_law_625 (by decide) ?_
    refine lv_iadd hx hb dL_law_626 ?_
    refine g_topi (x' := nI (li + 2)) (nI_add li 2) ?_
    refine va_sld hx hb hXs hbl hbA G.2.2 (vp_in_nI (n := li + 2) (by omega) (by omega)) dL_law_627 ?_
    refine g_topi (x' := p1) (by rw [nI_clamp (n := li + 2) (by omega)]; exact hp1.symm) ?_
    have G : gW D (wM am cy th (cS mf mb mv) kp X tn ap le fc f1 f2 (biF kn on) ha ((ou, .inl (cy 2, 1, .inr (.inl og))) :: (od, .inl (cy 3, 1, .inr (.inr (.inr (.inl oh))))) :: wC ad cy fr bk vw tk to fk fo kp sp lt ib rw cl nu tv tm ta ml tn ([]))) A s _ _ := g_swCM G
    refine g_callV (As := [.int (nI k), .int p1]) (rest := []) (q0 := 0) C0 G (c_X5_turn_e2 l D cy (am := am) (mf := mf) (mb := mb) (mv := mv) (th := th) (sv := kp) (X := X) (ln := tn) (ap := ap) (le := le) (fc := fc) (f1 := f1) (f2 := f2) (ha := ha) (R := ((ou, .inl (cy 2, 1, .inr (.inl og))) :: (od, .inl (cy 3, 1, .inr (.inr (.inr (.inl oh))))) :: wC ad cy fr bk vw tk to fk fo kp sp lt ib rw cl nu tv tm ta ml tn ([]))) (B := biF kn on) (k := k) (p1 := p1) (by omega) (by rw [inB_ir (x := p1) (n := 3) (hi := 3) rfl (by decide)]; exact a2)) k_X5_turn ml_L_128 rfl rfl dL_law_628 rfl rfl hl.1 (Nat.le_of_ble_eq_true rfl) ⟨Nat.le_of_ble_eq_true rfl, Nat.le_of_ble_eq_true rfl⟩ ⟨(by show _ ≤ 601024; omega), (by show _ ≤ 7293034; omega)⟩ (fun r W2 H locs hp G => ?_)
    obtain ⟨rfl, hw⟩ := hp
    have G := g_wc hw G
    refine W.eq (g2 := F0 m 631 ls [.int 0]) rfl ?_
    refine lv_istore (lv' := [(7, .int 0), (6, .int 2), (0, .ref b), (1, .ref (ad 0)), (2, .ref (am 0)), (3, .ref ou), (4, .ref od), (5, .int (nI li))]) hx hb dL_law_631 hl (by decide) rfl (fun ls hl => ?_)
    refine lv_aload_n hx hb dL_law_633 rfl (lv_at hl 4 rfl) ?_
    refine g_callV (As := []) (rest := []) (q0 := 0) C0 G (c_X5_thrown l D cy (am := am) (mf := mf) (mb := mb) (mv := mv) (th := nI 2) (sv := kp) (X := X) (ln := tn) (ap := ap) (le := le) (fc := fc) (f1 := f1) (f2 := f2) (ha := ha) (R := ((ou, .inl (cy 2, 1, .inr (.inl og))) :: (od, .inl (cy 3, 1, .inr (.inr (.inr (.inl oh))))) :: wC ad cy fr bk vw tk to fk fo kp sp lt ib rw cl nu tv tm ta ml tn ([]))) (B := biF kn on)  ) k_X5_thrown ml_L_106 rfl rfl dL_law_634 rfl rfl hl.1 (Nat.le_of_ble_eq_true rfl) ⟨Nat.le_of_ble_eq_true rfl, Nat.le_of_ble_eq_true rfl⟩ ⟨(by show _ ≤ 601024; omega), (by show _ ≤ 7293034; omega)⟩ (fun r W2 H locs hp G => ?_)
    obtain ⟨rfl, hw⟩ := hp
    have G := g_wc hw G
    refine W.eq (g2 := F0 m 637 ls [.int (nI 2)]) rfl ?_
    refine g_topi (x' := 2) rfl ?_
    refine lv_iload hx hb dL_law_637 (lv_at hl 1 rfl) ?_
    refine lv_icmp_eq (tgt := 644) hx hb dL_law_639 (by decide) (fun c_639 => ?_) (fun c_639 => ?_)
    · skip
      refine lv_iload hx hb dL_law_644 (lv_at hl 1 rfl) ?_
      refine lv_if_ne (tgt := 661) hx hb dL_law_646 (by decide) (fun c_646 => ?_) (fun c_646 => ?_)
      · skip
        refine lv_goto (tgt := 1897) hx hb dL_law_661 (by decide) ?_
        have G : gW D (wC ad cy fr bk vw tk to fk fo kp sp lt ib rw cl nu tv tm ta ml tn ((ou, .inl (cy 2, 1, .inr (.inl og))) :: (od, .inl (cy 3, 1, .inr (.inr (.inr (.inl oh))))) :: wM am cy (nI 2) (cS mf mb mv) kp X tn ap le fc f1 f2 (biF kn on) ha ([]))) A s _ _ := g_swMC G
        refine W.widen (k := cells + 8) (n := slots + 400) (by omega) (by omega) ?_
        exact kk _ _ _ ⟨fr, bk, vw, tk, to, fk, fo, kp, sp, lt, ib, rw, cl, nu, tv, tm, ta, ml, tn, mf, mb, mv, kn, on, (nI 2), X, ap, le, fc, f1, f2, ha, og, oh, tx, hF, hT, hR, G⟩ (lv_sub hl [2, 3, 4, 5, 6, 7] rfl)
      · exact absurd c_646 (by decide)
    · exact absurd c_639 (by decide)

set_option maxHeartbeats 4000000 in
set_option maxRecDepth 100000 in
theorem lw_c7 {p : Program} {l : Launch} {e : Env} {s : State} {m : MethodId} {below : List Frame} {meth : Method} {c : Code} {H : Heap} {locs : List Loc} {cells slots : Nat} {Q : State → Prop} {D : va_G} {cy : Nat → ClassId} {A : Nat → Prop} {ad am : Nat → Nat} {ou od b L li : Nat} {xs : Nat → Int32} {ls : Array Slot} (C0 : gC p s m #[.ref b] meth c code 9 (some .boolean) RL D (gts cy) A) (hst : l.stackTraces = false) (hXs : va_X b L xs s s.heap) (hbl : b < s.heap.size) (hbA : ¬ A b) (hli : li + 3 < L) (hL : L ≤ 2048) (hce : cells + 8 ≤ 601024) (hsl : slots + 400 ≤ 7293034) (I : lwI D A s cy ad am ou od H locs) (hl : lv_has ls 9 [(0, .ref b), (1, .ref (ad 0)), (2, .ref (am 0)), (3, .ref ou), (4, .ref od), (5, .int (nI li))])
    (kk : ∀ (H : Heap) (locs : List Loc) (ls : Array Slot), lwI D A s cy ad am ou od H locs → lv_has ls 9 [(0, .ref b), (1, .ref (ad 0)), (2, .ref (am 0)), (3, .ref ou), (4, .ref od), (5, .int (nI li))] → W p l e room_1 s m #[.ref b] below meth c H locs (cells + 8) (slots + 400) Q (F0 m 1897 ls [])) : W p l e room_1 s m #[.ref b] below meth c H locs cells slots Q (F0 m 664 ls []) := by
  obtain ⟨fr, bk, vw, tk, to, fk, fo, kp, sp, lt, ib, rw, cl, nu, tv, tm, ta, ml, tn, mf, mb, mv, kn, on, th, X, ap, le, fc, f1, f2, ha, og, oh, tx, hF, hT, hR, G⟩ := I
  have hx := C0.1
  have hb := C0.2.1
  have hown := C0.2.2.2.2.2.1
  have hts := C0.2.2.2.2.2.2.1
  have hRs : rsOk (0, lt, ib, rw, cl, nu) := ⟨by show 0 < 9; decide, hR.2⟩
  have hkp := hF.1
  have h60 := hT.2.2.1
  have htm := hT.1
  obtain ⟨p0, hp0⟩ : ∃ z : Int32, z = xs (li + 1) := ⟨_, rfl⟩
  refine lv_aload_n hx hb dL_law_664 rfl (lv_at hl 1 rfl) ?_
  refine lv_aload_n hx hb dL_law_665 rfl (lv_at hl 0 rfl) ?_
  refine lv_iload hx hb dL_law_666 (lv_at hl 5 rfl) ?_
  refine lv_iconst (v := 1) hx hb dL_law_668 (by decide) ?_
  refine lv_iadd hx hb dL_law_669 ?_
  refine g_topi (x' := nI (li + 1)) (nI_add li 1) ?_
  refine va_sld hx hb hXs hbl hbA G.2.2 (vp_in_nI (n := li + 1) (by omega) (by omega)) dL_law_670 ?_
  refine g_topi (x' := p0) (by rw [nI_clamp (n := li + 1) (by omega)]; exact hp0.symm) ?_
  refine lv_aload_n hx hb dL_law_671 rfl (lv_at hl 3 rfl) ?_
  refine g_callH (As := [.ref (ad 0), .int p0, .ref ou]) (rest := []) C0 G (c_L_view l D cy (ad := ad) (fr := fr) (bk := bk) (vw := vw) (tk := tk) (to := to) (fk := fk) (fo := fo) (kp := kp) (sp := sp) (lt := lt) (ib := ib) (rw := rw) (cl := cl) (nu := nu) (tv := tv) (tm := tm) (ta := ta) (ml := ml) (tn := tn) (R := wM am cy th (cS mf mb mv) kp X tn ap le fc f1 f2 (biF kn on) ha ([])) (ou := ou) (od := od) (og := og) (oh := oh) (p0 := p0) hst) k_L_view ml_L_129 dL_law_672 rfl rfl hl.1 (Nat.le_of_ble_eq_true rfl) ⟨Nat.le_of_ble_eq_true rfl, Nat.le_of_ble_eq_true rfl⟩ ⟨(by show _ ≤ 601024; omega), (by show _ ≤ 7293034; omega)⟩ (fun r W2 H locs hp G => ?_)
  rcases hp with ⟨k, hk, rfl, rfl, hw⟩ | ⟨rfl, hw, hx9⟩
  · skip
    obtain ⟨eF, eB, eV, hv4⟩ := hF.2 k (by omega)
    have G : gW D (wC ad cy fr bk vw tk to fk fo kp sp lt ib rw cl nu tv tm ta ml tn ((ou, .inl (cy 2, 1, .inr (.inl (vp_updL og 0 (nI (vw k)).toInt64)))) :: (od, .inl (cy 3, 1, .inr (.inr (.inr (.inl oh))))) :: wM am cy th (cS mf mb mv) kp X tn ap le fc f1 f2 (biF kn on) ha ([]))) A s _ _ := g_wc hw G
    refine W.eq (g2 := F0 m 675 ls [.int 0]) rfl ?_
    refine lv_istore (lv' := [(6, .int 0), (0, .ref b), (1, .ref (ad 0)), (2, .ref (am 0)), (3, .ref ou), (4, .ref od), (5, .int (nI li))]) hx hb dL_law_675 hl (by decide) rfl (fun ls hl => ?_)
    refine lv_aload_n hx hb dL_law_677 rfl (lv_at hl 3 rfl) ?_
    refine lv_aload_n hx hb dL_law_678 rfl (lv_at hl 1 rfl) ?_
    refine lv_iload hx hb dL_law_679 (lv_at hl 6 rfl) ?_
    refine lv_iconst (v := 1) hx hb dL_law_681 (by decide) ?_
    refine lv_iadd hx hb dL_law_682 ?_
    refine g_topi (x' := nI (li + 1)) (nI_add li 1) ?_
    refine va_sld hx hb hXs hbl hbA G.2.2 (vp_in_nI (n := li + 1) (by omega) (by omega)) dL_law_683 ?_
    refine g_topi (x' := nI k) (by rw [nI_clamp (n := li + 1) (by omega)]; exact hp0.symm) ?_
    have G : gW D (wM am cy th (cS mf mb mv) kp X tn ap le fc f1 f2 (biF kn on) ha ((ou, .inl (cy 2, 1, .inr (.inl (vp_updL og 0 (nI (vw k)).toInt64)))) :: (od, .inl (cy 3, 1, .inr (.inr (.inr (.inl oh))))) :: wC ad cy fr bk vw tk to fk fo kp sp lt ib rw cl nu tv tm ta ml tn ([]))) A s _ _ := g_swCM G
    refine g_callV (As := [.int (nI k)]) (rest := []) (q0 := 0) C0 G (c_X5_view_ok l D cy (am := am) (mf := mf) (mb := mb) (mv := mv) (th := th) (sv := kp) (X := X) (ln := tn) (ap := ap) (le := le) (fc := fc) (f1 := f1) (f2 := f2) (ha := ha) (R := ((ou, .inl (cy 2, 1, .inr (.inl (vp_updL og 0 (nI (vw k)).toInt64)))) :: (od, .inl (cy 3, 1, .inr (.inr (.inr (.inl oh))))) :: wC ad cy fr bk vw tk to fk fo kp sp lt ib rw cl nu tv tm ta ml tn ([]))) (B := biF kn on) (k := k) (by omega)) k_X5_view ml_L_131 rfl rfl dL_law_684 rfl rfl hl.1 (Nat.le_of_ble_eq_true rfl) ⟨Nat.le_of_ble_eq_true rfl, Nat.le_of_ble_eq_true rfl⟩ ⟨(by show _ ≤ 601024; omega), (by show _ ≤ 7293034; omega)⟩ (fun r W2 H locs hp G => ?_)
    obtain ⟨rfl, hw⟩ := hp
    have G := g_wc hw G
    refine W.eq (g2 := F0 m 687 ls [.int (nI (mv k))]) rfl ?_
    refine lv_istore (lv' := [(7, .int (nI (mv k))), (6, .int 0), (0, .ref b), (1, .ref (ad 0)), (2, .ref (am 0)), (3, .ref ou), (4, .ref od), (5, .int (nI li))]) hx hb dL_law_687 hl (by decide) rfl (fun ls hl => ?_)
    refine lv_aload_n hx hb dL_law_689 rfl (lv_at hl 4 rfl) ?_
    refine g_callV (As := []) (rest := []) (q0 := 0) C0 G (c_X5_thrown l D cy (am := am) (mf := mf) (mb := mb) (mv := mv) (th := nI 0) (sv := kp) (X := X) (ln := tn) (ap := ap) (le := le) (fc := fc) (f1 := f1) (f2 := f2) (ha := ha) (R := ((ou, .inl (cy 2, 1, .inr (.inl (vp_updL og 0 (nI (vw k)).toInt64)))) :: (od, .inl (cy 3, 1, .inr (.inr (.inr (.inl oh))))) :: wC ad cy fr bk vw tk to fk fo kp sp lt ib rw cl nu tv tm ta ml tn ([]))) (B := biF kn on)  ) k_X5_thrown ml_L_106 rfl rfl dL_law_690 rfl rfl hl.1 (Nat.le_of_ble_eq_true rfl) ⟨Nat.le_of_ble_eq_true rfl, Nat.le_of_ble_eq_true rfl⟩ ⟨(by show _ ≤ 601024; omega), (by show _ ≤ 7293034; omega)⟩ (fun r W2 H locs hp G => ?_)
    obtain ⟨rfl, hw⟩ := hp
    have G := g_wc hw G
    refine W.eq (g2 := F0 m 693 ls [.int (nI 0)]) rfl ?_
    refine g_topi (x' := 0) rfl ?_
    refine lv_iload hx hb dL_law_693 (lv_at hl 1 rfl) ?_
    refine lv_icmp_eq (tgt := 700) hx hb dL_law_695 (by decide) (fun c_695 => ?_) (fun c_695 => ?_)
    · skip
      refine lv_iload hx hb dL_law_700 (lv_at hl 1 rfl) ?_
      refine lv_if_ne (tgt := 717) hx hb dL_law_702 (by decide) (fun c_702 => ?_) (fun c_702 => ?_)
      · exact absurd c_702 (by decide)
      · skip
        refine lv_aload_n hx hb dL_law_705 rfl (lv_at hl 5 rfl) ?_
        refine lv_iconst (v := 0) hx hb dL_law_706 (by decide) ?_
        refine g_topi (x' := nI 0) rfl ?_
        refine g_lald (q0 := 4) (n := 1) C0 G rfl 2 rfl (vp_in_nI (n := 0) (by omega) (by decide)) dL_law_707 ?_
        refine g_topl (x' := (vp_updL og 0 (nI (vw k)).toInt64) 0) (congrArg (vp_updL og 0 (nI (vw k)).toInt64) (nI_clamp (n := 0) (by omega))) ?_
        refine g_topl (x' := (nI (vw k)).toInt64) (if_pos rfl) ?_
        refine lv_iload hx hb dL_law_708 (lv_at hl 0 rfl) ?_
        refine lv_i2l hx hb dL_law_710 rfl ?_
        refine W.lcmp hx hb dL_law_711 ?_
        refine lv_if_eq (tgt := 717) hx hb dL_law_712 (by decide) (fun c_712 => ?_) (fun c_712 => ?_)
        · skip
          have c_712 : ((nI (vw k)).toInt64) = ((nI (mv k)).toInt64) := lgc_eq.mp c_712
          refine lv_goto (tgt := 1897) hx hb dL_law_717 (by decide) ?_
          have G : gW D (wC ad cy fr bk vw tk to fk fo kp sp lt ib rw cl nu tv tm ta ml tn ((ou, .inl (cy 2, 1, .inr (.inl (vp_updL og 0 (nI (vw k)).toInt64)))) :: (od, .inl (cy 3, 1, .inr (.inr (.inr (.inl oh))))) :: wM am cy (nI 0) (cS mf mb mv) kp X tn ap le fc f1 f2 (biF kn on) ha ([]))) A s _ _ := g_swMC G
          refine W.widen (k := cells + 8) (n := slots + 400) (by omega) (by omega) ?_
          exact kk _ _ _ ⟨fr, bk, vw, tk, to, fk, fo, kp, sp, lt, ib, rw, cl, nu, tv, tm, ta, ml, tn, mf, mb, mv, kn, on, (nI 0), X, ap, le, fc, f1, f2, ha, (vp_updL og 0 (nI (vw k)).toInt64), oh, tx, hF, hT, hR, G⟩ (lv_sub hl [2, 3, 4, 5, 6, 7] rfl)
        · skip
          have c_712 : ¬ ((nI (vw k)).toInt64) = ((nI (mv k)).toInt64) := fun h => c_712 (lgc_eq.mpr h)
          exact absurd (by first | (simp only [mSv_sa, saU_lo hk, ← eF, ← eB, ← eV]; done) | (simp only [mSv_sa, saU_lo hk, ← eF, ← eB, ← eV]; rfl) | rfl) c_712
    · exact absurd c_695 (by decide)
  · skip
    have G : gW D (wC ad cy fr bk vw tk to fk fo kp sp lt ib rw cl nu tv tm ta ml tn ((ou, .inl (cy 2, 1, .inr (.inl og))) :: (od, .inl (cy 3, 1, .inr (.inr (.inr (.inl oh))))) :: wM am cy th (cS mf mb mv) kp X tn ap le fc f1 f2 (biF kn on) ha ([]))) A s _ _ := g_wc hw G
    refine W.eq (g2 := F0 m 675 ls [.int 1]) rfl ?_
    refine lv_istore (lv' := [(6, .int 1), (0, .ref b), (1, .ref (ad 0)), (2, .ref (am 0)), (3, .ref ou), (4, .ref od), (5, .int (nI li))]) hx hb dL_law_675 hl (by decide) rfl (fun ls hl => ?_)
    refine lv_aload_n hx hb dL_law_677 rfl (lv_at hl 3 rfl) ?_
    refine lv_aload_n hx hb dL_law_678 rfl (lv_at hl 1 rfl) ?_
    refine lv_iload hx hb dL_law_679 (lv_at hl 6 rfl) ?_
    refine lv_iconst (v := 1) hx hb dL_law_681 (by decide) ?_
    refine lv_iadd hx hb dL_law_682 ?_
    refine g_topi (x' := nI (li + 1)) (nI_add li 1) ?_
    refine va_sld hx hb hXs hbl hbA G.2.2 (vp_in_nI (n := li + 1) (by omega) (by omega)) dL_law_683 ?_
    refine g_topi (x' := p0) (by rw [nI_clamp (n := li + 1) (by omega)]; exact hp0.symm) ?_
    have G : gW D (wM am cy th (cS mf mb mv) kp X tn ap le fc f1 f2 (biF kn on) ha ((ou, .inl (cy 2, 1, .inr (.inl og))) :: (od, .inl (cy 3, 1, .inr (.inr (.inr (.inl oh))))) :: wC ad cy fr bk vw tk to fk fo kp sp lt ib rw cl nu tv tm ta ml tn ([]))) A s _ _ := g_swCM G
    refine g_callV (As := [.int p0]) (rest := []) (q0 := 0) C0 G (c_X5_view_e1 l D cy (am := am) (mf := mf) (mb := mb) (mv := mv) (th := th) (sv := kp) (X := X) (ln := tn) (ap := ap) (le := le) (fc := fc) (f1 := f1) (f2 := f2) (ha := ha) (R := ((ou, .inl (cy 2, 1, .inr (.inl og))) :: (od, .inl (cy 3, 1, .inr (.inr (.inr (.inl oh))))) :: wC ad cy fr bk vw tk to fk fo kp sp lt ib rw cl nu tv tm ta ml tn ([]))) (B := biF kn on) (p0 := p0) (by rw [inB_ir (x := p0) (n := 2) (hi := 2) rfl (by decide)]; exact hx9)) k_X5_view ml_L_131 rfl rfl dL_law_684 rfl rfl hl.1 (Nat.le_of_ble_eq_true rfl) ⟨Nat.le_of_ble_eq_true rfl, Nat.le_of_ble_eq_true rfl⟩ ⟨(by show _ ≤ 601024; omega), (by show _ ≤ 7293034; omega)⟩ (fun r W2 H locs hp G => ?_)
    obtain ⟨rfl, hw⟩ := hp
    have G := g_wc hw G
    refine W.eq (g2 := F0 m 687 ls [.int 0]) rfl ?_
    refine lv_istore (lv' := [(7, .int 0), (6, .int 1), (0, .ref b), (1, .ref (ad 0)), (2, .ref (am 0)), (3, .ref ou), (4, .ref od), (5, .int (nI li))]) hx hb dL_law_687 hl (by decide) rfl (fun ls hl => ?_)
    refine lv_aload_n hx hb dL_law_689 rfl (lv_at hl 4 rfl) ?_
    refine g_callV (As := []) (rest := []) (q0 := 0) C0 G (c_X5_thrown l D cy (am := am) (mf := mf) (mb := mb) (mv := mv) (th := nI 1) (sv := kp) (X := X) (ln := tn) (ap := ap) (le := le) (fc := fc) (f1 := f1) (f2 := f2) (ha := ha) (R := ((ou, .inl (cy 2, 1, .inr (.inl og))) :: (od, .inl (cy 3, 1, .inr (.inr (.inr (.inl oh))))) :: wC ad cy fr bk vw tk to fk fo kp sp lt ib rw cl nu tv tm ta ml tn ([]))) (B := biF kn on)  ) k_X5_thrown ml_L_106 rfl rfl dL_law_690 rfl rfl hl.1 (Nat.le_of_ble_eq_true rfl) ⟨Nat.le_of_ble_eq_true rfl, Nat.le_of_ble_eq_true rfl⟩ ⟨(by show _ ≤ 601024; omega), (by show _ ≤ 7293034; omega)⟩ (fun r W2 H locs hp G => ?_)
    obtain ⟨rfl, hw⟩ := hp
    have G := g_wc hw G
    refine W.eq (g2 := F0 m 693 ls [.int (nI 1)]) rfl ?_
    refine g_topi (x' := 1) rfl ?_
    refine lv_iload hx hb dL_law_693 (lv_at hl 1 rfl) ?_
    refine lv_icmp_eq (tgt := 700) hx hb dL_law_695 (by decide) (fun c_695 => ?_) (fun c_695 => ?_)
    · skip
      refine lv_iload hx hb dL_law_700 (lv_at hl 1 rfl) ?_
      refine lv_if_ne (tgt := 717) hx hb dL_law_702 (by decide) (fun c_702 => ?_) (fun c_702 => ?_)
      · skip
        refine lv_goto (tgt := 1897) hx hb dL_law_717 (by decide) ?_
        have G : gW D (wC ad cy fr bk vw tk to fk fo kp sp lt ib rw cl nu tv tm ta ml tn ((ou, .inl (cy 2, 1, .inr (.inl og))) :: (od, .inl (cy 3, 1, .inr (.inr (.inr (.inl oh))))) :: wM am cy (nI 1) (cS mf mb mv) kp X tn ap le fc f1 f2 (biF kn on) ha ([]))) A s _ _ := g_swMC G
        refine W.widen (k := cells + 8) (n := slots + 400) (by omega) (by omega) ?_
        exact kk _ _ _ ⟨fr, bk, vw, tk, to, fk, fo, kp, sp, lt, ib, rw, cl, nu, tv, tm, ta, ml, tn, mf, mb, mv, kn, on, (nI 1), X, ap, le, fc, f1, f2, ha, og, oh, tx, hF, hT, hR, G⟩ (lv_sub hl [2, 3, 4, 5, 6, 7] rfl)
      · exact absurd c_702 (by decide)
    · exact absurd c_695 (by decide)
