set_option maxHeartbeats 4000000 in
set_option maxRecDepth 100000 in
theorem c_X4_cardAt (l : Launch) (D : va_G) (cy : Nat → ClassId) (ad : Nat → Nat) (fr : Nat → Int64) (bk : Nat → Int64) (vw : Nat → Nat) (tk : Int64) (to : Int64) (fk : Int64) (fo : Int64) (kp : Nat) (sp : Nat) (lt : Nat) (ib : Bool) (rw : Nat) (cl : Nat) (nu : Nat) (tv : Nat) (tm : Nat) (ta : Nat → Int32) (ml : Int32) (tn : Nat) (R : va_W) (p0 : Int32) (hst : l.stackTraces = false) : GX l D (gts cy) yX4_cardAt cX4_cardAt 2 (some (.object "MirrorCards$Card")) 0 1 6 [.ref (ad 0), .int p0] (wC ad cy fr bk vw tk to fk fo kp sp lt ib rw cl nu tv tm ta ml tn R) (fun r W2 => W2 = wC ad cy fr bk vw tk to fk fo kp sp lt ib rw cl nu tv tm ta ml tn R ∧ ∃ k : Nat, k < 3 ∧ p0 = nI k ∧ r = some (.ref (ad (10 + k)))) (fun E => E = "java/lang/IndexOutOfBoundsException" ∧ ir p0 3 = false) := by
  refine g_introX (by decide +kernel) (lv := [(0, .ref (ad 0)), (1, .int p0)]) rfl (Nat.le_of_ble_eq_true rfl) ?_
  intro p e s m below meth c C0 hno G ls hl
  have hx := C0.1
  have hb := C0.2.1
  have hown := C0.2.2.2.2.2.1
  have hts := C0.2.2.2.2.2.2.1
  refine lv_iload_n hx hb dX4_cardAt_0 rfl (lv_at hl 1 rfl) ?_
  refine lv_if_lt (tgt := 13) hx hb dX4_cardAt_1 (by decide) (fun c_1 => ?_) (fun c_1 => ?_)
  · skip
    exact g_throwSW (names := ["java/lang/RuntimeException", "java/lang/Exception"]) C0 hst hno G hl.1 (by decide +kernel) (by decide +kernel) tw_ioobe xl_X4_171 ti_ioobe ⟨rfl, sr_263⟩ dX4_cardAt_13 dX4_cardAt_16 dX4_cardAt_17 dX4_cardAt_20 dX4_cardAt_23 ⟨(Nat.le_of_ble_eq_true rfl), (Nat.le_of_ble_eq_true rfl)⟩ (Nat.le_of_ble_eq_true rfl) (Nat.le_of_ble_eq_true rfl) ⟨rfl, by first | exact ir_lo c_1 | exact ir_hi (n := 3) c_10⟩ (Nat.le_of_ble_eq_true rfl) (Nat.le_of_ble_eq_true rfl)
  · skip
    refine lv_iload_n hx hb dX4_cardAt_4 rfl (lv_at hl 1 rfl) ?_
    refine lv_aload_n hx hb dX4_cardAt_5 rfl (lv_at hl 0 rfl) ?_
    refine g_get (q0 := 0) (v := .ref (ad 1)) C0 G in_X4 rfl rfl 0 (by decide) fl_X4_11 (fun _ h => h) rfl dX4_cardAt_6 ?_
    refine g_alen (q0 := 1) (v := 3) C0 G rfl 4 rfl rfl dX4_cardAt_9 ?_
    refine lv_icmp_lt (tgt := 24) hx hb dX4_cardAt_10 (by decide) (fun c_10 => ?_) (fun c_10 => ?_)
    · skip
      obtain ⟨k, hk, rfl⟩ := ir_y (n := 3) (by decide) c_1 c_10
      refine lv_aload_n hx hb dX4_cardAt_24 rfl (lv_at hl 0 rfl) ?_
      refine g_get (q0 := 0) (v := .ref (ad 1)) C0 G in_X4 rfl rfl 0 (by decide) fl_X4_11 (fun _ h => h) rfl dX4_cardAt_25 ?_
      refine lv_iload_n hx hb dX4_cardAt_28 rfl (lv_at hl 1 rfl) ?_
      refine g_aldq (q0 := 1) (n := 3) C0 G rfl 4 rfl (vp_in_nI (n := k) (by omega) (by decide)) dX4_cardAt_29 ?_
      refine g_topv (x' := .ref (ad (10 + k))) (congrArg (fun z => va_rf ((fun j => some (ad (10 + j))) z)) (nI_clamp (n := k) (by omega))) ?_
      refine W.widen (k := 1) (n := 6) (Nat.le_of_ble_eq_true rfl) (Nat.le_of_ble_eq_true rfl) ?_
      exact vx_ret (g_aret C0 G (Or.inl ⟨_, rfl⟩) ⟨rfl, k, hk, rfl, rfl⟩ dX4_cardAt_30)
    · skip
      exact g_throwSW (names := ["java/lang/RuntimeException", "java/lang/Exception"]) C0 hst hno G hl.1 (by decide +kernel) (by decide +kernel) tw_ioobe xl_X4_171 ti_ioobe ⟨rfl, sr_263⟩ dX4_cardAt_13 dX4_cardAt_16 dX4_cardAt_17 dX4_cardAt_20 dX4_cardAt_23 ⟨(Nat.le_of_ble_eq_true rfl), (Nat.le_of_ble_eq_true rfl)⟩ (Nat.le_of_ble_eq_true rfl) (Nat.le_of_ble_eq_true rfl) ⟨rfl, by first | exact ir_lo c_1 | exact ir_hi (n := 3) c_10⟩ (Nat.le_of_ble_eq_true rfl) (Nat.le_of_ble_eq_true rfl)

set_option maxHeartbeats 4000000 in
set_option maxRecDepth 100000 in
theorem c_X4_requireInSide (l : Launch) (D : va_G) (cy : Nat → ClassId) (W1 : va_W) (p0 : Int32) (hst : l.stackTraces = false) : GX l D (gts cy) yX4_requireInSide cX4_requireInSide 1 none 0 1 6 [.int p0] (W1) (fun r W2 => r = none ∧ W2 = W1 ∧ ∃ j : Nat, j < 8 ∧ p0 = nI j) (fun E => E = "java/lang/IndexOutOfBoundsException" ∧ ir p0 8 = false) := by
  refine g_introX (by decide +kernel) (lv := [(0, .int p0)]) rfl (Nat.le_of_ble_eq_true rfl) ?_
  intro p e s m below meth c C0 hno G ls hl
  have hx := C0.1
  have hb := C0.2.1
  have hown := C0.2.2.2.2.2.1
  have hts := C0.2.2.2.2.2.2.1
  refine lv_iload_n hx hb dX4_requireInSide_0 rfl (lv_at hl 0 rfl) ?_
  refine lv_if_lt (tgt := 10) hx hb dX4_requireInSide_1 (by decide) (fun c_1 => ?_) (fun c_1 => ?_)
  · skip
    exact g_throwSW (names := ["java/lang/RuntimeException", "java/lang/Exception"]) C0 hst hno G hl.1 (by decide +kernel) (by decide +kernel) tw_ioobe xl_X4_171 ti_ioobe ⟨rfl, sr_269⟩ dX4_requireInSide_10 dX4_requireInSide_13 dX4_requireInSide_14 dX4_requireInSide_17 dX4_requireInSide_20 ⟨(Nat.le_of_ble_eq_true rfl), (Nat.le_of_ble_eq_true rfl)⟩ (Nat.le_of_ble_eq_true rfl) (Nat.le_of_ble_eq_true rfl) ⟨rfl, by first | exact ir_lo c_1 | exact ir_hi (n := 8) c_7⟩ (Nat.le_of_ble_eq_true rfl) (Nat.le_of_ble_eq_true rfl)
  · skip
    refine lv_iload_n hx hb dX4_requireInSide_4 rfl (lv_at hl 0 rfl) ?_
    refine lv_bipush (v := 8) hx hb dX4_requireInSide_5 (by decide) ?_
    refine lv_icmp_lt (tgt := 21) hx hb dX4_requireInSide_7 (by decide) (fun c_7 => ?_) (fun c_7 => ?_)
    · skip
      obtain ⟨j, hj, rfl⟩ := ir_y (n := 8) (by decide) c_1 c_7
      refine W.widen (k := 1) (n := 6) (Nat.le_of_ble_eq_true rfl) (Nat.le_of_ble_eq_true rfl) ?_
      exact vx_ret (g_vret C0 G ⟨rfl, rfl, j, hj, rfl⟩ dX4_requireInSide_21)
    · skip
      exact g_throwSW (names := ["java/lang/RuntimeException", "java/lang/Exception"]) C0 hst hno G hl.1 (by decide +kernel) (by decide +kernel) tw_ioobe xl_X4_171 ti_ioobe ⟨rfl, sr_269⟩ dX4_requireInSide_10 dX4_requireInSide_13 dX4_requireInSide_14 dX4_requireInSide_17 dX4_requireInSide_20 ⟨(Nat.le_of_ble_eq_true rfl), (Nat.le_of_ble_eq_true rfl)⟩ (Nat.le_of_ble_eq_true rfl) (Nat.le_of_ble_eq_true rfl) ⟨rfl, by first | exact ir_lo c_1 | exact ir_hi (n := 8) c_7⟩ (Nat.le_of_ble_eq_true rfl) (Nat.le_of_ble_eq_true rfl)

set_option maxHeartbeats 4000000 in
set_option maxRecDepth 100000 in
theorem c_X4_requireRowWithValue (l : Launch) (D : va_G) (cy : Nat → ClassId) (W1 : va_W) (p0 : Int32) (hst : l.stackTraces = false) : GX l D (gts cy) yX4_requireRowWithValue cX4_requireRowWithValue 1 none 0 1 6 [.int p0] (W1) (fun r W2 => r = none ∧ W2 = W1 ∧ ∃ j : Nat, j < 7 ∧ p0 = nI j) (fun E => E = "java/lang/IndexOutOfBoundsException" ∧ ir p0 7 = false) := by
  refine g_introX (by decide +kernel) (lv := [(0, .int p0)]) rfl (Nat.le_of_ble_eq_true rfl) ?_
  intro p e s m below meth c C0 hno G ls hl
  have hx := C0.1
  have hb := C0.2.1
  have hown := C0.2.2.2.2.2.1
  have hts := C0.2.2.2.2.2.2.1
  refine lv_iload_n hx hb dX4_requireRowWithValue_0 rfl (lv_at hl 0 rfl) ?_
  refine lv_if_lt (tgt := 10) hx hb dX4_requireRowWithValue_1 (by decide) (fun c_1 => ?_) (fun c_1 => ?_)
  · skip
    exact g_throwSW (names := ["java/lang/RuntimeException", "java/lang/Exception"]) C0 hst hno G hl.1 (by decide +kernel) (by decide +kernel) tw_ioobe xl_X4_171 ti_ioobe ⟨rfl, sr_271⟩ dX4_requireRowWithValue_10 dX4_requireRowWithValue_13 dX4_requireRowWithValue_14 dX4_requireRowWithValue_17 dX4_requireRowWithValue_20 ⟨(Nat.le_of_ble_eq_true rfl), (Nat.le_of_ble_eq_true rfl)⟩ (Nat.le_of_ble_eq_true rfl) (Nat.le_of_ble_eq_true rfl) ⟨rfl, by first | exact ir_lo c_1 | exact ir_hi (n := 7) c_7⟩ (Nat.le_of_ble_eq_true rfl) (Nat.le_of_ble_eq_true rfl)
  · skip
    refine lv_iload_n hx hb dX4_requireRowWithValue_4 rfl (lv_at hl 0 rfl) ?_
    refine lv_bipush (v := 7) hx hb dX4_requireRowWithValue_5 (by decide) ?_
    refine lv_icmp_lt (tgt := 21) hx hb dX4_requireRowWithValue_7 (by decide) (fun c_7 => ?_) (fun c_7 => ?_)
    · skip
      obtain ⟨j, hj, rfl⟩ := ir_y (n := 7) (by decide) c_1 c_7
      refine W.widen (k := 1) (n := 6) (Nat.le_of_ble_eq_true rfl) (Nat.le_of_ble_eq_true rfl) ?_
      exact vx_ret (g_vret C0 G ⟨rfl, rfl, j, hj, rfl⟩ dX4_requireRowWithValue_21)
    · skip
      exact g_throwSW (names := ["java/lang/RuntimeException", "java/lang/Exception"]) C0 hst hno G hl.1 (by decide +kernel) (by decide +kernel) tw_ioobe xl_X4_171 ti_ioobe ⟨rfl, sr_271⟩ dX4_requireRowWithValue_10 dX4_requireRowWithValue_13 dX4_requireRowWithValue_14 dX4_requireRowWithValue_17 dX4_requireRowWithValue_20 ⟨(Nat.le_of_ble_eq_true rfl), (Nat.le_of_ble_eq_true rfl)⟩ (Nat.le_of_ble_eq_true rfl) (Nat.le_of_ble_eq_true rfl) ⟨rfl, by first | exact ir_lo c_1 | exact ir_hi (n := 7) c_7⟩ (Nat.le_of_ble_eq_true rfl) (Nat.le_of_ble_eq_true rfl)

set_option maxHeartbeats 4000000 in
set_option maxRecDepth 100000 in
theorem c_X4_requireCell (l : Launch) (D : va_G) (cy : Nat → ClassId) (W1 : va_W) (p0 : Int32) (p1 : Int32) (hst : l.stackTraces = false) : GX l D (gts cy) yX4_requireCell cX4_requireCell 2 none 1 2 12 [.int p0, .int p1] (W1) (fun r W2 => r = none ∧ W2 = W1 ∧ ∃ i : Nat, i < 8 ∧ p0 = nI i ∧ ∃ j : Nat, j < 8 ∧ p1 = nI j) (fun E => E = "java/lang/IndexOutOfBoundsException" ∧ (ir p0 8 && ir p1 8) = false) := by
  refine g_introX (by decide +kernel) (lv := [(0, .int p0), (1, .int p1)]) rfl (Nat.le_of_ble_eq_true rfl) ?_
  intro p e s m below meth c C0 hno G ls hl
  have hx := C0.1
  have hb := C0.2.1
  have hown := C0.2.2.2.2.2.1
  have hts := C0.2.2.2.2.2.2.1
  refine lv_iload_n hx hb dX4_requireCell_0 rfl (lv_at hl 0 rfl) ?_
  refine g_callXS (As := [.int p0]) (rest := []) C0 G (c_X4_requireInSide l D cy (W1 := W1) (p0 := p0) hst) k_X4_requireInSide ml_X4_159 dX4_requireCell_1 rfl rfl hl.1 (Nat.le_of_ble_eq_true rfl) ⟨Nat.le_of_ble_eq_true rfl, Nat.le_of_ble_eq_true rfl⟩ ⟨Nat.le_of_ble_eq_true rfl, Nat.le_of_ble_eq_true rfl⟩ (fun E ce q9 H locs hx9 G hce hcv hcl => ?_) (fun r W2 H locs hp G => ?_)
  · exact g_out C0 G hno ⟨hx9.1, by rw [hx9.2]; rfl⟩ hce hcv hcl (Nat.le_of_ble_eq_true rfl) (Nat.le_of_ble_eq_true rfl)
  obtain ⟨rfl, hw, i, hi, rfl⟩ := hp
  have G := g_wc hw G
  refine W.eq (g2 := F0 m 4 ls []) rfl ?_
  refine lv_iload_n hx hb dX4_requireCell_4 rfl (lv_at hl 1 rfl) ?_
  refine g_callXS (As := [.int p1]) (rest := []) C0 G (c_X4_requireInSide l D cy (W1 := W1) (p0 := p1) hst) k_X4_requireInSide ml_X4_159 dX4_requireCell_5 rfl rfl hl.1 (Nat.le_of_ble_eq_true rfl) ⟨Nat.le_of_ble_eq_true rfl, Nat.le_of_ble_eq_true rfl⟩ ⟨Nat.le_of_ble_eq_true rfl, Nat.le_of_ble_eq_true rfl⟩ (fun E ce q9 H locs hx9 G hce hcv hcl => ?_) (fun r W2 H locs hp G => ?_)
  · exact g_out C0 G hno ⟨hx9.1, by rw [hx9.2, Bool.and_false]⟩ hce hcv hcl (Nat.le_of_ble_eq_true rfl) (Nat.le_of_ble_eq_true rfl)
  obtain ⟨rfl, hw, j, hj, rfl⟩ := hp
  have G := g_wc hw G
  refine W.eq (g2 := F0 m 8 ls []) rfl ?_
  exact vx_ret (g_vret C0 G ⟨rfl, rfl, i, hi, rfl, j, hj, rfl⟩ dX4_requireCell_8)

set_option maxHeartbeats 4000000 in
set_option maxRecDepth 100000 in
theorem c_X4_view (l : Launch) (D : va_G) (cy : Nat → ClassId) (ad : Nat → Nat) (fr : Nat → Int64) (bk : Nat → Int64) (vw : Nat → Nat) (tk : Int64) (to : Int64) (fk : Int64) (fo : Int64) (kp : Nat) (sp : Nat) (lt : Nat) (ib : Bool) (rw : Nat) (cl : Nat) (nu : Nat) (tv : Nat) (tm : Nat) (ta : Nat → Int32) (ml : Int32) (tn : Nat) (R : va_W) (p0 : Int32) (hst : l.stackTraces = false) : GX l D (gts cy) yX4_view cX4_view 2 (some .int) 1 4 24 [.ref (ad 0), .int p0] (wC ad cy fr bk vw tk to fk fo kp sp lt ib rw cl nu tv tm ta ml tn R) (fun r W2 => ∃ k : Nat, k < 3 ∧ p0 = nI k ∧ r = some (.int (nI (vw k))) ∧ W2 = wC ad cy fr bk vw tk to fk fo kp sp lt ib rw cl nu tv tm ta ml tn R) (fun E => E = "java/lang/IndexOutOfBoundsException" ∧ ir p0 3 = false) := by
  refine g_introX (by decide +kernel) (lv := [(0, .ref (ad 0)), (1, .int p0)]) rfl (Nat.le_of_ble_eq_true rfl) ?_
  intro p e s m below meth c C0 hno G ls hl
  have hx := C0.1
  have hb := C0.2.1
  have hown := C0.2.2.2.2.2.1
  have hts := C0.2.2.2.2.2.2.1
  refine lv_aload_n hx hb dX4_view_0 rfl (lv_at hl 0 rfl) ?_
  refine lv_iload_n hx hb dX4_view_1 rfl (lv_at hl 1 rfl) ?_
  refine g_callXV (As := [.int p0]) (rest := []) (q0 := 0) C0 G (c_X4_cardAt l D cy (ad := ad) (fr := fr) (bk := bk) (vw := vw) (tk := tk) (to := to) (fk := fk) (fo := fo) (kp := kp) (sp := sp) (lt := lt) (ib := ib) (rw := rw) (cl := cl) (nu := nu) (tv := tv) (tm := tm) (ta := ta) (ml := ml) (tn := tn) (R := R) (p0 := p0) hst) k_X4_cardAt ml_X4_47 rfl rfl dX4_view_2 rfl rfl hl.1 (Nat.le_of_ble_eq_true rfl) ⟨Nat.le_of_ble_eq_true rfl, Nat.le_of_ble_eq_true rfl⟩ ⟨Nat.le_of_ble_eq_true rfl, Nat.le_of_ble_eq_true rfl⟩ (fun E ce q9 H locs hx9 G hce hcv hcl => ?_) (fun r W2 H locs hp G => ?_)
  · exact g_out C0 G hno hx9 hce hcv hcl (Nat.le_of_ble_eq_true rfl) (Nat.le_of_ble_eq_true rfl)
  obtain ⟨hw, k, hk, rfl, rfl⟩ := hp
  have G := g_wc hw G
  refine W.eq (g2 := F0 m 5 ls [.ref (ad (10 + k))]) rfl ?_
  refine g_getN (q0 := k + 9) (v := .int (nI (vw k))) C0 G in_X0 (wC_at (k := k) (by omega)) rfl 2 (by decide) nf_X4_151 (fun _ h => h) rfl dX4_view_5 ?_
  refine W.widen (k := 4) (n := 24) (Nat.le_of_ble_eq_true rfl) (Nat.le_of_ble_eq_true rfl) ?_
  exact vx_ret (g_iret C0 G ⟨k, hk, rfl, rfl, rfl⟩ dX4_view_8)

set_option maxHeartbeats 4000000 in
set_option maxRecDepth 100000 in
theorem c_X4_untold (l : Launch) (D : va_G) (cy : Nat → ClassId) (ad : Nat → Nat) (fr : Nat → Int64) (bk : Nat → Int64) (vw : Nat → Nat) (tk : Int64) (to : Int64) (fk : Int64) (fo : Int64) (kp : Nat) (sp : Nat) (lt : Nat) (ib : Bool) (rw : Nat) (cl : Nat) (nu : Nat) (tv : Nat) (tm : Nat) (ta : Nat → Int32) (ml : Int32) (tn : Nat) (R : va_W) (p0 : Int32) (hst : l.stackTraces = false) : GX l D (gts cy) yX4_untold cX4_untold 2 (some .int) 5 4 24 [.ref (ad 0), .int p0] (wC ad cy fr bk vw tk to fk fo kp sp lt ib rw cl nu tv tm ta ml tn R) (fun r W2 => ∃ k : Nat, k < 3 ∧ p0 = nI k ∧ r = some (.int (nI (pc ((fa (sdW (fr k) (bk k)) (onW (fr k) (bk k))).1 ^^^ (-1))))) ∧ W2 = wC ad cy fr bk vw ((fa (sdW (fr k) (bk k)) (onW (fr k) (bk k))).1) ((fa (sdW (fr k) (bk k)) (onW (fr k) (bk k))).2) fk fo kp sp lt ib rw cl nu tv tm ta ml tn R) (fun E => E = "java/lang/IndexOutOfBoundsException" ∧ ir p0 3 = false) := by
  refine g_introX (by decide +kernel) (lv := [(0, .ref (ad 0)), (1, .int p0)]) rfl (Nat.le_of_ble_eq_true rfl) ?_
  intro p e s m below meth c C0 hno G ls hl
  have hx := C0.1
  have hb := C0.2.1
  have hown := C0.2.2.2.2.2.1
  have hts := C0.2.2.2.2.2.2.1
  refine lv_aload_n hx hb dX4_untold_0 rfl (lv_at hl 0 rfl) ?_
  refine lv_aload_n hx hb dX4_untold_1 rfl (lv_at hl 0 rfl) ?_
  refine lv_iload_n hx hb dX4_untold_2 rfl (lv_at hl 1 rfl) ?_
  refine g_callXV (As := [.int p0]) (rest := [.ref (ad 0)]) (q0 := 0) C0 G (c_X4_cardAt l D cy (ad := ad) (fr := fr) (bk := bk) (vw := vw) (tk := tk) (to := to) (fk := fk) (fo := fo) (kp := kp) (sp := sp) (lt := lt) (ib := ib) (rw := rw) (cl := cl) (nu := nu) (tv := tv) (tm := tm) (ta := ta) (ml := ml) (tn := tn) (R := R) (p0 := p0) hst) k_X4_cardAt ml_X4_47 rfl rfl dX4_untold_3 rfl rfl hl.1 (Nat.le_of_ble_eq_true rfl) ⟨Nat.le_of_ble_eq_true rfl, Nat.le_of_ble_eq_true rfl⟩ ⟨Nat.le_of_ble_eq_true rfl, Nat.le_of_ble_eq_true rfl⟩ (fun E ce q9 H locs hx9 G hce hcv hcl => ?_) (fun r W2 H locs hp G => ?_)
  · exact g_out C0 G hno hx9 hce hcv hcl (Nat.le_of_ble_eq_true rfl) (Nat.le_of_ble_eq_true rfl)
  obtain ⟨hw, k, hk, rfl, rfl⟩ := hp
  have G := g_wc hw G
  refine W.eq (g2 := F0 m 6 ls [.ref (ad (10 + k)), .ref (ad 0)]) rfl ?_
  refine g_callV (As := [.ref (ad (10 + k))]) (rest := []) (q0 := 0) C0 G (c_X4_tellingOf l D cy (ad := ad) (fr := fr) (bk := bk) (vw := vw) (tk := tk) (to := to) (fk := fk) (fo := fo) (kp := kp) (sp := sp) (lt := lt) (ib := ib) (rw := rw) (cl := cl) (nu := nu) (tv := tv) (tm := tm) (ta := ta) (ml := ml) (tn := tn) (R := R) (k := k) (by omega)) k_X4_tellingOf ml_X4_107 rfl rfl dX4_untold_6 rfl rfl hl.1 (Nat.le_of_ble_eq_true rfl) ⟨Nat.le_of_ble_eq_true rfl, Nat.le_of_ble_eq_true rfl⟩ ⟨Nat.le_of_ble_eq_true rfl, Nat.le_of_ble_eq_true rfl⟩ (fun r W2 H locs hp G => ?_)
  obtain ⟨rfl, hw⟩ := hp
  have G := g_wc hw G
  refine W.eq (g2 := F0 m 9 ls [.ref (ad 2)]) rfl ?_
  refine g_callVN (As := []) (rest := []) (q0 := 2) C0 G (GE.at (i := 2) rfl (fun R => (c_X3_unknownCells l D cy (R := R) (h := ad 2) (kn := (fa (sdW (fr k) (bk k)) (onW (fr k) (bk k))).1) (on := (fa (sdW (fr k) (bk k)) (onW (fr k) (bk k))).2)  ))) k_X3_unknownCells nm_X4_189 rfl rfl dX4_untold_9 rfl rfl hl.1 (Nat.le_of_ble_eq_true rfl) ⟨Nat.le_of_ble_eq_true rfl, Nat.le_of_ble_eq_true rfl⟩ ⟨Nat.le_of_ble_eq_true rfl, Nat.le_of_ble_eq_true rfl⟩ (fun r W2 H locs hp G => ?_)
  obtain ⟨rfl, hw⟩ := hp
  have G : gW D (wC ad cy fr bk vw ((fa (sdW (fr k) (bk k)) (onW (fr k) (bk k))).1) ((fa (sdW (fr k) (bk k)) (onW (fr k) (bk k))).2) fk fo kp sp lt ib rw cl nu tv tm ta ml tn R) (va_A (wC ad cy fr bk vw tk to fk fo kp sp lt ib rw cl nu tv tm ta ml tn R) s.heap.size) s H locs := g_wc (hw.trans (by rfl)) G
  refine W.eq (g2 := F0 m 12 ls [.int (nI (pc (((fa (sdW (fr k) (bk k)) (onW (fr k) (bk k))).1) ^^^ (-1))))]) rfl ?_
  refine W.widen (k := 4) (n := 24) (Nat.le_of_ble_eq_true rfl) (Nat.le_of_ble_eq_true rfl) ?_
  exact vx_ret (g_iret C0 G ⟨k, hk, rfl, rfl, rfl⟩ dX4_untold_12)

set_option maxHeartbeats 4000000 in
set_option maxRecDepth 100000 in
theorem c_X4_disagreements (l : Launch) (D : va_G) (cy : Nat → ClassId) (ad : Nat → Nat) (fr : Nat → Int64) (bk : Nat → Int64) (vw : Nat → Nat) (tk : Int64) (to : Int64) (fk : Int64) (fo : Int64) (kp : Nat) (sp : Nat) (lt : Nat) (ib : Bool) (rw : Nat) (cl : Nat) (nu : Nat) (tv : Nat) (tm : Nat) (ta : Nat → Int32) (ml : Int32) (tn : Nat) (R : va_W) (p0 : Int32) (hst : l.stackTraces = false) : GX l D (gts cy) yX4_disagreements cX4_disagreements 2 (some .int) 5 4 24 [.ref (ad 0), .int p0] (wC ad cy fr bk vw tk to fk fo kp sp lt ib rw cl nu tv tm ta ml tn R) (fun r W2 => ∃ k : Nat, k < 3 ∧ p0 = nI k ∧ r = some (.int (nI (cnt (dgB (fa (sdW (fr k) (bk k)) (onW (fr k) (bk k))).1 (fa (sdW (fr k) (bk k)) (onW (fr k) (bk k))).2) 16))) ∧ W2 = wC ad cy fr bk vw ((fa (sdW (fr k) (bk k)) (onW (fr k) (bk k))).1) ((fa (sdW (fr k) (bk k)) (onW (fr k) (bk k))).2) fk fo kp sp lt ib rw cl nu tv tm ta ml tn R) (fun E => E = "java/lang/IndexOutOfBoundsException" ∧ ir p0 3 = false) := by
  refine g_introX (by decide +kernel) (lv := [(0, .ref (ad 0)), (1, .int p0)]) rfl (Nat.le_of_ble_eq_true rfl) ?_
  intro p e s m below meth c C0 hno G ls hl
  have hx := C0.1
  have hb := C0.2.1
  have hown := C0.2.2.2.2.2.1
  have hts := C0.2.2.2.2.2.2.1
  refine lv_aload_n hx hb dX4_disagreements_0 rfl (lv_at hl 0 rfl) ?_
  refine lv_aload_n hx hb dX4_disagreements_1 rfl (lv_at hl 0 rfl) ?_
  refine lv_iload_n hx hb dX4_disagreements_2 rfl (lv_at hl 1 rfl) ?_
  refine g_callXV (As := [.int p0]) (rest := [.ref (ad 0)]) (q0 := 0) C0 G (c_X4_cardAt l D cy (ad := ad) (fr := fr) (bk := bk) (vw := vw) (tk := tk) (to := to) (fk := fk) (fo := fo) (kp := kp) (sp := sp) (lt := lt) (ib := ib) (rw := rw) (cl := cl) (nu := nu) (tv := tv) (tm := tm) (ta := ta) (ml := ml) (tn := tn) (R := R) (p0 := p0) hst) k_X4_cardAt ml_X4_47 rfl rfl dX4_disagreements_3 rfl rfl hl.1 (Nat.le_of_ble_eq_true rfl) ⟨Nat.le_of_ble_eq_true rfl, Nat.le_of_ble_eq_true rfl⟩ ⟨Nat.le_of_ble_eq_true rfl, Nat.le_of_ble_eq_true rfl⟩ (fun E ce q9 H locs hx9 G hce hcv hcl => ?_) (fun r W2 H locs hp G => ?_)
  · exact g_out C0 G hno hx9 hce hcv hcl (Nat.le_of_ble_eq_true rfl) (Nat.le_of_ble_eq_true rfl)
  obtain ⟨hw, k, hk, rfl, rfl⟩ := hp
  have G := g_wc hw G
  refine W.eq (g2 := F0 m 6 ls [.ref (ad (10 + k)), .ref (ad 0)]) rfl ?_
  refine g_callV (As := [.ref (ad (10 + k))]) (rest := []) (q0 := 0) C0 G (c_X4_tellingOf l D cy (ad := ad) (fr := fr) (bk := bk) (vw := vw) (tk := tk) (to := to) (fk := fk) (fo := fo) (kp := kp) (sp := sp) (lt := lt) (ib := ib) (rw := rw) (cl := cl) (nu := nu) (tv := tv) (tm := tm) (ta := ta) (ml := ml) (tn := tn) (R := R) (k := k) (by omega)) k_X4_tellingOf ml_X4_107 rfl rfl dX4_disagreements_6 rfl rfl hl.1 (Nat.le_of_ble_eq_true rfl) ⟨Nat.le_of_ble_eq_true rfl, Nat.le_of_ble_eq_true rfl⟩ ⟨Nat.le_of_ble_eq_true rfl, Nat.le_of_ble_eq_true rfl⟩ (fun r W2 H locs hp G => ?_)
  obtain ⟨rfl, hw⟩ := hp
  have G := g_wc hw G
  refine W.eq (g2 := F0 m 9 ls [.ref (ad 2)]) rfl ?_
  refine g_callVN (As := []) (rest := []) (q0 := 2) C0 G (GE.at (i := 2) rfl (fun R => (c_X3_disagreeingLines l D cy (R := R) (h := ad 2) (kn := (fa (sdW (fr k) (bk k)) (onW (fr k) (bk k))).1) (on := (fa (sdW (fr k) (bk k)) (onW (fr k) (bk k))).2)  ))) k_X3_disagreeingLines nm_X4_192 rfl rfl dX4_disagreements_9 rfl rfl hl.1 (Nat.le_of_ble_eq_true rfl) ⟨Nat.le_of_ble_eq_true rfl, Nat.le_of_ble_eq_true rfl⟩ ⟨Nat.le_of_ble_eq_true rfl, Nat.le_of_ble_eq_true rfl⟩ (fun r W2 H locs hp G => ?_)
  obtain ⟨rfl, hw⟩ := hp
  have G : gW D (wC ad cy fr bk vw ((fa (sdW (fr k) (bk k)) (onW (fr k) (bk k))).1) ((fa (sdW (fr k) (bk k)) (onW (fr k) (bk k))).2) fk fo kp sp lt ib rw cl nu tv tm ta ml tn R) (va_A (wC ad cy fr bk vw tk to fk fo kp sp lt ib rw cl nu tv tm ta ml tn R) s.heap.size) s H locs := g_wc (hw.trans (by rfl)) G
  refine W.eq (g2 := F0 m 12 ls [.int (nI (cnt (dgB ((fa (sdW (fr k) (bk k)) (onW (fr k) (bk k))).1) ((fa (sdW (fr k) (bk k)) (onW (fr k) (bk k))).2)) 16))]) rfl ?_
  refine W.widen (k := 4) (n := 24) (Nat.le_of_ble_eq_true rfl) (Nat.le_of_ble_eq_true rfl) ?_
  exact vx_ret (g_iret C0 G ⟨k, hk, rfl, rfl, rfl⟩ dX4_disagreements_12)

set_option maxHeartbeats 4000000 in
set_option maxRecDepth 100000 in
theorem c_X4_worst (l : Launch) (D : va_G) (cy : Nat → ClassId) (ad : Nat → Nat) (fr : Nat → Int64) (bk : Nat → Int64) (vw : Nat → Nat) (tk : Int64) (to : Int64) (fk : Int64) (fo : Int64) (kp : Nat) (sp : Nat) (lt : Nat) (ib : Bool) (rw : Nat) (cl : Nat) (nu : Nat) (tv : Nat) (tm : Nat) (ta : Nat → Int32) (ml : Int32) (tn : Nat) (R : va_W) (p0 : Int32) (hst : l.stackTraces = false) : GX l D (gts cy) yX4_worst cX4_worst 2 (some .int) 6 4 24 [.ref (ad 0), .int p0] (wC ad cy fr bk vw tk to fk fo kp sp lt ib rw cl nu tv tm ta ml tn R) (fun r W2 => ∃ k : Nat, k < 3 ∧ p0 = nI k ∧ r = some (.int (wcS (fr k) (bk k) 64).1) ∧ W2 = wC ad cy fr bk vw tk to ((wcF (fr k) (bk k) (fk, fo) 64).1) ((wcF (fr k) (bk k) (fk, fo) 64).2) kp sp lt ib rw cl nu tv tm ta ml tn R) (fun E => E = "java/lang/IndexOutOfBoundsException" ∧ ir p0 3 = false) := by
  refine g_introX (by decide +kernel) (lv := [(0, .ref (ad 0)), (1, .int p0)]) rfl (Nat.le_of_ble_eq_true rfl) ?_
  intro p e s m below meth c C0 hno G ls hl
  have hx := C0.1
  have hb := C0.2.1
  have hown := C0.2.2.2.2.2.1
  have hts := C0.2.2.2.2.2.2.1
  refine lv_aload_n hx hb dX4_worst_0 rfl (lv_at hl 0 rfl) ?_
  refine lv_aload_n hx hb dX4_worst_1 rfl (lv_at hl 0 rfl) ?_
  refine lv_iload_n hx hb dX4_worst_2 rfl (lv_at hl 1 rfl) ?_
  refine g_callXV (As := [.int p0]) (rest := [.ref (ad 0)]) (q0 := 0) C0 G (c_X4_cardAt l D cy (ad := ad) (fr := fr) (bk := bk) (vw := vw) (tk := tk) (to := to) (fk := fk) (fo := fo) (kp := kp) (sp := sp) (lt := lt) (ib := ib) (rw := rw) (cl := cl) (nu := nu) (tv := tv) (tm := tm) (ta := ta) (ml := ml) (tn := tn) (R := R) (p0 := p0) hst) k_X4_cardAt ml_X4_47 rfl rfl dX4_worst_3 rfl rfl hl.1 (Nat.le_of_ble_eq_true rfl) ⟨Nat.le_of_ble_eq_true rfl, Nat.le_of_ble_eq_true rfl⟩ ⟨Nat.le_of_ble_eq_true rfl, Nat.le_of_ble_eq_true rfl⟩ (fun E ce q9 H locs hx9 G hce hcv hcl => ?_) (fun r W2 H locs hp G => ?_)
  · exact g_out C0 G hno hx9 hce hcv hcl (Nat.le_of_ble_eq_true rfl) (Nat.le_of_ble_eq_true rfl)
  obtain ⟨hw, k, hk, rfl, rfl⟩ := hp
  have G := g_wc hw G
  refine W.eq (g2 := F0 m 6 ls [.ref (ad (10 + k)), .ref (ad 0)]) rfl ?_
  refine g_callV (As := [.ref (ad (10 + k))]) (rest := []) (q0 := 0) C0 G (c_X4_worstCell l D cy (ad := ad) (fr := fr) (bk := bk) (vw := vw) (tk := tk) (to := to) (fk := fk) (fo := fo) (kp := kp) (sp := sp) (lt := lt) (ib := ib) (rw := rw) (cl := cl) (nu := nu) (tv := tv) (tm := tm) (ta := ta) (ml := ml) (tn := tn) (R := R) (k := k) (by omega)) k_X4_worstCell ml_X4_206 rfl rfl dX4_worst_6 rfl rfl hl.1 (Nat.le_of_ble_eq_true rfl) ⟨Nat.le_of_ble_eq_true rfl, Nat.le_of_ble_eq_true rfl⟩ ⟨Nat.le_of_ble_eq_true rfl, Nat.le_of_ble_eq_true rfl⟩ (fun r W2 H locs hp G => ?_)
  obtain ⟨rfl, hw⟩ := hp
  have G := g_wc hw G
  refine W.eq (g2 := F0 m 9 ls [.int ((wcS (fr k) (bk k) 64).1)]) rfl ?_
  refine W.widen (k := 4) (n := 24) (Nat.le_of_ble_eq_true rfl) (Nat.le_of_ble_eq_true rfl) ?_
  exact vx_ret (g_iret C0 G ⟨k, hk, rfl, rfl, rfl⟩ dX4_worst_9)
