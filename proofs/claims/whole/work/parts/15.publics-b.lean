theorem ir_hil {x M : Int32} {n : Nat} (hM : M.toInt = n) (hn : n + 1 < 2 ^ 31) (h : ¬ x ≤ M) : ir x (n + 1) = false := by
  apply ir_hi
  intro h2
  apply h
  rw [Int32.le_iff_toInt_le, hM]
  rw [Int32.lt_iff_toInt_lt, nI_toInt hn] at h2
  omega
theorem ir_loM {x M : Int32} {n : Nat} (h : x < M) (hM : 0 ≤ M.toInt) : True := trivial
theorem saU_lo {α : Type} {g : Nat → α} {kp k : Nat} (hk : k < 3) : saU g kp k = g k := by
  have sv : ∀ (h : Nat → α) (st i : Nat), svU h st i k = h k := by
    intro h st i
    induction i with
    | zero => rfl
    | succ i ih => show va_up (svU h st i) (3 + (st + i)) _ k = _; rw [va_up_n _ _ (by omega), ih]
  have dc : ∀ (h : Nat → α) (i : Nat), dcU h i k = h k := by
    intro h i
    induction i with
    | zero => rfl
    | succ i ih => show va_up (dcU h i) (3 + i) _ k = _; rw [va_up_n _ _ (by omega), ih]
  unfold saU
  split
  · exact sv _ _ _
  · rw [sv, dc]
def n64 (n : Nat) : UInt64 := FP.ddiv (FP.i2d (nI n)) 4634204016564240384
set_option maxHeartbeats 4000000 in
set_option maxRecDepth 100000 in
theorem c_X4_punch (l : Launch) (D : va_G) (cy : Nat → ClassId) (ad : Nat → Nat) (fr : Nat → Int64) (bk : Nat → Int64) (vw : Nat → Nat) (tk : Int64) (to : Int64) (fk : Int64) (fo : Int64) (kp : Nat) (sp : Nat) (lt : Nat) (ib : Bool) (rw : Nat) (cl : Nat) (nu : Nat) (tv : Nat) (tm : Nat) (ta : Nat → Int32) (ml : Int32) (tn : Nat) (R : va_W) (p0 : Int32) (p1 : Int32) (p2 : Int32) (hst : l.stackTraces = false) (hkp : kp ≤ 6) : GX l D (gts cy) yX4_punch cX4_punch 5 (some .int) 3 4 24 [.ref (ad 0), .int p0, .int p1, .int p2] (wC ad cy fr bk vw tk to fk fo kp sp lt ib rw cl nu tv tm ta ml tn R) (fun r W2 => ∃ k : Nat, k < 3 ∧ p0 = nI k ∧ ∃ row : Nat, row < 7 ∧ p1 = nI row ∧ ∃ u : Nat, u < 128 ∧ p2 = nI u ∧ cpB (fr k) (bk k) row = true ∧ r = some (.int (nI (pc7 u % 2))) ∧ W2 = wC ad cy (va_up (saU fr kp) k (pwF ((saU fr kp) k) row u)) (va_up (saU bk kp) k (pwB ((saU bk kp) k) row u)) (saU vw kp) tk to fk fo (saK kp) sp lt ib rw cl nu tv tm ta ml tn R) (fun E => E = "java/lang/IndexOutOfBoundsException" ∧ (ir p0 3 && ir p1 7) = false ∨ E = "java/lang/IllegalArgumentException" ∧ ir p0 3 = true ∧ ir p1 7 = true ∧ ir p2 128 = false ∨ E = "java/lang/IllegalStateException" ∧ ∃ k : Nat, k < 3 ∧ p0 = nI k ∧ ∃ row : Nat, row < 7 ∧ p1 = nI row ∧ ir p2 128 = true ∧ cpB (fr k) (bk k) row = false) := by
  refine g_introX (by decide +kernel) (lv := [(0, .ref (ad 0)), (1, .int p0), (2, .int p1), (3, .int p2)]) rfl (Nat.le_of_ble_eq_true rfl) ?_
  intro p e s m below meth c C0 hno G ls hl
  have hx := C0.1
  have hb := C0.2.1
  have hown := C0.2.2.2.2.2.1
  have hts := C0.2.2.2.2.2.2.1
  refine lv_aload_n hx hb dX4_punch_0 rfl (lv_at hl 0 rfl) ?_
  refine lv_iload_n hx hb dX4_punch_1 rfl (lv_at hl 1 rfl) ?_
  refine g_callXV (As := [.int p0]) (rest := []) (q0 := 0) C0 G (c_X4_cardAt l D cy (ad := ad) (fr := fr) (bk := bk) (vw := vw) (tk := tk) (to := to) (fk := fk) (fo := fo) (kp := kp) (sp := sp) (lt := lt) (ib := ib) (rw := rw) (cl := cl) (nu := nu) (tv := tv) (tm := tm) (ta := ta) (ml := ml) (tn := tn) (R := R) (p0 := p0) hst) k_X4_cardAt ml_X4_47 rfl rfl dX4_punch_2 rfl rfl hl.1 (Nat.le_of_ble_eq_true rfl) ⟨Nat.le_of_ble_eq_true rfl, Nat.le_of_ble_eq_true rfl⟩ ⟨Nat.le_of_ble_eq_true rfl, Nat.le_of_ble_eq_true rfl⟩ (fun E ce q9 H locs hx9 G hce hcv hcl => ?_) (fun r W2 H locs hp G => ?_)
  · exact g_out C0 G hno (Or.inl ⟨hx9.1, by rw [hx9.2]; rfl⟩) hce hcv hcl (Nat.le_of_ble_eq_true rfl) (Nat.le_of_ble_eq_true rfl)
  obtain ⟨hw, k, hk, rfl, rfl⟩ := hp
  have G := g_wc hw G
  refine W.eq (g2 := F0 m 5 ls [.ref (ad (10 + k))]) rfl ?_
  refine lv_astore (lv' := [(4, .ref (ad (10 + k))), (0, .ref (ad 0)), (1, .int (nI k)), (2, .int p1), (3, .int p2)]) hx hb dX4_punch_5 hl (by decide) rfl (fun ls hl => ?_)
  refine lv_iload_n hx hb dX4_punch_7 rfl (lv_at hl 3 rfl) ?_
  refine g_callXS (As := [.int p1]) (rest := []) C0 G (c_X4_requireRowWithValue l D cy (W1 := wC ad cy fr bk vw tk to fk fo kp sp lt ib rw cl nu tv tm ta ml tn R) (p0 := p1) hst) k_X4_requireRowWithValue ml_X4_51 dX4_punch_8 rfl rfl hl.1 (Nat.le_of_ble_eq_true rfl) ⟨Nat.le_of_ble_eq_true rfl, Nat.le_of_ble_eq_true rfl⟩ ⟨Nat.le_of_ble_eq_true rfl, Nat.le_of_ble_eq_true rfl⟩ (fun E ce q9 H locs hx9 G hce hcv hcl => ?_) (fun r W2 H locs hp G => ?_)
  · exact g_out C0 G hno (Or.inl ⟨hx9.1, by rw [hx9.2, Bool.and_false]⟩) hce hcv hcl (Nat.le_of_ble_eq_true rfl) (Nat.le_of_ble_eq_true rfl)
  obtain ⟨rfl, hw, row, hrow, rfl⟩ := hp
  have G := g_wc hw G
  refine W.eq (g2 := F0 m 11 ls []) rfl ?_
  refine lv_iload_n hx hb dX4_punch_11 rfl (lv_at hl 4 rfl) ?_
  refine lv_if_lt (tgt := 21) hx hb dX4_punch_12 (by decide) (fun c_12 => ?_) (fun c_12 => ?_)
  · skip
    exact g_throwS (names := ["java/lang/RuntimeException", "java/lang/Exception"]) C0 hst hno G hl.1 (by decide +kernel) (by decide +kernel) tw_iae xl_X4_55 ti_iae ⟨rfl, sr_57⟩ dX4_punch_21 dX4_punch_24 dX4_punch_25 dX4_punch_27 dX4_punch_30 ⟨(Nat.le_of_ble_eq_true rfl), (Nat.le_of_ble_eq_true rfl)⟩ (Nat.le_of_ble_eq_true rfl) (Nat.le_of_ble_eq_true rfl) (Or.inr (Or.inl ⟨rfl, ir_nI hk (by decide), ir_nI hrow (by decide), by first | exact ir_lo c_12 | exact ir_hil (n := 127) (by decide) (by decide) c_18⟩)) (Nat.le_of_ble_eq_true rfl) (Nat.le_of_ble_eq_true rfl)
  · skip
    refine lv_iload_n hx hb dX4_punch_15 rfl (lv_at hl 4 rfl) ?_
    refine lv_bipush (v := 127) hx hb dX4_punch_16 (by decide) ?_
    refine lv_icmp_le (tgt := 31) hx hb dX4_punch_18 (by decide) (fun c_18 => ?_) (fun c_18 => ?_)
    · skip
      obtain ⟨u, hu0, rfl⟩ := nI_of2 (n := 127) (by decide) c_12 c_18
      have hu : u < 128 := by omega
      refine lv_aload hx hb dX4_punch_31 (lv_at hl 0 rfl) ?_
      refine lv_iload_n hx hb dX4_punch_33 rfl (lv_at hl 3 rfl) ?_
      refine g_callVN (As := [.int (nI row)]) (rest := []) (q0 := k + 9) C0 G (GE.at (i := k + 9) (wC_at (k := k) (by omega)) (fun R => (c_X0_canPunch l D cy (R := R) (h := ad (10 + k)) (f := fr k) (b := bk k) (v := vw k) (row := row) (by omega)))) k_X0_canPunch nm_X4_62 (wC_at (k := k) (by omega)) rfl dX4_punch_34 rfl rfl hl.1 (Nat.le_of_ble_eq_true rfl) ⟨Nat.le_of_ble_eq_true rfl, Nat.le_of_ble_eq_true rfl⟩ ⟨Nat.le_of_ble_eq_true rfl, Nat.le_of_ble_eq_true rfl⟩ (fun r W2 H locs hp G => ?_)
      obtain ⟨rfl, hw⟩ := hp
      have G : gW D (wC ad cy fr bk vw tk to fk fo kp sp lt ib rw cl nu tv tm ta ml tn R) (va_A (wC ad cy fr bk vw tk to fk fo kp sp lt ib rw cl nu tv tm ta ml tn R) s.heap.size) s H locs := g_wc (hw.trans (wC_set (k := k) (by omega) (va_up_s _ _) (va_up_s _ _) (va_up_s _ _))) G
      refine W.eq (g2 := F0 m 37 ls [.int (bI (cpB (fr k) (bk k) row))]) rfl ?_
      refine lv_if_ne (tgt := 50) hx hb dX4_punch_37 (by decide) (fun c_37 => ?_) (fun c_37 => ?_)
      · skip
        have c_37 : (cpB (fr k) (bk k) row) = true := bI_t c_37
        refine lv_aload_n hx hb dX4_punch_50 rfl (lv_at hl 1 rfl) ?_
        refine g_get (q0 := 0) (v := .ref (ad 4)) C0 G in_X4 rfl rfl 3 (by decide) fl_X4_29 (fun _ h => h) rfl dX4_punch_51 ?_
        refine lv_aload_n hx hb dX4_punch_54 rfl (lv_at hl 1 rfl) ?_
        refine g_get (q0 := 0) (v := .ref (ad 1)) C0 G in_X4 rfl rfl 0 (by decide) fl_X4_11 (fun _ h => h) rfl dX4_punch_55 ?_
        refine g_callVN (As := [.ref (ad 1)]) (rest := []) (q0 := 4) C0 G (c_X1_save l D cy (ad := ad) (fr := fr) (bk := bk) (vw := vw) (tk := tk) (to := to) (fk := fk) (fo := fo) (kp := kp) (sp := sp) (lt := lt) (ib := ib) (rw := rw) (cl := cl) (nu := nu) (tv := tv) (tm := tm) (ta := ta) (ml := ml) (tn := tn) (R := R)  (by omega)) k_X1_save nm_X4_71 rfl rfl dX4_punch_58 rfl rfl hl.1 (Nat.le_of_ble_eq_true rfl) ⟨Nat.le_of_ble_eq_true rfl, Nat.le_of_ble_eq_true rfl⟩ ⟨Nat.le_of_ble_eq_true rfl, Nat.le_of_ble_eq_true rfl⟩ (fun r W2 H locs hp G => ?_)
        obtain ⟨rfl, hw⟩ := hp
        have G := g_wc hw G
        refine W.eq (g2 := F0 m 61 ls []) rfl ?_
        refine lv_aload hx hb dX4_punch_61 (lv_at hl 0 rfl) ?_
        refine lv_iload_n hx hb dX4_punch_63 rfl (lv_at hl 3 rfl) ?_
        refine lv_iload_n hx hb dX4_punch_64 rfl (lv_at hl 4 rfl) ?_
        refine g_callVN (As := [.int (nI row), .int (nI u)]) (rest := []) (q0 := k + 9) C0 G (GE.at (i := k + 9) (wC_at (k := k) (by omega)) (fun R => (c_X0_punchRow l D cy (R := R) (h := ad (10 + k)) (f := (saU fr kp) k) (b := (saU bk kp) k) (v := (saU vw kp) k) (r := row) (x := u) (by omega) (by omega)))) k_X0_punchRow nm_X4_75 (wC_at (k := k) (by omega)) rfl dX4_punch_65 rfl rfl hl.1 (Nat.le_of_ble_eq_true rfl) ⟨Nat.le_of_ble_eq_true rfl, Nat.le_of_ble_eq_true rfl⟩ ⟨Nat.le_of_ble_eq_true rfl, Nat.le_of_ble_eq_true rfl⟩ (fun r W2 H locs hp G => ?_)
        obtain ⟨rfl, hw⟩ := hp
        have G : gW D (wC ad cy (va_up (saU fr kp) k (pwF ((saU fr kp) k) row u)) (va_up (saU bk kp) k (pwB ((saU bk kp) k) row u)) (saU vw kp) tk to fk fo (saK kp) sp lt ib rw cl nu tv tm ta ml tn R) (va_A (wC ad cy fr bk vw tk to fk fo kp sp lt ib rw cl nu tv tm ta ml tn R) s.heap.size) s H locs := g_wc (hw.trans (wC_set (k := k) (by omega) rfl rfl (va_up_s _ _))) G
        refine W.eq (g2 := F0 m 68 ls [.int (nI (pc7 u % 2))]) rfl ?_
        refine W.widen (k := 4) (n := 24) (Nat.le_of_ble_eq_true rfl) (Nat.le_of_ble_eq_true rfl) ?_
        exact vx_ret (g_iret C0 G ⟨k, hk, rfl, row, hrow, rfl, u, hu, rfl, c_37, rfl, rfl⟩ dX4_punch_68)
      · skip
        have c_37 : (cpB (fr k) (bk k) row) = false := bI_f c_37
        exact g_throwS (names := ["java/lang/RuntimeException", "java/lang/Exception"]) C0 hst hno G hl.1 (by decide +kernel) (by decide +kernel) tw_ise xl_X4_66 ti_ise ⟨rfl, sr_68⟩ dX4_punch_40 dX4_punch_43 dX4_punch_44 dX4_punch_46 dX4_punch_49 ⟨(Nat.le_of_ble_eq_true rfl), (Nat.le_of_ble_eq_true rfl)⟩ (Nat.le_of_ble_eq_true rfl) (Nat.le_of_ble_eq_true rfl) (Or.inr (Or.inr ⟨rfl, k, hk, rfl, row, hrow, rfl, ir_nI hu (by decide), c_37⟩)) (Nat.le_of_ble_eq_true rfl) (Nat.le_of_ble_eq_true rfl)
    · skip
      exact g_throwS (names := ["java/lang/RuntimeException", "java/lang/Exception"]) C0 hst hno G hl.1 (by decide +kernel) (by decide +kernel) tw_iae xl_X4_55 ti_iae ⟨rfl, sr_57⟩ dX4_punch_21 dX4_punch_24 dX4_punch_25 dX4_punch_27 dX4_punch_30 ⟨(Nat.le_of_ble_eq_true rfl), (Nat.le_of_ble_eq_true rfl)⟩ (Nat.le_of_ble_eq_true rfl) (Nat.le_of_ble_eq_true rfl) (Or.inr (Or.inl ⟨rfl, ir_nI hk (by decide), ir_nI hrow (by decide), by first | exact ir_lo c_12 | exact ir_hil (n := 127) (by decide) (by decide) c_18⟩)) (Nat.le_of_ble_eq_true rfl) (Nat.le_of_ble_eq_true rfl)

set_option maxHeartbeats 4000000 in
set_option maxRecDepth 100000 in
theorem c_X4_close (l : Launch) (D : va_G) (cy : Nat → ClassId) (ad : Nat → Nat) (fr : Nat → Int64) (bk : Nat → Int64) (vw : Nat → Nat) (tk : Int64) (to : Int64) (fk : Int64) (fo : Int64) (kp : Nat) (sp : Nat) (lt : Nat) (ib : Bool) (rw : Nat) (cl : Nat) (nu : Nat) (tv : Nat) (tm : Nat) (ta : Nat → Int32) (ml : Int32) (tn : Nat) (R : va_W) (p0 : Int32) (hst : l.stackTraces = false) (hkp : kp ≤ 6) : GX l D (gts cy) yX4_close cX4_close 3 (some .int) 3 4 24 [.ref (ad 0), .int p0] (wC ad cy fr bk vw tk to fk fo kp sp lt ib rw cl nu tv tm ta ml tn R) (fun r W2 => ∃ k : Nat, k < 3 ∧ p0 = nI k ∧ ccB (fr k) (bk k) = true ∧ r = some (.int (nI (pc (onW (clF ((saU fr kp) k) ((saU bk kp) k)) (clB ((saU fr kp) k) ((saU bk kp) k)) &&& rowM 7)))) ∧ W2 = wC ad cy (va_up (saU fr kp) k (clF ((saU fr kp) k) ((saU bk kp) k))) (va_up (saU bk kp) k (clB ((saU fr kp) k) ((saU bk kp) k))) (saU vw kp) tk to fk fo (saK kp) sp lt ib rw cl nu tv tm ta ml tn R) (fun E => E = "java/lang/IndexOutOfBoundsException" ∧ ir p0 3 = false ∨ E = "java/lang/IllegalStateException" ∧ ∃ k : Nat, k < 3 ∧ p0 = nI k ∧ ccB (fr k) (bk k) = false) := by
  refine g_introX (by decide +kernel) (lv := [(0, .ref (ad 0)), (1, .int p0)]) rfl (Nat.le_of_ble_eq_true rfl) ?_
  intro p e s m below meth c C0 hno G ls hl
  have hx := C0.1
  have hb := C0.2.1
  have hown := C0.2.2.2.2.2.1
  have hts := C0.2.2.2.2.2.2.1
  refine lv_aload_n hx hb dX4_close_0 rfl (lv_at hl 0 rfl) ?_
  refine lv_iload_n hx hb dX4_close_1 rfl (lv_at hl 1 rfl) ?_
  refine g_callXV (As := [.int p0]) (rest := []) (q0 := 0) C0 G (c_X4_cardAt l D cy (ad := ad) (fr := fr) (bk := bk) (vw := vw) (tk := tk) (to := to) (fk := fk) (fo := fo) (kp := kp) (sp := sp) (lt := lt) (ib := ib) (rw := rw) (cl := cl) (nu := nu) (tv := tv) (tm := tm) (ta := ta) (ml := ml) (tn := tn) (R := R) (p0 := p0) hst) k_X4_cardAt ml_X4_47 rfl rfl dX4_close_2 rfl rfl hl.1 (Nat.le_of_ble_eq_true rfl) ⟨Nat.le_of_ble_eq_true rfl, Nat.le_of_ble_eq_true rfl⟩ ⟨Nat.le_of_ble_eq_true rfl, Nat.le_of_ble_eq_true rfl⟩ (fun E ce q9 H locs hx9 G hce hcv hcl => ?_) (fun r W2 H locs hp G => ?_)
  · exact g_out C0 G hno (Or.inl hx9) hce hcv hcl (Nat.le_of_ble_eq_true rfl) (Nat.le_of_ble_eq_true rfl)
  obtain ⟨hw, k, hk, rfl, rfl⟩ := hp
  have G := g_wc hw G
  refine W.eq (g2 := F0 m 5 ls [.ref (ad (10 + k))]) rfl ?_
  refine lv_astore_n (lv' := [(2, .ref (ad (10 + k))), (0, .ref (ad 0)), (1, .int (nI k))]) hx hb dX4_close_5 rfl hl (by decide) rfl (fun ls hl => ?_)
  refine lv_aload_n hx hb dX4_close_6 rfl (lv_at hl 0 rfl) ?_
  refine g_callVN (As := []) (rest := []) (q0 := k + 9) C0 G (GE.at (i := k + 9) (wC_at (k := k) (by omega)) (fun R => (c_X0_canClose l D cy (R := R) (h := ad (10 + k)) (f := fr k) (b := bk k) (v := vw k)  ))) k_X0_canClose nm_X4_79 (wC_at (k := k) (by omega)) rfl dX4_close_7 rfl rfl hl.1 (Nat.le_of_ble_eq_true rfl) ⟨Nat.le_of_ble_eq_true rfl, Nat.le_of_ble_eq_true rfl⟩ ⟨Nat.le_of_ble_eq_true rfl, Nat.le_of_ble_eq_true rfl⟩ (fun r W2 H locs hp G => ?_)
  obtain ⟨rfl, hw⟩ := hp
  have G : gW D (wC ad cy fr bk vw tk to fk fo kp sp lt ib rw cl nu tv tm ta ml tn R) (va_A (wC ad cy fr bk vw tk to fk fo kp sp lt ib rw cl nu tv tm ta ml tn R) s.heap.size) s H locs := g_wc (hw.trans (wC_set (k := k) (by omega) (va_up_s _ _) (va_up_s _ _) (va_up_s _ _))) G
  refine W.eq (g2 := F0 m 10 ls [.int (bI (ccB (fr k) (bk k)))]) rfl ?_
  refine lv_if_ne (tgt := 23) hx hb dX4_close_10 (by decide) (fun c_10 => ?_) (fun c_10 => ?_)
  · skip
    have c_10 : (ccB (fr k) (bk k)) = true := bI_t c_10
    refine lv_aload_n hx hb dX4_close_23 rfl (lv_at hl 1 rfl) ?_
    refine g_get (q0 := 0) (v := .ref (ad 4)) C0 G in_X4 rfl rfl 3 (by decide) fl_X4_29 (fun _ h => h) rfl dX4_close_24 ?_
    refine lv_aload_n hx hb dX4_close_27 rfl (lv_at hl 1 rfl) ?_
    refine g_get (q0 := 0) (v := .ref (ad 1)) C0 G in_X4 rfl rfl 0 (by decide) fl_X4_11 (fun _ h => h) rfl dX4_close_28 ?_
    refine g_callVN (As := [.ref (ad 1)]) (rest := []) (q0 := 4) C0 G (c_X1_save l D cy (ad := ad) (fr := fr) (bk := bk) (vw := vw) (tk := tk) (to := to) (fk := fk) (fo := fo) (kp := kp) (sp := sp) (lt := lt) (ib := ib) (rw := rw) (cl := cl) (nu := nu) (tv := tv) (tm := tm) (ta := ta) (ml := ml) (tn := tn) (R := R)  (by omega)) k_X1_save nm_X4_71 rfl rfl dX4_close_31 rfl rfl hl.1 (Nat.le_of_ble_eq_true rfl) ⟨Nat.le_of_ble_eq_true rfl, Nat.le_of_ble_eq_true rfl⟩ ⟨Nat.le_of_ble_eq_true rfl, Nat.le_of_ble_eq_true rfl⟩ (fun r W2 H locs hp G => ?_)
    obtain ⟨rfl, hw⟩ := hp
    have G := g_wc hw G
    refine W.eq (g2 := F0 m 34 ls []) rfl ?_
    refine lv_aload_n hx hb dX4_close_34 rfl (lv_at hl 0 rfl) ?_
    refine g_callVN (As := []) (rest := []) (q0 := k + 9) C0 G (GE.at (i := k + 9) (wC_at (k := k) (by omega)) (fun R => (c_X0_punchCheckRow l D cy (R := R) (h := ad (10 + k)) (f := (saU fr kp) k) (b := (saU bk kp) k) (v := (saU vw kp) k)  ))) k_X0_punchCheckRow nm_X4_85 (wC_at (k := k) (by omega)) rfl dX4_close_35 rfl rfl hl.1 (Nat.le_of_ble_eq_true rfl) ⟨Nat.le_of_ble_eq_true rfl, Nat.le_of_ble_eq_true rfl⟩ ⟨Nat.le_of_ble_eq_true rfl, Nat.le_of_ble_eq_true rfl⟩ (fun r W2 H locs hp G => ?_)
    obtain ⟨rfl, hw⟩ := hp
    have G : gW D (wC ad cy (va_up (saU fr kp) k (clF ((saU fr kp) k) ((saU bk kp) k))) (va_up (saU bk kp) k (clB ((saU fr kp) k) ((saU bk kp) k))) (saU vw kp) tk to fk fo (saK kp) sp lt ib rw cl nu tv tm ta ml tn R) (va_A (wC ad cy fr bk vw tk to fk fo kp sp lt ib rw cl nu tv tm ta ml tn R) s.heap.size) s H locs := g_wc (hw.trans (wC_set (k := k) (by omega) rfl rfl (va_up_s _ _))) G
    refine W.eq (g2 := F0 m 38 ls [.int (nI (pc (onW (clF ((saU fr kp) k) ((saU bk kp) k)) (clB ((saU fr kp) k) ((saU bk kp) k)) &&& rowM 7)))]) rfl ?_
    refine W.widen (k := 4) (n := 24) (Nat.le_of_ble_eq_true rfl) (Nat.le_of_ble_eq_true rfl) ?_
    exact vx_ret (g_iret C0 G ⟨k, hk, rfl, c_10, rfl, rfl⟩ dX4_close_38)
  · skip
    have c_10 : (ccB (fr k) (bk k)) = false := bI_f c_10
    exact g_throwS (names := ["java/lang/RuntimeException", "java/lang/Exception"]) C0 hst hno G hl.1 (by decide +kernel) (by decide +kernel) tw_ise xl_X4_66 ti_ise ⟨rfl, sr_83⟩ dX4_close_13 dX4_close_16 dX4_close_17 dX4_close_19 dX4_close_22 ⟨(Nat.le_of_ble_eq_true rfl), (Nat.le_of_ble_eq_true rfl)⟩ (Nat.le_of_ble_eq_true rfl) (Nat.le_of_ble_eq_true rfl) (Or.inr ⟨rfl, k, hk, rfl, c_10⟩) (Nat.le_of_ble_eq_true rfl) (Nat.le_of_ble_eq_true rfl)

set_option maxHeartbeats 4000000 in
set_option maxRecDepth 100000 in
theorem c_X4_renew (l : Launch) (D : va_G) (cy : Nat → ClassId) (ad : Nat → Nat) (fr : Nat → Int64) (bk : Nat → Int64) (vw : Nat → Nat) (tk : Int64) (to : Int64) (fk : Int64) (fo : Int64) (kp : Nat) (sp : Nat) (lt : Nat) (ib : Bool) (rw : Nat) (cl : Nat) (nu : Nat) (tv : Nat) (tm : Nat) (ta : Nat → Int32) (ml : Int32) (tn : Nat) (R : va_W) (p0 : Int32) (hst : l.stackTraces = false) (hkp : kp ≤ 6) : GX l D (gts cy) yX4_renew cX4_renew 4 (some .int) 3 4 24 [.ref (ad 0), .int p0] (wC ad cy fr bk vw tk to fk fo kp sp lt ib rw cl nu tv tm ta ml tn R) (fun r W2 => ∃ k : Nat, k < 3 ∧ p0 = nI k ∧ r = some (.int (nI ((pc ((saU fr kp) k)) + (pc ((saU bk kp) k))))) ∧ W2 = wC ad cy (va_up (saU fr kp) k 0) (va_up (saU bk kp) k 0) (va_up (saU vw kp) k 0) tk to fk fo (saK kp) sp lt ib rw cl nu tv tm ta ml tn R) (fun E => E = "java/lang/IndexOutOfBoundsException" ∧ ir p0 3 = false) := by
  refine g_introX (by decide +kernel) (lv := [(0, .ref (ad 0)), (1, .int p0)]) rfl (Nat.le_of_ble_eq_true rfl) ?_
  intro p e s m below meth c C0 hno G ls hl
  have hx := C0.1
  have hb := C0.2.1
  have hown := C0.2.2.2.2.2.1
  have hts := C0.2.2.2.2.2.2.1
  refine lv_aload_n hx hb dX4_renew_0 rfl (lv_at hl 0 rfl) ?_
  refine lv_iload_n hx hb dX4_renew_1 rfl (lv_at hl 1 rfl) ?_
  refine g_callXV (As := [.int p0]) (rest := []) (q0 := 0) C0 G (c_X4_cardAt l D cy (ad := ad) (fr := fr) (bk := bk) (vw := vw) (tk := tk) (to := to) (fk := fk) (fo := fo) (kp := kp) (sp := sp) (lt := lt) (ib := ib) (rw := rw) (cl := cl) (nu := nu) (tv := tv) (tm := tm) (ta := ta) (ml := ml) (tn := tn) (R := R) (p0 := p0) hst) k_X4_cardAt ml_X4_47 rfl rfl dX4_renew_2 rfl rfl hl.1 (Nat.le_of_ble_eq_true rfl) ⟨Nat.le_of_ble_eq_true rfl, Nat.le_of_ble_eq_true rfl⟩ ⟨Nat.le_of_ble_eq_true rfl, Nat.le_of_ble_eq_true rfl⟩ (fun E ce q9 H locs hx9 G hce hcv hcl => ?_) (fun r W2 H locs hp G => ?_)
  · exact g_out C0 G hno hx9 hce hcv hcl (Nat.le_of_ble_eq_true rfl) (Nat.le_of_ble_eq_true rfl)
  obtain ⟨hw, k, hk, rfl, rfl⟩ := hp
  have G := g_wc hw G
  refine W.eq (g2 := F0 m 5 ls [.ref (ad (10 + k))]) rfl ?_
  refine lv_astore_n (lv' := [(2, .ref (ad (10 + k))), (0, .ref (ad 0)), (1, .int (nI k))]) hx hb dX4_renew_5 rfl hl (by decide) rfl (fun ls hl => ?_)
  refine lv_aload_n hx hb dX4_renew_6 rfl (lv_at hl 1 rfl) ?_
  refine g_get (q0 := 0) (v := .ref (ad 4)) C0 G in_X4 rfl rfl 3 (by decide) fl_X4_29 (fun _ h => h) rfl dX4_renew_7 ?_
  refine lv_aload_n hx hb dX4_renew_10 rfl (lv_at hl 1 rfl) ?_
  refine g_get (q0 := 0) (v := .ref (ad 1)) C0 G in_X4 rfl rfl 0 (by decide) fl_X4_11 (fun _ h => h) rfl dX4_renew_11 ?_
  refine g_callVN (As := [.ref (ad 1)]) (rest := []) (q0 := 4) C0 G (c_X1_save l D cy (ad := ad) (fr := fr) (bk := bk) (vw := vw) (tk := tk) (to := to) (fk := fk) (fo := fo) (kp := kp) (sp := sp) (lt := lt) (ib := ib) (rw := rw) (cl := cl) (nu := nu) (tv := tv) (tm := tm) (ta := ta) (ml := ml) (tn := tn) (R := R)  (by omega)) k_X1_save nm_X4_71 rfl rfl dX4_renew_14 rfl rfl hl.1 (Nat.le_of_ble_eq_true rfl) ⟨Nat.le_of_ble_eq_true rfl, Nat.le_of_ble_eq_true rfl⟩ ⟨Nat.le_of_ble_eq_true rfl, Nat.le_of_ble_eq_true rfl⟩ (fun r W2 H locs hp G => ?_)
  obtain ⟨rfl, hw⟩ := hp
  have G := g_wc hw G
  refine W.eq (g2 := F0 m 17 ls []) rfl ?_
  refine lv_aload_n hx hb dX4_renew_17 rfl (lv_at hl 0 rfl) ?_
  refine g_getN (q0 := k + 9) (v := .long ((saU fr kp) k)) C0 G in_X0 (wC_at (k := k) (by omega)) rfl 0 (by decide) nf_X4_89 (fun _ h => h) rfl dX4_renew_18 ?_
  refine g_callS (As := [.long ((saU fr kp) k)]) (rest := []) C0 G (c_J13_bitCount_95d88 l D cy (W1 := wC ad cy (saU fr kp) (saU bk kp) (saU vw kp) tk to fk fo (saK kp) sp lt ib rw cl nu tv tm ta ml tn R) (w := (saU fr kp) k) ) k_J13_bitCount_95d88 ml_X4_93 dX4_renew_21 rfl rfl hl.1 (Nat.le_of_ble_eq_true rfl) ⟨Nat.le_of_ble_eq_true rfl, Nat.le_of_ble_eq_true rfl⟩ ⟨Nat.le_of_ble_eq_true rfl, Nat.le_of_ble_eq_true rfl⟩ (fun r W2 H locs hp G => ?_)
  obtain ⟨rfl, hw⟩ := hp
  have G := g_wc hw G
  refine W.eq (g2 := F0 m 24 ls [.int (nI (pc ((saU fr kp) k)))]) rfl ?_
  refine lv_aload_n hx hb dX4_renew_24 rfl (lv_at hl 0 rfl) ?_
  refine g_getN (q0 := k + 9) (v := .long ((saU bk kp) k)) C0 G in_X0 (wC_at (k := k) (by omega)) rfl 1 (by decide) nf_X4_99 (fun _ h => h) rfl dX4_renew_25 ?_
  refine g_callS (As := [.long ((saU bk kp) k)]) (rest := [.int (nI (pc ((saU fr kp) k)))]) C0 G (c_J13_bitCount_95d88 l D cy (W1 := wC ad cy (saU fr kp) (saU bk kp) (saU vw kp) tk to fk fo (saK kp) sp lt ib rw cl nu tv tm ta ml tn R) (w := (saU bk kp) k) ) k_J13_bitCount_95d88 ml_X4_93 dX4_renew_28 rfl rfl hl.1 (Nat.le_of_ble_eq_true rfl) ⟨Nat.le_of_ble_eq_true rfl, Nat.le_of_ble_eq_true rfl⟩ ⟨Nat.le_of_ble_eq_true rfl, Nat.le_of_ble_eq_true rfl⟩ (fun r W2 H locs hp G => ?_)
  obtain ⟨rfl, hw⟩ := hp
  have G := g_wc hw G
  refine W.eq (g2 := F0 m 31 ls [.int (nI (pc ((saU bk kp) k))), .int (nI (pc ((saU fr kp) k)))]) rfl ?_
  refine lv_iadd hx hb dX4_renew_31 ?_
  refine g_topi (x' := nI ((pc ((saU fr kp) k)) + (pc ((saU bk kp) k)))) (nI_add (pc ((saU fr kp) k)) (pc ((saU bk kp) k))) ?_
  refine lv_istore_n (lv' := [(3, .int (nI ((pc ((saU fr kp) k)) + (pc ((saU bk kp) k))))), (2, .ref (ad (10 + k))), (0, .ref (ad 0)), (1, .int (nI k))]) hx hb dX4_renew_32 rfl hl (by decide) rfl (fun ls hl => ?_)
  refine lv_aload_n hx hb dX4_renew_33 rfl (lv_at hl 1 rfl) ?_
  refine g_callVN (As := []) (rest := []) (q0 := k + 9) C0 G (GE.at (i := k + 9) (wC_at (k := k) (by omega)) (fun R => (c_X0_clear l D cy (R := R) (h := ad (10 + k)) (f := (saU fr kp) k) (b := (saU bk kp) k) (v := (saU vw kp) k)  ))) k_X0_clear nm_X4_102 (wC_at (k := k) (by omega)) rfl dX4_renew_34 rfl rfl hl.1 (Nat.le_of_ble_eq_true rfl) ⟨Nat.le_of_ble_eq_true rfl, Nat.le_of_ble_eq_true rfl⟩ ⟨Nat.le_of_ble_eq_true rfl, Nat.le_of_ble_eq_true rfl⟩ (fun r W2 H locs hp G => ?_)
  obtain ⟨rfl, hw⟩ := hp
  have G : gW D (wC ad cy (va_up (saU fr kp) k 0) (va_up (saU bk kp) k 0) (va_up (saU vw kp) k 0) tk to fk fo (saK kp) sp lt ib rw cl nu tv tm ta ml tn R) (va_A (wC ad cy fr bk vw tk to fk fo kp sp lt ib rw cl nu tv tm ta ml tn R) s.heap.size) s H locs := g_wc (hw.trans (wC_set (k := k) (by omega) rfl rfl rfl)) G
  refine W.eq (g2 := F0 m 37 ls []) rfl ?_
  refine lv_iload_n hx hb dX4_renew_37 rfl (lv_at hl 0 rfl) ?_
  refine W.widen (k := 4) (n := 24) (Nat.le_of_ble_eq_true rfl) (Nat.le_of_ble_eq_true rfl) ?_
  exact vx_ret (g_iret C0 G ⟨k, hk, rfl, rfl, rfl⟩ dX4_renew_38)

set_option maxHeartbeats 4000000 in
set_option maxRecDepth 100000 in
theorem c_X4_copy (l : Launch) (D : va_G) (cy : Nat → ClassId) (ad : Nat → Nat) (fr : Nat → Int64) (bk : Nat → Int64) (vw : Nat → Nat) (tk : Int64) (to : Int64) (fk : Int64) (fo : Int64) (kp : Nat) (sp : Nat) (lt : Nat) (ib : Bool) (rw : Nat) (cl : Nat) (nu : Nat) (tv : Nat) (tm : Nat) (ta : Nat → Int32) (ml : Int32) (tn : Nat) (R : va_W) (p0 : Int32) (p1 : Int32) (hst : l.stackTraces = false) (hkp : kp ≤ 6) : GX l D (gts cy) yX4_copy cX4_copy 6 (some .int) 5 4 24 [.ref (ad 0), .int p0, .int p1] (wC ad cy fr bk vw tk to fk fo kp sp lt ib rw cl nu tv tm ta ml tn R) (fun r W2 => ∃ k : Nat, k < 3 ∧ p0 = nI k ∧ ∃ j : Nat, j < 3 ∧ p1 = nI j ∧ ¬ k = j ∧ r = some (.int (nI (pc (blW ((va_up (va_up (saU fr kp) j 0) j ((fa (sdW ((saU fr kp) k) ((saU bk kp) k)) (onW ((saU fr kp) k) ((saU bk kp) k))).2)) j) ((va_up (va_up (saU bk kp) j 0) j (((fa (sdW ((saU fr kp) k) ((saU bk kp) k)) (onW ((saU fr kp) k) ((saU bk kp) k))).1) &&& (((fa (sdW ((saU fr kp) k) ((saU bk kp) k)) (onW ((saU fr kp) k) ((saU bk kp) k))).2) ^^^ ((-1) : Int64)))) j))))) ∧ W2 = wC ad cy (va_up (va_up (saU fr kp) j 0) j ((fa (sdW ((saU fr kp) k) ((saU bk kp) k)) (onW ((saU fr kp) k) ((saU bk kp) k))).2)) (va_up (va_up (saU bk kp) j 0) j (((fa (sdW ((saU fr kp) k) ((saU bk kp) k)) (onW ((saU fr kp) k) ((saU bk kp) k))).1) &&& (((fa (sdW ((saU fr kp) k) ((saU bk kp) k)) (onW ((saU fr kp) k) ((saU bk kp) k))).2) ^^^ ((-1) : Int64)))) (va_up (saU vw kp) j 0) ((fa (sdW ((saU fr kp) k) ((saU bk kp) k)) (onW ((saU fr kp) k) ((saU bk kp) k))).1) ((fa (sdW ((saU fr kp) k) ((saU bk kp) k)) (onW ((saU fr kp) k) ((saU bk kp) k))).2) fk fo (saK kp) sp lt ib rw cl nu tv tm ta ml tn R) (fun E => E = "java/lang/IndexOutOfBoundsException" ∧ (ir p0 3 && ir p1 3) = false ∨ E = "java/lang/IllegalArgumentException" ∧ ∃ k : Nat, k < 3 ∧ p0 = nI k ∧ p1 = nI k) := by
  refine g_introX (by decide +kernel) (lv := [(0, .ref (ad 0)), (1, .int p0), (2, .int p1)]) rfl (Nat.le_of_ble_eq_true rfl) ?_
  intro p e s m below meth c C0 hno G ls hl
  have hx := C0.1
  have hb := C0.2.1
  have hown := C0.2.2.2.2.2.1
  have hts := C0.2.2.2.2.2.2.1
  refine lv_aload_n hx hb dX4_copy_0 rfl (lv_at hl 0 rfl) ?_
  refine lv_iload_n hx hb dX4_copy_1 rfl (lv_at hl 1 rfl) ?_
  refine g_callXV (As := [.int p0]) (rest := []) (q0 := 0) C0 G (c_X4_cardAt l D cy (ad := ad) (fr := fr) (bk := bk) (vw := vw) (tk := tk) (to := to) (fk := fk) (fo := fo) (kp := kp) (sp := sp) (lt := lt) (ib := ib) (rw := rw) (cl := cl) (nu := nu) (tv := tv) (tm := tm) (ta := ta) (ml := ml) (tn := tn) (R := R) (p0 := p0) hst) k_X4_cardAt ml_X4_47 rfl rfl dX4_copy_2 rfl rfl hl.1 (Nat.le_of_ble_eq_true rfl) ⟨Nat.le_of_ble_eq_true rfl, Nat.le_of_ble_eq_true rfl⟩ ⟨Nat.le_of_ble_eq_true rfl, Nat.le_of_ble_eq_true rfl⟩ (fun E ce q9 H locs hx9 G hce hcv hcl => ?_) (fun r W2 H locs hp G => ?_)
  · exact g_out C0 G hno (Or.inl ⟨hx9.1, by rw [hx9.2]; rfl⟩) hce hcv hcl (Nat.le_of_ble_eq_true rfl) (Nat.le_of_ble_eq_true rfl)
  obtain ⟨hw, k, hk, rfl, rfl⟩ := hp
  have G := g_wc hw G
  refine W.eq (g2 := F0 m 5 ls [.ref (ad (10 + k))]) rfl ?_
  refine lv_astore_n (lv' := [(3, .ref (ad (10 + k))), (0, .ref (ad 0)), (1, .int (nI k)), (2, .int p1)]) hx hb dX4_copy_5 rfl hl (by decide) rfl (fun ls hl => ?_)
  refine lv_aload_n hx hb dX4_copy_6 rfl (lv_at hl 1 rfl) ?_
  refine lv_iload_n hx hb dX4_copy_7 rfl (lv_at hl 3 rfl) ?_
  refine g_callXV (As := [.int p1]) (rest := []) (q0 := 0) C0 G (c_X4_cardAt l D cy (ad := ad) (fr := fr) (bk := bk) (vw := vw) (tk := tk) (to := to) (fk := fk) (fo := fo) (kp := kp) (sp := sp) (lt := lt) (ib := ib) (rw := rw) (cl := cl) (nu := nu) (tv := tv) (tm := tm) (ta := ta) (ml := ml) (tn := tn) (R := R) (p0 := p1) hst) k_X4_cardAt ml_X4_47 rfl rfl dX4_copy_8 rfl rfl hl.1 (Nat.le_of_ble_eq_true rfl) ⟨Nat.le_of_ble_eq_true rfl, Nat.le_of_ble_eq_true rfl⟩ ⟨Nat.le_of_ble_eq_true rfl, Nat.le_of_ble_eq_true rfl⟩ (fun E ce q9 H locs hx9 G hce hcv hcl => ?_) (fun r W2 H locs hp G => ?_)
  · exact g_out C0 G hno (Or.inl ⟨hx9.1, by rw [hx9.2, Bool.and_false]⟩) hce hcv hcl (Nat.le_of_ble_eq_true rfl) (Nat.le_of_ble_eq_true rfl)
  obtain ⟨hw, j, hj, rfl, rfl⟩ := hp
  have G := g_wc hw G
  refine W.eq (g2 := F0 m 11 ls [.ref (ad (10 + j))]) rfl ?_
  refine lv_astore (lv' := [(4, .ref (ad (10 + j))), (3, .ref (ad (10 + k))), (0, .ref (ad 0)), (1, .int (nI k)), (2, .int (nI j))]) hx hb dX4_copy_11 hl (by decide) rfl (fun ls hl => ?_)
  refine lv_iload_n hx hb dX4_copy_13 rfl (lv_at hl 3 rfl) ?_
  refine lv_iload_n hx hb dX4_copy_14 rfl (lv_at hl 4 rfl) ?_
  refine lv_icmp_ne (tgt := 28) hx hb dX4_copy_15 (by decide) (fun c_15 => ?_) (fun c_15 => ?_)
  · skip
    have c_15 : ¬ (k = j) := fun h => c_15 ((nI_eq (a := k) (b := j) (by omega) (by omega)).mpr h)
    refine lv_aload_n hx hb dX4_copy_28 rfl (lv_at hl 2 rfl) ?_
    refine g_get (q0 := 0) (v := .ref (ad 4)) C0 G in_X4 rfl rfl 3 (by decide) fl_X4_29 (fun _ h => h) rfl dX4_copy_29 ?_
    refine lv_aload_n hx hb dX4_copy_32 rfl (lv_at hl 2 rfl) ?_
    refine g_get (q0 := 0) (v := .ref (ad 1)) C0 G in_X4 rfl rfl 0 (by decide) fl_X4_11 (fun _ h => h) rfl dX4_copy_33 ?_
    refine g_callVN (As := [.ref (ad 1)]) (rest := []) (q0 := 4) C0 G (c_X1_save l D cy (ad := ad) (fr := fr) (bk := bk) (vw := vw) (tk := tk) (to := to) (fk := fk) (fo := fo) (kp := kp) (sp := sp) (lt := lt) (ib := ib) (rw := rw) (cl := cl) (nu := nu) (tv := tv) (tm := tm) (ta := ta) (ml := ml) (tn := tn) (R := R)  (by omega)) k_X1_save nm_X4_71 rfl rfl dX4_copy_36 rfl rfl hl.1 (Nat.le_of_ble_eq_true rfl) ⟨Nat.le_of_ble_eq_true rfl, Nat.le_of_ble_eq_true rfl⟩ ⟨Nat.le_of_ble_eq_true rfl, Nat.le_of_ble_eq_true rfl⟩ (fun r W2 H locs hp G => ?_)
    obtain ⟨rfl, hw⟩ := hp
    have G := g_wc hw G
    refine W.eq (g2 := F0 m 39 ls []) rfl ?_
    refine lv_aload_n hx hb dX4_copy_39 rfl (lv_at hl 2 rfl) ?_
    refine lv_aload_n hx hb dX4_copy_40 rfl (lv_at hl 1 rfl) ?_
    refine g_callV (As := [.ref (ad (10 + k))]) (rest := []) (q0 := 0) C0 G (c_X4_tellingOf l D cy (ad := ad) (fr := saU fr kp) (bk := saU bk kp) (vw := saU vw kp) (tk := tk) (to := to) (fk := fk) (fo := fo) (kp := saK kp) (sp := sp) (lt := lt) (ib := ib) (rw := rw) (cl := cl) (nu := nu) (tv := tv) (tm := tm) (ta := ta) (ml := ml) (tn := tn) (R := R) (k := k) (by omega)) k_X4_tellingOf ml_X4_107 rfl rfl dX4_copy_41 rfl rfl hl.1 (Nat.le_of_ble_eq_true rfl) ⟨Nat.le_of_ble_eq_true rfl, Nat.le_of_ble_eq_true rfl⟩ ⟨Nat.le_of_ble_eq_true rfl, Nat.le_of_ble_eq_true rfl⟩ (fun r W2 H locs hp G => ?_)
    obtain ⟨rfl, hw⟩ := hp
    have G := g_wc hw G
    refine W.eq (g2 := F0 m 44 ls [.ref (ad 2)]) rfl ?_
    refine lv_astore (lv' := [(5, .ref (ad 2)), (4, .ref (ad (10 + j))), (3, .ref (ad (10 + k))), (0, .ref (ad 0)), (1, .int (nI k)), (2, .int (nI j))]) hx hb dX4_copy_44 hl (by decide) rfl (fun ls hl => ?_)
    refine lv_aload hx hb dX4_copy_46 (lv_at hl 1 rfl) ?_
    refine g_callVN (As := []) (rest := []) (q0 := j + 9) C0 G (GE.at (i := j + 9) (wC_at (k := j) (by omega)) (fun R => (c_X0_clear l D cy (R := R) (h := ad (10 + j)) (f := (saU fr kp) j) (b := (saU bk kp) j) (v := (saU vw kp) j)  ))) k_X0_clear nm_X4_102 (wC_at (k := j) (by omega)) rfl dX4_copy_48 rfl rfl hl.1 (Nat.le_of_ble_eq_true rfl) ⟨Nat.le_of_ble_eq_true rfl, Nat.le_of_ble_eq_true rfl⟩ ⟨Nat.le_of_ble_eq_true rfl, Nat.le_of_ble_eq_true rfl⟩ (fun r W2 H locs hp G => ?_)
    obtain ⟨rfl, hw⟩ := hp
    have G : gW D (wC ad cy (va_up (saU fr kp) j 0) (va_up (saU bk kp) j 0) (va_up (saU vw kp) j 0) ((fa (sdW ((saU fr kp) k) ((saU bk kp) k)) (onW ((saU fr kp) k) ((saU bk kp) k))).1) ((fa (sdW ((saU fr kp) k) ((saU bk kp) k)) (onW ((saU fr kp) k) ((saU bk kp) k))).2) fk fo (saK kp) sp lt ib rw cl nu tv tm ta ml tn R) (va_A (wC ad cy fr bk vw tk to fk fo kp sp lt ib rw cl nu tv tm ta ml tn R) s.heap.size) s H locs := g_wc (hw.trans (wC_set (k := j) (by omega) rfl rfl rfl)) G
    refine W.eq (g2 := F0 m 51 ls []) rfl ?_
    refine lv_aload hx hb dX4_copy_51 (lv_at hl 1 rfl) ?_
    refine lv_aload hx hb dX4_copy_53 (lv_at hl 0 rfl) ?_
    refine g_getN (q0 := 2) (v := .long ((fa (sdW ((saU fr kp) k) ((saU bk kp) k)) (onW ((saU fr kp) k) ((saU bk kp) k))).2)) C0 G in_X3 rfl rfl 1 (by decide) nf_X4_111 (fun _ h => h) rfl dX4_copy_55 ?_
    refine g_putN (q0 := j + 9) (W2 := wC ad cy (va_up (va_up (saU fr kp) j 0) j ((fa (sdW ((saU fr kp) k) ((saU bk kp) k)) (onW ((saU fr kp) k) ((saU bk kp) k))).2)) (va_up (saU bk kp) j 0) (va_up (saU vw kp) j 0) ((fa (sdW ((saU fr kp) k) ((saU bk kp) k)) (onW ((saU fr kp) k) ((saU bk kp) k))).1) ((fa (sdW ((saU fr kp) k) ((saU bk kp) k)) (onW ((saU fr kp) k) ((saU bk kp) k))).2) fk fo (saK kp) sp lt ib rw cl nu tv tm ta ml tn R) C0 G ft_X0 in_X0 (wC_at (k := j) (by omega)) rfl 0 (by decide) nf_X4_89 (fun _ h => h) rfl rfl rfl (Nat.le_of_ble_eq_true rfl) (wC_set (k := j) (by omega) rfl (va_up_s _ _) (va_up_s _ _)) dX4_copy_58 (fun H locs G => ?_)
    refine lv_aload hx hb dX4_copy_61 (lv_at hl 1 rfl) ?_
    refine lv_aload hx hb dX4_copy_63 (lv_at hl 0 rfl) ?_
    refine g_getN (q0 := 2) (v := .long ((fa (sdW ((saU fr kp) k) ((saU bk kp) k)) (onW ((saU fr kp) k) ((saU bk kp) k))).1)) C0 G in_X3 rfl rfl 0 (by decide) nf_X4_114 (fun _ h => h) rfl dX4_copy_65 ?_
    refine lv_aload hx hb dX4_copy_68 (lv_at hl 0 rfl) ?_
    refine g_getN (q0 := 2) (v := .long ((fa (sdW ((saU fr kp) k) ((saU bk kp) k)) (onW ((saU fr kp) k) ((saU bk kp) k))).2)) C0 G in_X3 rfl rfl 1 (by decide) nf_X4_111 (fun _ h => h) rfl dX4_copy_70 ?_
    refine lv_ldc2 (v := (-1)) hx hb hown (hts _ kl_X4_117) dX4_copy_73 ?_
    refine lv_lxor hx hb dX4_copy_76 ?_
    refine lv_land hx hb dX4_copy_77 ?_
    refine g_putN (q0 := j + 9) (W2 := wC ad cy (va_up (va_up (saU fr kp) j 0) j ((fa (sdW ((saU fr kp) k) ((saU bk kp) k)) (onW ((saU fr kp) k) ((saU bk kp) k))).2)) (va_up (va_up (saU bk kp) j 0) j (((fa (sdW ((saU fr kp) k) ((saU bk kp) k)) (onW ((saU fr kp) k) ((saU bk kp) k))).1) &&& (((fa (sdW ((saU fr kp) k) ((saU bk kp) k)) (onW ((saU fr kp) k) ((saU bk kp) k))).2) ^^^ ((-1) : Int64)))) (va_up (saU vw kp) j 0) ((fa (sdW ((saU fr kp) k) ((saU bk kp) k)) (onW ((saU fr kp) k) ((saU bk kp) k))).1) ((fa (sdW ((saU fr kp) k) ((saU bk kp) k)) (onW ((saU fr kp) k) ((saU bk kp) k))).2) fk fo (saK kp) sp lt ib rw cl nu tv tm ta ml tn R) C0 G ft_X0 in_X0 (wC_at (k := j) (by omega)) rfl 1 (by decide) nf_X4_99 (fun _ h => h) rfl rfl rfl (Nat.le_of_ble_eq_true rfl) (wC_set (k := j) (by omega) (va_up_s _ _) rfl (va_up_s _ _)) dX4_copy_78 (fun H locs G => ?_)
    refine lv_aload hx hb dX4_copy_81 (lv_at hl 1 rfl) ?_
    refine g_callVN (As := []) (rest := []) (q0 := j + 9) C0 G (GE.at (i := j + 9) (wC_at (k := j) (by omega)) (fun R => (c_X0_blank l D cy (R := R) (h := ad (10 + j)) (f := (va_up (va_up (saU fr kp) j 0) j ((fa (sdW ((saU fr kp) k) ((saU bk kp) k)) (onW ((saU fr kp) k) ((saU bk kp) k))).2)) j) (b := (va_up (va_up (saU bk kp) j 0) j (((fa (sdW ((saU fr kp) k) ((saU bk kp) k)) (onW ((saU fr kp) k) ((saU bk kp) k))).1) &&& (((fa (sdW ((saU fr kp) k) ((saU bk kp) k)) (onW ((saU fr kp) k) ((saU bk kp) k))).2) ^^^ ((-1) : Int64)))) j) (v := (va_up (saU vw kp) j 0) j)  ))) k_X0_blank nm_X4_119 (wC_at (k := j) (by omega)) rfl dX4_copy_83 rfl rfl hl.1 (Nat.le_of_ble_eq_true rfl) ⟨Nat.le_of_ble_eq_true rfl, Nat.le_of_ble_eq_true rfl⟩ ⟨Nat.le_of_ble_eq_true rfl, Nat.le_of_ble_eq_true rfl⟩ (fun r W2 H locs hp G => ?_)
    obtain ⟨rfl, hw⟩ := hp
    have G : gW D (wC ad cy (va_up (va_up (saU fr kp) j 0) j ((fa (sdW ((saU fr kp) k) ((saU bk kp) k)) (onW ((saU fr kp) k) ((saU bk kp) k))).2)) (va_up (va_up (saU bk kp) j 0) j (((fa (sdW ((saU fr kp) k) ((saU bk kp) k)) (onW ((saU fr kp) k) ((saU bk kp) k))).1) &&& (((fa (sdW ((saU fr kp) k) ((saU bk kp) k)) (onW ((saU fr kp) k) ((saU bk kp) k))).2) ^^^ ((-1) : Int64)))) (va_up (saU vw kp) j 0) ((fa (sdW ((saU fr kp) k) ((saU bk kp) k)) (onW ((saU fr kp) k) ((saU bk kp) k))).1) ((fa (sdW ((saU fr kp) k) ((saU bk kp) k)) (onW ((saU fr kp) k) ((saU bk kp) k))).2) fk fo (saK kp) sp lt ib rw cl nu tv tm ta ml tn R) (va_A (wC ad cy fr bk vw tk to fk fo kp sp lt ib rw cl nu tv tm ta ml tn R) s.heap.size) s H locs := g_wc (hw.trans (wC_set (k := j) (by omega) (va_up_s _ _) (va_up_s _ _) (va_up_s _ _))) G
    refine W.eq (g2 := F0 m 86 ls [.long (blW ((va_up (va_up (saU fr kp) j 0) j ((fa (sdW ((saU fr kp) k) ((saU bk kp) k)) (onW ((saU fr kp) k) ((saU bk kp) k))).2)) j) ((va_up (va_up (saU bk kp) j 0) j (((fa (sdW ((saU fr kp) k) ((saU bk kp) k)) (onW ((saU fr kp) k) ((saU bk kp) k))).1) &&& (((fa (sdW ((saU fr kp) k) ((saU bk kp) k)) (onW ((saU fr kp) k) ((saU bk kp) k))).2) ^^^ ((-1) : Int64)))) j))]) rfl ?_
    refine g_callS (As := [.long (blW ((va_up (va_up (saU fr kp) j 0) j ((fa (sdW ((saU fr kp) k) ((saU bk kp) k)) (onW ((saU fr kp) k) ((saU bk kp) k))).2)) j) ((va_up (va_up (saU bk kp) j 0) j (((fa (sdW ((saU fr kp) k) ((saU bk kp) k)) (onW ((saU fr kp) k) ((saU bk kp) k))).1) &&& (((fa (sdW ((saU fr kp) k) ((saU bk kp) k)) (onW ((saU fr kp) k) ((saU bk kp) k))).2) ^^^ ((-1) : Int64)))) j))]) (rest := []) C0 G (c_J13_bitCount_95d88 l D cy (W1 := wC ad cy (va_up (va_up (saU fr kp) j 0) j ((fa (sdW ((saU fr kp) k) ((saU bk kp) k)) (onW ((saU fr kp) k) ((saU bk kp) k))).2)) (va_up (va_up (saU bk kp) j 0) j (((fa (sdW ((saU fr kp) k) ((saU bk kp) k)) (onW ((saU fr kp) k) ((saU bk kp) k))).1) &&& (((fa (sdW ((saU fr kp) k) ((saU bk kp) k)) (onW ((saU fr kp) k) ((saU bk kp) k))).2) ^^^ ((-1) : Int64)))) (va_up (saU vw kp) j 0) ((fa (sdW ((saU fr kp) k) ((saU bk kp) k)) (onW ((saU fr kp) k) ((saU bk kp) k))).1) ((fa (sdW ((saU fr kp) k) ((saU bk kp) k)) (onW ((saU fr kp) k) ((saU bk kp) k))).2) fk fo (saK kp) sp lt ib rw cl nu tv tm ta ml tn R) (w := blW ((va_up (va_up (saU fr kp) j 0) j ((fa (sdW ((saU fr kp) k) ((saU bk kp) k)) (onW ((saU fr kp) k) ((saU bk kp) k))).2)) j) ((va_up (va_up (saU bk kp) j 0) j (((fa (sdW ((saU fr kp) k) ((saU bk kp) k)) (onW ((saU fr kp) k) ((saU bk kp) k))).1) &&& (((fa (sdW ((saU fr kp) k) ((saU bk kp) k)) (onW ((saU fr kp) k) ((saU bk kp) k))).2) ^^^ ((-1) : Int64)))) j)) ) k_J13_bitCount_95d88 ml_X4_93 dX4_copy_86 rfl rfl hl.1 (Nat.le_of_ble_eq_true rfl) ⟨Nat.le_of_ble_eq_true rfl, Nat.le_of_ble_eq_true rfl⟩ ⟨Nat.le_of_ble_eq_true rfl, Nat.le_of_ble_eq_true rfl⟩ (fun r W2 H locs hp G => ?_)
    obtain ⟨rfl, hw⟩ := hp
    have G := g_wc hw G
    refine W.eq (g2 := F0 m 89 ls [.int (nI (pc (blW ((va_up (va_up (saU fr kp) j 0) j ((fa (sdW ((saU fr kp) k) ((saU bk kp) k)) (onW ((saU fr kp) k) ((saU bk kp) k))).2)) j) ((va_up (va_up (saU bk kp) j 0) j (((fa (sdW ((saU fr kp) k) ((saU bk kp) k)) (onW ((saU fr kp) k) ((saU bk kp) k))).1) &&& (((fa (sdW ((saU fr kp) k) ((saU bk kp) k)) (onW ((saU fr kp) k) ((saU bk kp) k))).2) ^^^ ((-1) : Int64)))) j))))]) rfl ?_
    refine W.widen (k := 4) (n := 24) (Nat.le_of_ble_eq_true rfl) (Nat.le_of_ble_eq_true rfl) ?_
    exact vx_ret (g_iret C0 G ⟨k, hk, rfl, j, hj, rfl, c_15, rfl, rfl⟩ dX4_copy_89)
  · skip
    have c_15 : k = j := (nI_eq (a := k) (b := j) (by omega) (by omega)).mp c_15
    exact g_throwS (names := ["java/lang/RuntimeException", "java/lang/Exception"]) C0 hst hno G hl.1 (by decide +kernel) (by decide +kernel) tw_iae xl_X4_55 ti_iae ⟨rfl, sr_105⟩ dX4_copy_18 dX4_copy_21 dX4_copy_22 dX4_copy_24 dX4_copy_27 ⟨(Nat.le_of_ble_eq_true rfl), (Nat.le_of_ble_eq_true rfl)⟩ (Nat.le_of_ble_eq_true rfl) (Nat.le_of_ble_eq_true rfl) (Or.inr ⟨rfl, k, hk, rfl, by rw [c_15]⟩) (Nat.le_of_ble_eq_true rfl) (Nat.le_of_ble_eq_true rfl)

set_option maxHeartbeats 4000000 in
set_option maxRecDepth 100000 in
theorem c_X4_wear (l : Launch) (D : va_G) (cy : Nat → ClassId) (ad : Nat → Nat) (fr : Nat → Int64) (bk : Nat → Int64) (vw : Nat → Nat) (tk : Int64) (to : Int64) (fk : Int64) (fo : Int64) (kp : Nat) (sp : Nat) (lt : Nat) (ib : Bool) (rw : Nat) (cl : Nat) (nu : Nat) (tv : Nat) (tm : Nat) (ta : Nat → Int32) (ml : Int32) (tn : Nat) (R : va_W) (p0 : Int32) (p1 : Int32) (p2 : Int32) (hst : l.stackTraces = false) (hkp : kp ≤ 6) (hvw : ∀ k, k < 3 → vw k < 4) : GX l D (gts cy) yX4_wear cX4_wear 6 (some .int) 3 4 24 [.ref (ad 0), .int p0, .int p1, .int p2] (wC ad cy fr bk vw tk to fk fo kp sp lt ib rw cl nu tv tm ta ml tn R) (fun r W2 => ∃ k : Nat, k < 3 ∧ p0 = nI k ∧ ∃ i : Nat, i < 8 ∧ p1 = nI i ∧ ∃ j : Nat, j < 8 ∧ p2 = nI j ∧ hoB (fr k) (bk k) (sbB (vw k)) (scN (vw k) i j) = false ∧ r = some (.int (kdI ((va_up (saU fr kp) k (shF ((saU fr kp) k) (sbB ((saU vw kp) k)) (scN (vw k) i j) true)) k) ((va_up (saU bk kp) k (shB ((saU bk kp) k) (sbB ((saU vw kp) k)) (scN (vw k) i j) true)) k) (scN (vw k) i j))) ∧ W2 = wC ad cy (va_up (saU fr kp) k (shF ((saU fr kp) k) (sbB ((saU vw kp) k)) (scN (vw k) i j) true)) (va_up (saU bk kp) k (shB ((saU bk kp) k) (sbB ((saU vw kp) k)) (scN (vw k) i j) true)) (saU vw kp) tk to fk fo (saK kp) sp lt ib rw cl nu tv tm ta ml tn R) (fun E => E = "java/lang/IndexOutOfBoundsException" ∧ (ir p0 3 && ir p1 8 && ir p2 8) = false ∨ E = "java/lang/IllegalStateException" ∧ ∃ k : Nat, k < 3 ∧ p0 = nI k ∧ ∃ i : Nat, i < 8 ∧ p1 = nI i ∧ ∃ j : Nat, j < 8 ∧ p2 = nI j ∧ hoB (fr k) (bk k) (sbB (vw k)) (scN (vw k) i j) = true) := by
  refine g_introX (by decide +kernel) (lv := [(0, .ref (ad 0)), (1, .int p0), (2, .int p1), (3, .int p2)]) rfl (Nat.le_of_ble_eq_true rfl) ?_
  intro p e s m below meth c C0 hno G ls hl
  have hx := C0.1
  have hb := C0.2.1
  have hown := C0.2.2.2.2.2.1
  have hts := C0.2.2.2.2.2.2.1
  refine lv_aload_n hx hb dX4_wear_0 rfl (lv_at hl 0 rfl) ?_
  refine lv_iload_n hx hb dX4_wear_1 rfl (lv_at hl 1 rfl) ?_
  refine g_callXV (As := [.int p0]) (rest := []) (q0 := 0) C0 G (c_X4_cardAt l D cy (ad := ad) (fr := fr) (bk := bk) (vw := vw) (tk := tk) (to := to) (fk := fk) (fo := fo) (kp := kp) (sp := sp) (lt := lt) (ib := ib) (rw := rw) (cl := cl) (nu := nu) (tv := tv) (tm := tm) (ta := ta) (ml := ml) (tn := tn) (R := R) (p0 := p0) hst) k_X4_cardAt ml_X4_47 rfl rfl dX4_wear_2 rfl rfl hl.1 (Nat.le_of_ble_eq_true rfl) ⟨Nat.le_of_ble_eq_true rfl, Nat.le_of_ble_eq_true rfl⟩ ⟨Nat.le_of_ble_eq_true rfl, Nat.le_of_ble_eq_true rfl⟩ (fun E ce q9 H locs hx9 G hce hcv hcl => ?_) (fun r W2 H locs hp G => ?_)
  · exact g_out C0 G hno (Or.inl ⟨hx9.1, by rw [hx9.2]; rfl⟩) hce hcv hcl (Nat.le_of_ble_eq_true rfl) (Nat.le_of_ble_eq_true rfl)
  obtain ⟨hw, k, hk, rfl, rfl⟩ := hp
  have G := g_wc hw G
  refine W.eq (g2 := F0 m 5 ls [.ref (ad (10 + k))]) rfl ?_
  refine lv_astore (lv' := [(4, .ref (ad (10 + k))), (0, .ref (ad 0)), (1, .int (nI k)), (2, .int p1), (3, .int p2)]) hx hb dX4_wear_5 hl (by decide) rfl (fun ls hl => ?_)
  refine lv_iload_n hx hb dX4_wear_7 rfl (lv_at hl 3 rfl) ?_
  refine lv_iload_n hx hb dX4_wear_8 rfl (lv_at hl 4 rfl) ?_
  refine g_callXS (As := [.int p1, .int p2]) (rest := []) C0 G (c_X4_requireCell l D cy (W1 := wC ad cy fr bk vw tk to fk fo kp sp lt ib rw cl nu tv tm ta ml tn R) (p0 := p1) (p1 := p2) hst) k_X4_requireCell ml_X4_123 dX4_wear_9 rfl rfl hl.1 (Nat.le_of_ble_eq_true rfl) ⟨Nat.le_of_ble_eq_true rfl, Nat.le_of_ble_eq_true rfl⟩ ⟨Nat.le_of_ble_eq_true rfl, Nat.le_of_ble_eq_true rfl⟩ (fun E ce q9 H locs hx9 G hce hcv hcl => ?_) (fun r W2 H locs hp G => ?_)
  · exact g_out C0 G hno (Or.inl ⟨hx9.1, by have h8 := hx9.2; rw [Bool.and_assoc, h8, Bool.and_false]⟩) hce hcv hcl (Nat.le_of_ble_eq_true rfl) (Nat.le_of_ble_eq_true rfl)
  obtain ⟨rfl, hw, i, hi, rfl, j, hj, rfl⟩ := hp
  have G := g_wc hw G
  refine W.eq (g2 := F0 m 12 ls []) rfl ?_
  have hvk := hvw k hk
  have hvs : saU vw kp k < 4 := by rw [saU_lo hk]; exact hvk
  have hsc := scN_lt (v := vw k) hi hj
  refine lv_aload hx hb dX4_wear_12 (lv_at hl 0 rfl) ?_
  refine lv_iload_n hx hb dX4_wear_14 rfl (lv_at hl 3 rfl) ?_
  refine lv_iload_n hx hb dX4_wear_15 rfl (lv_at hl 4 rfl) ?_
  refine g_callVN (As := [.int (nI i), .int (nI j)]) (rest := []) (q0 := k + 9) C0 G (GE.at (i := k + 9) (wC_at (k := k) (by omega)) (fun R => (c_X0_seenCell l D cy (R := R) (h := ad (10 + k)) (f := fr k) (b := bk k) (v := vw k) (row := i) (col := j) (by omega) (by omega) (by omega)))) k_X0_seenCell nm_X4_127 (wC_at (k := k) (by omega)) rfl dX4_wear_16 rfl rfl hl.1 (Nat.le_of_ble_eq_true rfl) ⟨Nat.le_of_ble_eq_true rfl, Nat.le_of_ble_eq_true rfl⟩ ⟨Nat.le_of_ble_eq_true rfl, Nat.le_of_ble_eq_true rfl⟩ (fun r W2 H locs hp G => ?_)
  obtain ⟨rfl, hw⟩ := hp
  have G : gW D (wC ad cy fr bk vw tk to fk fo kp sp lt ib rw cl nu tv tm ta ml tn R) (va_A (wC ad cy fr bk vw tk to fk fo kp sp lt ib rw cl nu tv tm ta ml tn R) s.heap.size) s H locs := g_wc (hw.trans (wC_set (k := k) (by omega) (va_up_s _ _) (va_up_s _ _) (va_up_s _ _))) G
  refine W.eq (g2 := F0 m 19 ls [.int (nI (scN (vw k) i j))]) rfl ?_
  refine lv_istore (lv' := [(5, .int (nI (scN (vw k) i j))), (4, .ref (ad (10 + k))), (0, .ref (ad 0)), (1, .int (nI k)), (2, .int (nI i)), (3, .int (nI j))]) hx hb dX4_wear_19 hl (by decide) rfl (fun ls hl => ?_)
  refine lv_aload hx hb dX4_wear_21 (lv_at hl 1 rfl) ?_
  refine lv_aload hx hb dX4_wear_23 (lv_at hl 1 rfl) ?_
  refine g_callVN (As := []) (rest := [.ref (ad (10 + k))]) (q0 := k + 9) C0 G (GE.at (i := k + 9) (wC_at (k := k) (by omega)) (fun R => (c_X0_showsBack l D cy (R := R) (h := ad (10 + k)) (f := fr k) (b := bk k) (v := vw k)  (by omega)))) k_X0_showsBack nm_X4_130 (wC_at (k := k) (by omega)) rfl dX4_wear_25 rfl rfl hl.1 (Nat.le_of_ble_eq_true rfl) ⟨Nat.le_of_ble_eq_true rfl, Nat.le_of_ble_eq_true rfl⟩ ⟨Nat.le_of_ble_eq_true rfl, Nat.le_of_ble_eq_true rfl⟩ (fun r W2 H locs hp G => ?_)
  obtain ⟨rfl, hw⟩ := hp
  have G : gW D (wC ad cy fr bk vw tk to fk fo kp sp lt ib rw cl nu tv tm ta ml tn R) (va_A (wC ad cy fr bk vw tk to fk fo kp sp lt ib rw cl nu tv tm ta ml tn R) s.heap.size) s H locs := g_wc (hw.trans (wC_set (k := k) (by omega) (va_up_s _ _) (va_up_s _ _) (va_up_s _ _))) G
  refine W.eq (g2 := F0 m 28 ls [.int (bI (sbB (vw k))), .ref (ad (10 + k))]) rfl ?_
  refine lv_iload hx hb dX4_wear_28 (lv_at hl 0 rfl) ?_
  refine g_callVN (As := [.int (bI (sbB (vw k))), .int (nI (scN (vw k) i j))]) (rest := []) (q0 := k + 9) C0 G (GE.at (i := k + 9) (wC_at (k := k) (by omega)) (fun R => (c_X0_hasHole l D cy (R := R) (h := ad (10 + k)) (f := fr k) (b := bk k) (v := vw k) (ib := sbB (vw k)) (k := scN (vw k) i j) (by omega)))) k_X0_hasHole nm_X4_133 (wC_at (k := k) (by omega)) rfl dX4_wear_30 rfl rfl hl.1 (Nat.le_of_ble_eq_true rfl) ⟨Nat.le_of_ble_eq_true rfl, Nat.le_of_ble_eq_true rfl⟩ ⟨Nat.le_of_ble_eq_true rfl, Nat.le_of_ble_eq_true rfl⟩ (fun r W2 H locs hp G => ?_)
  obtain ⟨rfl, hw⟩ := hp
  have G : gW D (wC ad cy fr bk vw tk to fk fo kp sp lt ib rw cl nu tv tm ta ml tn R) (va_A (wC ad cy fr bk vw tk to fk fo kp sp lt ib rw cl nu tv tm ta ml tn R) s.heap.size) s H locs := g_wc (hw.trans (wC_set (k := k) (by omega) (va_up_s _ _) (va_up_s _ _) (va_up_s _ _))) G
  refine W.eq (g2 := F0 m 33 ls [.int (bI (hoB (fr k) (bk k) (sbB (vw k)) (scN (vw k) i j)))]) rfl ?_
  refine lv_if_eq (tgt := 46) hx hb dX4_wear_33 (by decide) (fun c_33 => ?_) (fun c_33 => ?_)
  · skip
    have c_33 : (hoB (fr k) (bk k) (sbB (vw k)) (scN (vw k) i j)) = false := bI_f c_33
    refine lv_aload_n hx hb dX4_wear_46 rfl (lv_at hl 2 rfl) ?_
    refine g_get (q0 := 0) (v := .ref (ad 4)) C0 G in_X4 rfl rfl 3 (by decide) fl_X4_29 (fun _ h => h) rfl dX4_wear_47 ?_
    refine lv_aload_n hx hb dX4_wear_50 rfl (lv_at hl 2 rfl) ?_
    refine g_get (q0 := 0) (v := .ref (ad 1)) C0 G in_X4 rfl rfl 0 (by decide) fl_X4_11 (fun _ h => h) rfl dX4_wear_51 ?_
    refine g_callVN (As := [.ref (ad 1)]) (rest := []) (q0 := 4) C0 G (c_X1_save l D cy (ad := ad) (fr := fr) (bk := bk) (vw := vw) (tk := tk) (to := to) (fk := fk) (fo := fo) (kp := kp) (sp := sp) (lt := lt) (ib := ib) (rw := rw) (cl := cl) (nu := nu) (tv := tv) (tm := tm) (ta := ta) (ml := ml) (tn := tn) (R := R)  (by omega)) k_X1_save nm_X4_71 rfl rfl dX4_wear_54 rfl rfl hl.1 (Nat.le_of_ble_eq_true rfl) ⟨Nat.le_of_ble_eq_true rfl, Nat.le_of_ble_eq_true rfl⟩ ⟨Nat.le_of_ble_eq_true rfl, Nat.le_of_ble_eq_true rfl⟩ (fun r W2 H locs hp G => ?_)
    obtain ⟨rfl, hw⟩ := hp
    have G := g_wc hw G
    refine W.eq (g2 := F0 m 57 ls []) rfl ?_
    refine lv_aload hx hb dX4_wear_57 (lv_at hl 1 rfl) ?_
    refine lv_aload hx hb dX4_wear_59 (lv_at hl 1 rfl) ?_
    refine g_callVN (As := []) (rest := [.ref (ad (10 + k))]) (q0 := k + 9) C0 G (GE.at (i := k + 9) (wC_at (k := k) (by omega)) (fun R => (c_X0_showsBack l D cy (R := R) (h := ad (10 + k)) (f := (saU fr kp) k) (b := (saU bk kp) k) (v := (saU vw kp) k)  (by omega)))) k_X0_showsBack nm_X4_130 (wC_at (k := k) (by omega)) rfl dX4_wear_61 rfl rfl hl.1 (Nat.le_of_ble_eq_true rfl) ⟨Nat.le_of_ble_eq_true rfl, Nat.le_of_ble_eq_true rfl⟩ ⟨Nat.le_of_ble_eq_true rfl, Nat.le_of_ble_eq_true rfl⟩ (fun r W2 H locs hp G => ?_)
    obtain ⟨rfl, hw⟩ := hp
    have G : gW D (wC ad cy (saU fr kp) (saU bk kp) (saU vw kp) tk to fk fo (saK kp) sp lt ib rw cl nu tv tm ta ml tn R) (va_A (wC ad cy fr bk vw tk to fk fo kp sp lt ib rw cl nu tv tm ta ml tn R) s.heap.size) s H locs := g_wc (hw.trans (wC_set (k := k) (by omega) (va_up_s _ _) (va_up_s _ _) (va_up_s _ _))) G
    refine W.eq (g2 := F0 m 64 ls [.int (bI (sbB ((saU vw kp) k))), .ref (ad (10 + k))]) rfl ?_
    refine lv_iload hx hb dX4_wear_64 (lv_at hl 0 rfl) ?_
    refine lv_iconst (v := 1) hx hb dX4_wear_66 (by decide) ?_
    refine g_callVN (As := [.int (bI (sbB ((saU vw kp) k))), .int (nI (scN (vw k) i j)), .int 1]) (rest := []) (q0 := k + 9) C0 G (GE.at (i := k + 9) (wC_at (k := k) (by omega)) (fun R => (c_X0_setHole l D cy (R := R) (h := ad (10 + k)) (f := (saU fr kp) k) (b := (saU bk kp) k) (v := (saU vw kp) k) (ib := sbB ((saU vw kp) k)) (k := scN (vw k) i j) (ho := true) (by omega)))) k_X0_setHole nm_X4_139 (wC_at (k := k) (by omega)) rfl dX4_wear_67 rfl rfl hl.1 (Nat.le_of_ble_eq_true rfl) ⟨Nat.le_of_ble_eq_true rfl, Nat.le_of_ble_eq_true rfl⟩ ⟨Nat.le_of_ble_eq_true rfl, Nat.le_of_ble_eq_true rfl⟩ (fun r W2 H locs hp G => ?_)
    obtain ⟨rfl, hw⟩ := hp
    have G : gW D (wC ad cy (va_up (saU fr kp) k (shF ((saU fr kp) k) (sbB ((saU vw kp) k)) (scN (vw k) i j) true)) (va_up (saU bk kp) k (shB ((saU bk kp) k) (sbB ((saU vw kp) k)) (scN (vw k) i j) true)) (saU vw kp) tk to fk fo (saK kp) sp lt ib rw cl nu tv tm ta ml tn R) (va_A (wC ad cy fr bk vw tk to fk fo kp sp lt ib rw cl nu tv tm ta ml tn R) s.heap.size) s H locs := g_wc (hw.trans (wC_set (k := k) (by omega) rfl rfl (va_up_s _ _))) G
    refine W.eq (g2 := F0 m 70 ls []) rfl ?_
    refine lv_aload hx hb dX4_wear_70 (lv_at hl 1 rfl) ?_
    refine lv_iload hx hb dX4_wear_72 (lv_at hl 0 rfl) ?_
    refine g_callVN (As := [.int (nI (scN (vw k) i j))]) (rest := []) (q0 := k + 9) C0 G (GE.at (i := k + 9) (wC_at (k := k) (by omega)) (fun R => (c_X0_kindAt l D cy (R := R) (h := ad (10 + k)) (f := (va_up (saU fr kp) k (shF ((saU fr kp) k) (sbB ((saU vw kp) k)) (scN (vw k) i j) true)) k) (b := (va_up (saU bk kp) k (shB ((saU bk kp) k) (sbB ((saU vw kp) k)) (scN (vw k) i j) true)) k) (v := (saU vw kp) k) (k := scN (vw k) i j) (by omega)))) k_X0_kindAt nm_X4_143 (wC_at (k := k) (by omega)) rfl dX4_wear_74 rfl rfl hl.1 (Nat.le_of_ble_eq_true rfl) ⟨Nat.le_of_ble_eq_true rfl, Nat.le_of_ble_eq_true rfl⟩ ⟨Nat.le_of_ble_eq_true rfl, Nat.le_of_ble_eq_true rfl⟩ (fun r W2 H locs hp G => ?_)
    obtain ⟨rfl, hw⟩ := hp
    have G : gW D (wC ad cy (va_up (saU fr kp) k (shF ((saU fr kp) k) (sbB ((saU vw kp) k)) (scN (vw k) i j) true)) (va_up (saU bk kp) k (shB ((saU bk kp) k) (sbB ((saU vw kp) k)) (scN (vw k) i j) true)) (saU vw kp) tk to fk fo (saK kp) sp lt ib rw cl nu tv tm ta ml tn R) (va_A (wC ad cy fr bk vw tk to fk fo kp sp lt ib rw cl nu tv tm ta ml tn R) s.heap.size) s H locs := g_wc (hw.trans (wC_set (k := k) (by omega) (va_up_s _ _) (va_up_s _ _) (va_up_s _ _))) G
    refine W.eq (g2 := F0 m 77 ls [.int (kdI ((va_up (saU fr kp) k (shF ((saU fr kp) k) (sbB ((saU vw kp) k)) (scN (vw k) i j) true)) k) ((va_up (saU bk kp) k (shB ((saU bk kp) k) (sbB ((saU vw kp) k)) (scN (vw k) i j) true)) k) (scN (vw k) i j))]) rfl ?_
    refine W.widen (k := 4) (n := 24) (Nat.le_of_ble_eq_true rfl) (Nat.le_of_ble_eq_true rfl) ?_
    exact vx_ret (g_iret C0 G ⟨k, hk, rfl, i, hi, rfl, j, hj, rfl, c_33, rfl, rfl⟩ dX4_wear_77)
  · skip
    have c_33 : (hoB (fr k) (bk k) (sbB (vw k)) (scN (vw k) i j)) = true := bI_t c_33
    exact g_throwS (names := ["java/lang/RuntimeException", "java/lang/Exception"]) C0 hst hno G hl.1 (by decide +kernel) (by decide +kernel) tw_ise xl_X4_66 ti_ise ⟨rfl, sr_137⟩ dX4_wear_36 dX4_wear_39 dX4_wear_40 dX4_wear_42 dX4_wear_45 ⟨(Nat.le_of_ble_eq_true rfl), (Nat.le_of_ble_eq_true rfl)⟩ (Nat.le_of_ble_eq_true rfl) (Nat.le_of_ble_eq_true rfl) (Or.inr ⟨rfl, k, hk, rfl, i, hi, rfl, j, hj, rfl, c_33⟩) (Nat.le_of_ble_eq_true rfl) (Nat.le_of_ble_eq_true rfl)

set_option maxHeartbeats 4000000 in
set_option maxRecDepth 100000 in
theorem c_X4_lose (l : Launch) (D : va_G) (cy : Nat → ClassId) (ad : Nat → Nat) (fr : Nat → Int64) (bk : Nat → Int64) (vw : Nat → Nat) (tk : Int64) (to : Int64) (fk : Int64) (fo : Int64) (kp : Nat) (sp : Nat) (lt : Nat) (ib : Bool) (rw : Nat) (cl : Nat) (nu : Nat) (tv : Nat) (tm : Nat) (ta : Nat → Int32) (ml : Int32) (tn : Nat) (R : va_W) (p0 : Int32) (p1 : Int32) (p2 : Int32) (hst : l.stackTraces = false) (hkp : kp ≤ 6) (hvw : ∀ k, k < 3 → vw k < 4) : GX l D (gts cy) yX4_lose cX4_lose 6 (some .int) 3 4 24 [.ref (ad 0), .int p0, .int p1, .int p2] (wC ad cy fr bk vw tk to fk fo kp sp lt ib rw cl nu tv tm ta ml tn R) (fun r W2 => ∃ k : Nat, k < 3 ∧ p0 = nI k ∧ ∃ i : Nat, i < 8 ∧ p1 = nI i ∧ ∃ j : Nat, j < 8 ∧ p2 = nI j ∧ hoB (fr k) (bk k) (sbB (vw k)) (scN (vw k) i j) = true ∧ r = some (.int (kdI ((va_up (saU fr kp) k (shF ((saU fr kp) k) (sbB ((saU vw kp) k)) (scN (vw k) i j) false)) k) ((va_up (saU bk kp) k (shB ((saU bk kp) k) (sbB ((saU vw kp) k)) (scN (vw k) i j) false)) k) (scN (vw k) i j))) ∧ W2 = wC ad cy (va_up (saU fr kp) k (shF ((saU fr kp) k) (sbB ((saU vw kp) k)) (scN (vw k) i j) false)) (va_up (saU bk kp) k (shB ((saU bk kp) k) (sbB ((saU vw kp) k)) (scN (vw k) i j) false)) (saU vw kp) tk to fk fo (saK kp) sp lt ib rw cl nu tv tm ta ml tn R) (fun E => E = "java/lang/IndexOutOfBoundsException" ∧ (ir p0 3 && ir p1 8 && ir p2 8) = false ∨ E = "java/lang/IllegalStateException" ∧ ∃ k : Nat, k < 3 ∧ p0 = nI k ∧ ∃ i : Nat, i < 8 ∧ p1 = nI i ∧ ∃ j : Nat, j < 8 ∧ p2 = nI j ∧ hoB (fr k) (bk k) (sbB (vw k)) (scN (vw k) i j) = false) := by
  refine g_introX (by decide +kernel) (lv := [(0, .ref (ad 0)), (1, .int p0), (2, .int p1), (3, .int p2)]) rfl (Nat.le_of_ble_eq_true rfl) ?_
  intro p e s m below meth c C0 hno G ls hl
  have hx := C0.1
  have hb := C0.2.1
  have hown := C0.2.2.2.2.2.1
  have hts := C0.2.2.2.2.2.2.1
  refine lv_aload_n hx hb dX4_lose_0 rfl (lv_at hl 0 rfl) ?_
  refine lv_iload_n hx hb dX4_lose_1 rfl (lv_at hl 1 rfl) ?_
  refine g_callXV (As := [.int p0]) (rest := []) (q0 := 0) C0 G (c_X4_cardAt l D cy (ad := ad) (fr := fr) (bk := bk) (vw := vw) (tk := tk) (to := to) (fk := fk) (fo := fo) (kp := kp) (sp := sp) (lt := lt) (ib := ib) (rw := rw) (cl := cl) (nu := nu) (tv := tv) (tm := tm) (ta := ta) (ml := ml) (tn := tn) (R := R) (p0 := p0) hst) k_X4_cardAt ml_X4_47 rfl rfl dX4_lose_2 rfl rfl hl.1 (Nat.le_of_ble_eq_true rfl) ⟨Nat.le_of_ble_eq_true rfl, Nat.le_of_ble_eq_true rfl⟩ ⟨Nat.le_of_ble_eq_true rfl, Nat.le_of_ble_eq_true rfl⟩ (fun E ce q9 H locs hx9 G hce hcv hcl => ?_) (fun r W2 H locs hp G => ?_)
  · exact g_out C0 G hno (Or.inl ⟨hx9.1, by rw [hx9.2]; rfl⟩) hce hcv hcl (Nat.le_of_ble_eq_true rfl) (Nat.le_of_ble_eq_true rfl)
  obtain ⟨hw, k, hk, rfl, rfl⟩ := hp
  have G := g_wc hw G
  refine W.eq (g2 := F0 m 5 ls [.ref (ad (10 + k))]) rfl ?_
  refine lv_astore (lv' := [(4, .ref (ad (10 + k))), (0, .ref (ad 0)), (1, .int (nI k)), (2, .int p1), (3, .int p2)]) hx hb dX4_lose_5 hl (by decide) rfl (fun ls hl => ?_)
  refine lv_iload_n hx hb dX4_lose_7 rfl (lv_at hl 3 rfl) ?_
  refine lv_iload_n hx hb dX4_lose_8 rfl (lv_at hl 4 rfl) ?_
  refine g_callXS (As := [.int p1, .int p2]) (rest := []) C0 G (c_X4_requireCell l D cy (W1 := wC ad cy fr bk vw tk to fk fo kp sp lt ib rw cl nu tv tm ta ml tn R) (p0 := p1) (p1 := p2) hst) k_X4_requireCell ml_X4_123 dX4_lose_9 rfl rfl hl.1 (Nat.le_of_ble_eq_true rfl) ⟨Nat.le_of_ble_eq_true rfl, Nat.le_of_ble_eq_true rfl⟩ ⟨Nat.le_of_ble_eq_true rfl, Nat.le_of_ble_eq_true rfl⟩ (fun E ce q9 H locs hx9 G hce hcv hcl => ?_) (fun r W2 H locs hp G => ?_)
  · exact g_out C0 G hno (Or.inl ⟨hx9.1, by have h8 := hx9.2; rw [Bool.and_assoc, h8, Bool.and_false]⟩) hce hcv hcl (Nat.le_of_ble_eq_true rfl) (Nat.le_of_ble_eq_true rfl)
  obtain ⟨rfl, hw, i, hi, rfl, j, hj, rfl⟩ := hp
  have G := g_wc hw G
  refine W.eq (g2 := F0 m 12 ls []) rfl ?_
  have hvk := hvw k hk
  have hvs : saU vw kp k < 4 := by rw [saU_lo hk]; exact hvk
  have hsc := scN_lt (v := vw k) hi hj
  refine lv_aload hx hb dX4_lose_12 (lv_at hl 0 rfl) ?_
  refine lv_iload_n hx hb dX4_lose_14 rfl (lv_at hl 3 rfl) ?_
  refine lv_iload_n hx hb dX4_lose_15 rfl (lv_at hl 4 rfl) ?_
  refine g_callVN (As := [.int (nI i), .int (nI j)]) (rest := []) (q0 := k + 9) C0 G (GE.at (i := k + 9) (wC_at (k := k) (by omega)) (fun R => (c_X0_seenCell l D cy (R := R) (h := ad (10 + k)) (f := fr k) (b := bk k) (v := vw k) (row := i) (col := j) (by omega) (by omega) (by omega)))) k_X0_seenCell nm_X4_127 (wC_at (k := k) (by omega)) rfl dX4_lose_16 rfl rfl hl.1 (Nat.le_of_ble_eq_true rfl) ⟨Nat.le_of_ble_eq_true rfl, Nat.le_of_ble_eq_true rfl⟩ ⟨Nat.le_of_ble_eq_true rfl, Nat.le_of_ble_eq_true rfl⟩ (fun r W2 H locs hp G => ?_)
  obtain ⟨rfl, hw⟩ := hp
  have G : gW D (wC ad cy fr bk vw tk to fk fo kp sp lt ib rw cl nu tv tm ta ml tn R) (va_A (wC ad cy fr bk vw tk to fk fo kp sp lt ib rw cl nu tv tm ta ml tn R) s.heap.size) s H locs := g_wc (hw.trans (wC_set (k := k) (by omega) (va_up_s _ _) (va_up_s _ _) (va_up_s _ _))) G
  refine W.eq (g2 := F0 m 19 ls [.int (nI (scN (vw k) i j))]) rfl ?_
  refine lv_istore (lv' := [(5, .int (nI (scN (vw k) i j))), (4, .ref (ad (10 + k))), (0, .ref (ad 0)), (1, .int (nI k)), (2, .int (nI i)), (3, .int (nI j))]) hx hb dX4_lose_19 hl (by decide) rfl (fun ls hl => ?_)
  refine lv_aload hx hb dX4_lose_21 (lv_at hl 1 rfl) ?_
  refine lv_aload hx hb dX4_lose_23 (lv_at hl 1 rfl) ?_
  refine g_callVN (As := []) (rest := [.ref (ad (10 + k))]) (q0 := k + 9) C0 G (GE.at (i := k + 9) (wC_at (k := k) (by omega)) (fun R => (c_X0_showsBack l D cy (R := R) (h := ad (10 + k)) (f := fr k) (b := bk k) (v := vw k)  (by omega)))) k_X0_showsBack nm_X4_130 (wC_at (k := k) (by omega)) rfl dX4_lose_25 rfl rfl hl.1 (Nat.le_of_ble_eq_true rfl) ⟨Nat.le_of_ble_eq_true rfl, Nat.le_of_ble_eq_true rfl⟩ ⟨Nat.le_of_ble_eq_true rfl, Nat.le_of_ble_eq_true rfl⟩ (fun r W2 H locs hp G => ?_)
  obtain ⟨rfl, hw⟩ := hp
  have G : gW D (wC ad cy fr bk vw tk to fk fo kp sp lt ib rw cl nu tv tm ta ml tn R) (va_A (wC ad cy fr bk vw tk to fk fo kp sp lt ib rw cl nu tv tm ta ml tn R) s.heap.size) s H locs := g_wc (hw.trans (wC_set (k := k) (by omega) (va_up_s _ _) (va_up_s _ _) (va_up_s _ _))) G
  refine W.eq (g2 := F0 m 28 ls [.int (bI (sbB (vw k))), .ref (ad (10 + k))]) rfl ?_
  refine lv_iload hx hb dX4_lose_28 (lv_at hl 0 rfl) ?_
  refine g_callVN (As := [.int (bI (sbB (vw k))), .int (nI (scN (vw k) i j))]) (rest := []) (q0 := k + 9) C0 G (GE.at (i := k + 9) (wC_at (k := k) (by omega)) (fun R => (c_X0_hasHole l D cy (R := R) (h := ad (10 + k)) (f := fr k) (b := bk k) (v := vw k) (ib := sbB (vw k)) (k := scN (vw k) i j) (by omega)))) k_X0_hasHole nm_X4_133 (wC_at (k := k) (by omega)) rfl dX4_lose_30 rfl rfl hl.1 (Nat.le_of_ble_eq_true rfl) ⟨Nat.le_of_ble_eq_true rfl, Nat.le_of_ble_eq_true rfl⟩ ⟨Nat.le_of_ble_eq_true rfl, Nat.le_of_ble_eq_true rfl⟩ (fun r W2 H locs hp G => ?_)
  obtain ⟨rfl, hw⟩ := hp
  have G : gW D (wC ad cy fr bk vw tk to fk fo kp sp lt ib rw cl nu tv tm ta ml tn R) (va_A (wC ad cy fr bk vw tk to fk fo kp sp lt ib rw cl nu tv tm ta ml tn R) s.heap.size) s H locs := g_wc (hw.trans (wC_set (k := k) (by omega) (va_up_s _ _) (va_up_s _ _) (va_up_s _ _))) G
  refine W.eq (g2 := F0 m 33 ls [.int (bI (hoB (fr k) (bk k) (sbB (vw k)) (scN (vw k) i j)))]) rfl ?_
  refine lv_if_ne (tgt := 46) hx hb dX4_lose_33 (by decide) (fun c_33 => ?_) (fun c_33 => ?_)
  · skip
    have c_33 : (hoB (fr k) (bk k) (sbB (vw k)) (scN (vw k) i j)) = true := bI_t c_33
    refine lv_aload_n hx hb dX4_lose_46 rfl (lv_at hl 2 rfl) ?_
    refine g_get (q0 := 0) (v := .ref (ad 4)) C0 G in_X4 rfl rfl 3 (by decide) fl_X4_29 (fun _ h => h) rfl dX4_lose_47 ?_
    refine lv_aload_n hx hb dX4_lose_50 rfl (lv_at hl 2 rfl) ?_
    refine g_get (q0 := 0) (v := .ref (ad 1)) C0 G in_X4 rfl rfl 0 (by decide) fl_X4_11 (fun _ h => h) rfl dX4_lose_51 ?_
    refine g_callVN (As := [.ref (ad 1)]) (rest := []) (q0 := 4) C0 G (c_X1_save l D cy (ad := ad) (fr := fr) (bk := bk) (vw := vw) (tk := tk) (to := to) (fk := fk) (fo := fo) (kp := kp) (sp := sp) (lt := lt) (ib := ib) (rw := rw) (cl := cl) (nu := nu) (tv := tv) (tm := tm) (ta := ta) (ml := ml) (tn := tn) (R := R)  (by omega)) k_X1_save nm_X4_71 rfl rfl dX4_lose_54 rfl rfl hl.1 (Nat.le_of_ble_eq_true rfl) ⟨Nat.le_of_ble_eq_true rfl, Nat.le_of_ble_eq_true rfl⟩ ⟨Nat.le_of_ble_eq_true rfl, Nat.le_of_ble_eq_true rfl⟩ (fun r W2 H locs hp G => ?_)
    obtain ⟨rfl, hw⟩ := hp
    have G := g_wc hw G
    refine W.eq (g2 := F0 m 57 ls []) rfl ?_
    refine lv_aload hx hb dX4_lose_57 (lv_at hl 1 rfl) ?_
    refine lv_aload hx hb dX4_lose_59 (lv_at hl 1 rfl) ?_
    refine g_callVN (As := []) (rest := [.ref (ad (10 + k))]) (q0 := k + 9) C0 G (GE.at (i := k + 9) (wC_at (k := k) (by omega)) (fun R => (c_X0_showsBack l D cy (R := R) (h := ad (10 + k)) (f := (saU fr kp) k) (b := (saU bk kp) k) (v := (saU vw kp) k)  (by omega)))) k_X0_showsBack nm_X4_130 (wC_at (k := k) (by omega)) rfl dX4_lose_61 rfl rfl hl.1 (Nat.le_of_ble_eq_true rfl) ⟨Nat.le_of_ble_eq_true rfl, Nat.le_of_ble_eq_true rfl⟩ ⟨Nat.le_of_ble_eq_true rfl, Nat.le_of_ble_eq_true rfl⟩ (fun r W2 H locs hp G => ?_)
    obtain ⟨rfl, hw⟩ := hp
    have G : gW D (wC ad cy (saU fr kp) (saU bk kp) (saU vw kp) tk to fk fo (saK kp) sp lt ib rw cl nu tv tm ta ml tn R) (va_A (wC ad cy fr bk vw tk to fk fo kp sp lt ib rw cl nu tv tm ta ml tn R) s.heap.size) s H locs := g_wc (hw.trans (wC_set (k := k) (by omega) (va_up_s _ _) (va_up_s _ _) (va_up_s _ _))) G
    refine W.eq (g2 := F0 m 64 ls [.int (bI (sbB ((saU vw kp) k))), .ref (ad (10 + k))]) rfl ?_
    refine lv_iload hx hb dX4_lose_64 (lv_at hl 0 rfl) ?_
    refine lv_iconst (v := 0) hx hb dX4_lose_66 (by decide) ?_
    refine g_callVN (As := [.int (bI (sbB ((saU vw kp) k))), .int (nI (scN (vw k) i j)), .int 0]) (rest := []) (q0 := k + 9) C0 G (GE.at (i := k + 9) (wC_at (k := k) (by omega)) (fun R => (c_X0_setHole l D cy (R := R) (h := ad (10 + k)) (f := (saU fr kp) k) (b := (saU bk kp) k) (v := (saU vw kp) k) (ib := sbB ((saU vw kp) k)) (k := scN (vw k) i j) (ho := false) (by omega)))) k_X0_setHole nm_X4_139 (wC_at (k := k) (by omega)) rfl dX4_lose_67 rfl rfl hl.1 (Nat.le_of_ble_eq_true rfl) ⟨Nat.le_of_ble_eq_true rfl, Nat.le_of_ble_eq_true rfl⟩ ⟨Nat.le_of_ble_eq_true rfl, Nat.le_of_ble_eq_true rfl⟩ (fun r W2 H locs hp G => ?_)
    obtain ⟨rfl, hw⟩ := hp
    have G : gW D (wC ad cy (va_up (saU fr kp) k (shF ((saU fr kp) k) (sbB ((saU vw kp) k)) (scN (vw k) i j) false)) (va_up (saU bk kp) k (shB ((saU bk kp) k) (sbB ((saU vw kp) k)) (scN (vw k) i j) false)) (saU vw kp) tk to fk fo (saK kp) sp lt ib rw cl nu tv tm ta ml tn R) (va_A (wC ad cy fr bk vw tk to fk fo kp sp lt ib rw cl nu tv tm ta ml tn R) s.heap.size) s H locs := g_wc (hw.trans (wC_set (k := k) (by omega) rfl rfl (va_up_s _ _))) G
    refine W.eq (g2 := F0 m 70 ls []) rfl ?_
    refine lv_aload hx hb dX4_lose_70 (lv_at hl 1 rfl) ?_
    refine lv_iload hx hb dX4_lose_72 (lv_at hl 0 rfl) ?_
    refine g_callVN (As := [.int (nI (scN (vw k) i j))]) (rest := []) (q0 := k + 9) C0 G (GE.at (i := k + 9) (wC_at (k := k) (by omega)) (fun R => (c_X0_kindAt l D cy (R := R) (h := ad (10 + k)) (f := (va_up (saU fr kp) k (shF ((saU fr kp) k) (sbB ((saU vw kp) k)) (scN (vw k) i j) false)) k) (b := (va_up (saU bk kp) k (shB ((saU bk kp) k) (sbB ((saU vw kp) k)) (scN (vw k) i j) false)) k) (v := (saU vw kp) k) (k := scN (vw k) i j) (by omega)))) k_X0_kindAt nm_X4_143 (wC_at (k := k) (by omega)) rfl dX4_lose_74 rfl rfl hl.1 (Nat.le_of_ble_eq_true rfl) ⟨Nat.le_of_ble_eq_true rfl, Nat.le_of_ble_eq_true rfl⟩ ⟨Nat.le_of_ble_eq_true rfl, Nat.le_of_ble_eq_true rfl⟩ (fun r W2 H locs hp G => ?_)
    obtain ⟨rfl, hw⟩ := hp
    have G : gW D (wC ad cy (va_up (saU fr kp) k (shF ((saU fr kp) k) (sbB ((saU vw kp) k)) (scN (vw k) i j) false)) (va_up (saU bk kp) k (shB ((saU bk kp) k) (sbB ((saU vw kp) k)) (scN (vw k) i j) false)) (saU vw kp) tk to fk fo (saK kp) sp lt ib rw cl nu tv tm ta ml tn R) (va_A (wC ad cy fr bk vw tk to fk fo kp sp lt ib rw cl nu tv tm ta ml tn R) s.heap.size) s H locs := g_wc (hw.trans (wC_set (k := k) (by omega) (va_up_s _ _) (va_up_s _ _) (va_up_s _ _))) G
    refine W.eq (g2 := F0 m 77 ls [.int (kdI ((va_up (saU fr kp) k (shF ((saU fr kp) k) (sbB ((saU vw kp) k)) (scN (vw k) i j) false)) k) ((va_up (saU bk kp) k (shB ((saU bk kp) k) (sbB ((saU vw kp) k)) (scN (vw k) i j) false)) k) (scN (vw k) i j))]) rfl ?_
    refine W.widen (k := 4) (n := 24) (Nat.le_of_ble_eq_true rfl) (Nat.le_of_ble_eq_true rfl) ?_
    exact vx_ret (g_iret C0 G ⟨k, hk, rfl, i, hi, rfl, j, hj, rfl, c_33, rfl, rfl⟩ dX4_lose_77)
  · skip
    have c_33 : (hoB (fr k) (bk k) (sbB (vw k)) (scN (vw k) i j)) = false := bI_f c_33
    exact g_throwS (names := ["java/lang/RuntimeException", "java/lang/Exception"]) C0 hst hno G hl.1 (by decide +kernel) (by decide +kernel) tw_ise xl_X4_66 ti_ise ⟨rfl, sr_147⟩ dX4_lose_36 dX4_lose_39 dX4_lose_40 dX4_lose_42 dX4_lose_45 ⟨(Nat.le_of_ble_eq_true rfl), (Nat.le_of_ble_eq_true rfl)⟩ (Nat.le_of_ble_eq_true rfl) (Nat.le_of_ble_eq_true rfl) (Or.inr ⟨rfl, k, hk, rfl, i, hi, rfl, j, hj, rfl, c_33⟩) (Nat.le_of_ble_eq_true rfl) (Nat.le_of_ble_eq_true rfl)

set_option maxHeartbeats 4000000 in
set_option maxRecDepth 100000 in
theorem c_X4_turn (l : Launch) (D : va_G) (cy : Nat → ClassId) (ad : Nat → Nat) (fr : Nat → Int64) (bk : Nat → Int64) (vw : Nat → Nat) (tk : Int64) (to : Int64) (fk : Int64) (fo : Int64) (kp : Nat) (sp : Nat) (lt : Nat) (ib : Bool) (rw : Nat) (cl : Nat) (nu : Nat) (tv : Nat) (tm : Nat) (ta : Nat → Int32) (ml : Int32) (tn : Nat) (R : va_W) (p0 : Int32) (p1 : Int32) (hst : l.stackTraces = false) (hkp : kp ≤ 6) : GX l D (gts cy) yX4_turn cX4_turn 5 (some .int) 3 4 24 [.ref (ad 0), .int p0, .int p1] (wC ad cy fr bk vw tk to fk fo kp sp lt ib rw cl nu tv tm ta ml tn R) (fun r W2 => ∃ k : Nat, k < 3 ∧ p0 = nI k ∧ ∃ v : Nat, v < 4 ∧ p1 = nI v ∧ r = some (.int (nI ((saU vw kp) k))) ∧ W2 = wC ad cy (saU fr kp) (saU bk kp) (va_up (saU vw kp) k v) tk to fk fo (saK kp) sp lt ib rw cl nu tv tm ta ml tn R) (fun E => E = "java/lang/IndexOutOfBoundsException" ∧ ir p0 3 = false ∨ E = "java/lang/IllegalArgumentException" ∧ ir p0 3 = true ∧ ir p1 4 = false) := by
  refine g_introX (by decide +kernel) (lv := [(0, .ref (ad 0)), (1, .int p0), (2, .int p1)]) rfl (Nat.le_of_ble_eq_true rfl) ?_
  intro p e s m below meth c C0 hno G ls hl
  have hx := C0.1
  have hb := C0.2.1
  have hown := C0.2.2.2.2.2.1
  have hts := C0.2.2.2.2.2.2.1
  refine lv_aload_n hx hb dX4_turn_0 rfl (lv_at hl 0 rfl) ?_
  refine lv_iload_n hx hb dX4_turn_1 rfl (lv_at hl 1 rfl) ?_
  refine g_callXV (As := [.int p0]) (rest := []) (q0 := 0) C0 G (c_X4_cardAt l D cy (ad := ad) (fr := fr) (bk := bk) (vw := vw) (tk := tk) (to := to) (fk := fk) (fo := fo) (kp := kp) (sp := sp) (lt := lt) (ib := ib) (rw := rw) (cl := cl) (nu := nu) (tv := tv) (tm := tm) (ta := ta) (ml := ml) (tn := tn) (R := R) (p0 := p0) hst) k_X4_cardAt ml_X4_47 rfl rfl dX4_turn_2 rfl rfl hl.1 (Nat.le_of_ble_eq_true rfl) ⟨Nat.le_of_ble_eq_true rfl, Nat.le_of_ble_eq_true rfl⟩ ⟨Nat.le_of_ble_eq_true rfl, Nat.le_of_ble_eq_true rfl⟩ (fun E ce q9 H locs hx9 G hce hcv hcl => ?_) (fun r W2 H locs hp G => ?_)
  · exact g_out C0 G hno (Or.inl hx9) hce hcv hcl (Nat.le_of_ble_eq_true rfl) (Nat.le_of_ble_eq_true rfl)
  obtain ⟨hw, k, hk, rfl, rfl⟩ := hp
  have G := g_wc hw G
  refine W.eq (g2 := F0 m 5 ls [.ref (ad (10 + k))]) rfl ?_
  refine lv_astore_n (lv' := [(3, .ref (ad (10 + k))), (0, .ref (ad 0)), (1, .int (nI k)), (2, .int p1)]) hx hb dX4_turn_5 rfl hl (by decide) rfl (fun ls hl => ?_)
  refine lv_iload_n hx hb dX4_turn_6 rfl (lv_at hl 3 rfl) ?_
  refine lv_if_lt (tgt := 15) hx hb dX4_turn_7 (by decide) (fun c_7 => ?_) (fun c_7 => ?_)
  · skip
    exact g_throwS (names := ["java/lang/RuntimeException", "java/lang/Exception"]) C0 hst hno G hl.1 (by decide +kernel) (by decide +kernel) tw_iae xl_X4_55 ti_iae ⟨rfl, sr_149⟩ dX4_turn_15 dX4_turn_18 dX4_turn_19 dX4_turn_21 dX4_turn_24 ⟨(Nat.le_of_ble_eq_true rfl), (Nat.le_of_ble_eq_true rfl)⟩ (Nat.le_of_ble_eq_true rfl) (Nat.le_of_ble_eq_true rfl) (Or.inr ⟨rfl, ir_nI hk (by decide), by first | exact ir_lo c_7 | exact ir_hi (n := 4) c_12⟩) (Nat.le_of_ble_eq_true rfl) (Nat.le_of_ble_eq_true rfl)
  · skip
    refine lv_iload_n hx hb dX4_turn_10 rfl (lv_at hl 3 rfl) ?_
    refine lv_iconst (v := 4) hx hb dX4_turn_11 (by decide) ?_
    refine lv_icmp_lt (tgt := 25) hx hb dX4_turn_12 (by decide) (fun c_12 => ?_) (fun c_12 => ?_)
    · skip
      obtain ⟨v, hv, rfl⟩ := ir_y (n := 4) (by decide) c_7 c_12
      refine lv_aload_n hx hb dX4_turn_25 rfl (lv_at hl 1 rfl) ?_
      refine g_get (q0 := 0) (v := .ref (ad 4)) C0 G in_X4 rfl rfl 3 (by decide) fl_X4_29 (fun _ h => h) rfl dX4_turn_26 ?_
      refine lv_aload_n hx hb dX4_turn_29 rfl (lv_at hl 1 rfl) ?_
      refine g_get (q0 := 0) (v := .ref (ad 1)) C0 G in_X4 rfl rfl 0 (by decide) fl_X4_11 (fun _ h => h) rfl dX4_turn_30 ?_
      refine g_callVN (As := [.ref (ad 1)]) (rest := []) (q0 := 4) C0 G (c_X1_save l D cy (ad := ad) (fr := fr) (bk := bk) (vw := vw) (tk := tk) (to := to) (fk := fk) (fo := fo) (kp := kp) (sp := sp) (lt := lt) (ib := ib) (rw := rw) (cl := cl) (nu := nu) (tv := tv) (tm := tm) (ta := ta) (ml := ml) (tn := tn) (R := R)  (by omega)) k_X1_save nm_X4_71 rfl rfl dX4_turn_33 rfl rfl hl.1 (Nat.le_of_ble_eq_true rfl) ⟨Nat.le_of_ble_eq_true rfl, Nat.le_of_ble_eq_true rfl⟩ ⟨Nat.le_of_ble_eq_true rfl, Nat.le_of_ble_eq_true rfl⟩ (fun r W2 H locs hp G => ?_)
      obtain ⟨rfl, hw⟩ := hp
      have G := g_wc hw G
      refine W.eq (g2 := F0 m 36 ls []) rfl ?_
      refine lv_aload_n hx hb dX4_turn_36 rfl (lv_at hl 0 rfl) ?_
      refine g_getN (q0 := k + 9) (v := .int (nI ((saU vw kp) k))) C0 G in_X0 (wC_at (k := k) (by omega)) rfl 2 (by decide) nf_X4_151 (fun _ h => h) rfl dX4_turn_37 ?_
      refine lv_istore (lv' := [(4, .int (nI ((saU vw kp) k))), (3, .ref (ad (10 + k))), (0, .ref (ad 0)), (1, .int (nI k)), (2, .int (nI v))]) hx hb dX4_turn_40 hl (by decide) rfl (fun ls hl => ?_)
      refine lv_aload_n hx hb dX4_turn_42 rfl (lv_at hl 1 rfl) ?_
      refine lv_iload_n hx hb dX4_turn_43 rfl (lv_at hl 4 rfl) ?_
      refine g_putN (q0 := k + 9) (W2 := wC ad cy (saU fr kp) (saU bk kp) (va_up (saU vw kp) k v) tk to fk fo (saK kp) sp lt ib rw cl nu tv tm ta ml tn R) C0 G ft_X0 in_X0 (wC_at (k := k) (by omega)) rfl 2 (by decide) nf_X4_151 (fun _ h => h) rfl rfl rfl (Nat.le_of_ble_eq_true rfl) (wC_set (k := k) (by omega) (va_up_s _ _) (va_up_s _ _) rfl) dX4_turn_44 (fun H locs G => ?_)
      refine lv_iload hx hb dX4_turn_47 (lv_at hl 0 rfl) ?_
      refine W.widen (k := 4) (n := 24) (Nat.le_of_ble_eq_true rfl) (Nat.le_of_ble_eq_true rfl) ?_
      exact vx_ret (g_iret C0 G ⟨k, hk, rfl, v, hv, rfl, rfl, rfl⟩ dX4_turn_49)
    · skip
      exact g_throwS (names := ["java/lang/RuntimeException", "java/lang/Exception"]) C0 hst hno G hl.1 (by decide +kernel) (by decide +kernel) tw_iae xl_X4_55 ti_iae ⟨rfl, sr_149⟩ dX4_turn_15 dX4_turn_18 dX4_turn_19 dX4_turn_21 dX4_turn_24 ⟨(Nat.le_of_ble_eq_true rfl), (Nat.le_of_ble_eq_true rfl)⟩ (Nat.le_of_ble_eq_true rfl) (Nat.le_of_ble_eq_true rfl) (Or.inr ⟨rfl, ir_nI hk (by decide), by first | exact ir_lo c_7 | exact ir_hi (n := 4) c_12⟩) (Nat.le_of_ble_eq_true rfl) (Nat.le_of_ble_eq_true rfl)

set_option maxHeartbeats 4000000 in
set_option maxRecDepth 100000 in
theorem c_X4_sees (l : Launch) (D : va_G) (cy : Nat → ClassId) (ad : Nat → Nat) (fr : Nat → Int64) (bk : Nat → Int64) (vw : Nat → Nat) (tk : Int64) (to : Int64) (fk : Int64) (fo : Int64) (kp : Nat) (sp : Nat) (lt : Nat) (ib : Bool) (rw : Nat) (cl : Nat) (nu : Nat) (tv : Nat) (tm : Nat) (ta : Nat → Int32) (ml : Int32) (tn : Nat) (R : va_W) (p0 : Int32) (p1 : Int32) (p2 : Int32) (hst : l.stackTraces = false) (hvw : ∀ k, k < 3 → vw k < 4) : GX l D (gts cy) yX4_sees cX4_sees 5 (some .boolean) 3 4 24 [.ref (ad 0), .int p0, .int p1, .int p2] (wC ad cy fr bk vw tk to fk fo kp sp lt ib rw cl nu tv tm ta ml tn R) (fun r W2 => ∃ k : Nat, k < 3 ∧ p0 = nI k ∧ ∃ i : Nat, i < 8 ∧ p1 = nI i ∧ ∃ j : Nat, j < 8 ∧ p2 = nI j ∧ r = some (.int (bI (shB1 (fr k) (bk k) (vw k) i j))) ∧ W2 = wC ad cy fr bk vw tk to fk fo kp sp lt ib rw cl nu tv tm ta ml tn R) (fun E => E = "java/lang/IndexOutOfBoundsException" ∧ (ir p0 3 && ir p1 8 && ir p2 8) = false) := by
  refine g_introX (by decide +kernel) (lv := [(0, .ref (ad 0)), (1, .int p0), (2, .int p1), (3, .int p2)]) rfl (Nat.le_of_ble_eq_true rfl) ?_
  intro p e s m below meth c C0 hno G ls hl
  have hx := C0.1
  have hb := C0.2.1
  have hown := C0.2.2.2.2.2.1
  have hts := C0.2.2.2.2.2.2.1
  refine lv_aload_n hx hb dX4_sees_0 rfl (lv_at hl 0 rfl) ?_
  refine lv_iload_n hx hb dX4_sees_1 rfl (lv_at hl 1 rfl) ?_
  refine g_callXV (As := [.int p0]) (rest := []) (q0 := 0) C0 G (c_X4_cardAt l D cy (ad := ad) (fr := fr) (bk := bk) (vw := vw) (tk := tk) (to := to) (fk := fk) (fo := fo) (kp := kp) (sp := sp) (lt := lt) (ib := ib) (rw := rw) (cl := cl) (nu := nu) (tv := tv) (tm := tm) (ta := ta) (ml := ml) (tn := tn) (R := R) (p0 := p0) hst) k_X4_cardAt ml_X4_47 rfl rfl dX4_sees_2 rfl rfl hl.1 (Nat.le_of_ble_eq_true rfl) ⟨Nat.le_of_ble_eq_true rfl, Nat.le_of_ble_eq_true rfl⟩ ⟨Nat.le_of_ble_eq_true rfl, Nat.le_of_ble_eq_true rfl⟩ (fun E ce q9 H locs hx9 G hce hcv hcl => ?_) (fun r W2 H locs hp G => ?_)
  · exact g_out C0 G hno ⟨hx9.1, by rw [hx9.2]; rfl⟩ hce hcv hcl (Nat.le_of_ble_eq_true rfl) (Nat.le_of_ble_eq_true rfl)
  obtain ⟨hw, k, hk, rfl, rfl⟩ := hp
  have G := g_wc hw G
  refine W.eq (g2 := F0 m 5 ls [.ref (ad (10 + k))]) rfl ?_
  refine lv_astore (lv' := [(4, .ref (ad (10 + k))), (0, .ref (ad 0)), (1, .int (nI k)), (2, .int p1), (3, .int p2)]) hx hb dX4_sees_5 hl (by decide) rfl (fun ls hl => ?_)
  refine lv_iload_n hx hb dX4_sees_7 rfl (lv_at hl 3 rfl) ?_
  refine lv_iload_n hx hb dX4_sees_8 rfl (lv_at hl 4 rfl) ?_
  refine g_callXS (As := [.int p1, .int p2]) (rest := []) C0 G (c_X4_requireCell l D cy (W1 := wC ad cy fr bk vw tk to fk fo kp sp lt ib rw cl nu tv tm ta ml tn R) (p0 := p1) (p1 := p2) hst) k_X4_requireCell ml_X4_123 dX4_sees_9 rfl rfl hl.1 (Nat.le_of_ble_eq_true rfl) ⟨Nat.le_of_ble_eq_true rfl, Nat.le_of_ble_eq_true rfl⟩ ⟨Nat.le_of_ble_eq_true rfl, Nat.le_of_ble_eq_true rfl⟩ (fun E ce q9 H locs hx9 G hce hcv hcl => ?_) (fun r W2 H locs hp G => ?_)
  · exact g_out C0 G hno ⟨hx9.1, by have h8 := hx9.2; rw [Bool.and_assoc, h8, Bool.and_false]⟩ hce hcv hcl (Nat.le_of_ble_eq_true rfl) (Nat.le_of_ble_eq_true rfl)
  obtain ⟨rfl, hw, i, hi, rfl, j, hj, rfl⟩ := hp
  have G := g_wc hw G
  refine W.eq (g2 := F0 m 12 ls []) rfl ?_
  have hvk := hvw k hk
  refine lv_aload hx hb dX4_sees_12 (lv_at hl 0 rfl) ?_
  refine lv_iload_n hx hb dX4_sees_14 rfl (lv_at hl 3 rfl) ?_
  refine lv_iload_n hx hb dX4_sees_15 rfl (lv_at hl 4 rfl) ?_
  refine g_callVN (As := [.int (nI i), .int (nI j)]) (rest := []) (q0 := k + 9) C0 G (GE.at (i := k + 9) (wC_at (k := k) (by omega)) (fun R => (c_X0_showsHole l D cy (R := R) (h := ad (10 + k)) (f := fr k) (b := bk k) (v := vw k) (row := i) (col := j) (by omega) (by omega) (by omega)))) k_X0_showsHole nm_X4_155 (wC_at (k := k) (by omega)) rfl dX4_sees_16 rfl rfl hl.1 (Nat.le_of_ble_eq_true rfl) ⟨Nat.le_of_ble_eq_true rfl, Nat.le_of_ble_eq_true rfl⟩ ⟨Nat.le_of_ble_eq_true rfl, Nat.le_of_ble_eq_true rfl⟩ (fun r W2 H locs hp G => ?_)
  obtain ⟨rfl, hw⟩ := hp
  have G : gW D (wC ad cy fr bk vw tk to fk fo kp sp lt ib rw cl nu tv tm ta ml tn R) (va_A (wC ad cy fr bk vw tk to fk fo kp sp lt ib rw cl nu tv tm ta ml tn R) s.heap.size) s H locs := g_wc (hw.trans (wC_set (k := k) (by omega) (va_up_s _ _) (va_up_s _ _) (va_up_s _ _))) G
  refine W.eq (g2 := F0 m 19 ls [.int (bI (shB1 (fr k) (bk k) (vw k) i j))]) rfl ?_
  refine W.widen (k := 4) (n := 24) (Nat.le_of_ble_eq_true rfl) (Nat.le_of_ble_eq_true rfl) ?_
  exact vx_ret (g_zret C0 G (g_nz _) ⟨k, hk, rfl, i, hi, rfl, j, hj, rfl, rfl, rfl⟩ dX4_sees_19)

set_option maxHeartbeats 4000000 in
set_option maxRecDepth 100000 in
theorem c_X4_raw (l : Launch) (D : va_G) (cy : Nat → ClassId) (ad : Nat → Nat) (fr : Nat → Int64) (bk : Nat → Int64) (vw : Nat → Nat) (tk : Int64) (to : Int64) (fk : Int64) (fo : Int64) (kp : Nat) (sp : Nat) (lt : Nat) (ib : Bool) (rw : Nat) (cl : Nat) (nu : Nat) (tv : Nat) (tm : Nat) (ta : Nat → Int32) (ml : Int32) (tn : Nat) (R : va_W) (p0 : Int32) (p1 : Int32) (hst : l.stackTraces = false) (hvw : ∀ k, k < 3 → vw k < 4) : GX l D (gts cy) yX4_raw cX4_raw 4 (some .int) 4 4 24 [.ref (ad 0), .int p0, .int p1] (wC ad cy fr bk vw tk to fk fo kp sp lt ib rw cl nu tv tm ta ml tn R) (fun r W2 => ∃ k : Nat, k < 3 ∧ p0 = nI k ∧ ∃ i : Nat, i < 8 ∧ p1 = nI i ∧ r = some (.int (nI (rwN (fr k) (bk k) (vw k) i 8))) ∧ W2 = wC ad cy fr bk vw tk to fk fo kp sp lt ib rw cl nu tv tm ta ml tn R) (fun E => E = "java/lang/IndexOutOfBoundsException" ∧ (ir p0 3 && ir p1 8) = false) := by
  refine g_introX (by decide +kernel) (lv := [(0, .ref (ad 0)), (1, .int p0), (2, .int p1)]) rfl (Nat.le_of_ble_eq_true rfl) ?_
  intro p e s m below meth c C0 hno G ls hl
  have hx := C0.1
  have hb := C0.2.1
  have hown := C0.2.2.2.2.2.1
  have hts := C0.2.2.2.2.2.2.1
  refine lv_aload_n hx hb dX4_raw_0 rfl (lv_at hl 0 rfl) ?_
  refine lv_iload_n hx hb dX4_raw_1 rfl (lv_at hl 1 rfl) ?_
  refine g_callXV (As := [.int p0]) (rest := []) (q0 := 0) C0 G (c_X4_cardAt l D cy (ad := ad) (fr := fr) (bk := bk) (vw := vw) (tk := tk) (to := to) (fk := fk) (fo := fo) (kp := kp) (sp := sp) (lt := lt) (ib := ib) (rw := rw) (cl := cl) (nu := nu) (tv := tv) (tm := tm) (ta := ta) (ml := ml) (tn := tn) (R := R) (p0 := p0) hst) k_X4_cardAt ml_X4_47 rfl rfl dX4_raw_2 rfl rfl hl.1 (Nat.le_of_ble_eq_true rfl) ⟨Nat.le_of_ble_eq_true rfl, Nat.le_of_ble_eq_true rfl⟩ ⟨Nat.le_of_ble_eq_true rfl, Nat.le_of_ble_eq_true rfl⟩ (fun E ce q9 H locs hx9 G hce hcv hcl => ?_) (fun r W2 H locs hp G => ?_)
  · exact g_out C0 G hno ⟨hx9.1, by rw [hx9.2]; rfl⟩ hce hcv hcl (Nat.le_of_ble_eq_true rfl) (Nat.le_of_ble_eq_true rfl)
  obtain ⟨hw, k, hk, rfl, rfl⟩ := hp
  have G := g_wc hw G
  refine W.eq (g2 := F0 m 5 ls [.ref (ad (10 + k))]) rfl ?_
  refine lv_astore_n (lv' := [(3, .ref (ad (10 + k))), (0, .ref (ad 0)), (1, .int (nI k)), (2, .int p1)]) hx hb dX4_raw_5 rfl hl (by decide) rfl (fun ls hl => ?_)
  refine lv_iload_n hx hb dX4_raw_6 rfl (lv_at hl 3 rfl) ?_
  refine g_callXS (As := [.int p1]) (rest := []) C0 G (c_X4_requireInSide l D cy (W1 := wC ad cy fr bk vw tk to fk fo kp sp lt ib rw cl nu tv tm ta ml tn R) (p0 := p1) hst) k_X4_requireInSide ml_X4_159 dX4_raw_7 rfl rfl hl.1 (Nat.le_of_ble_eq_true rfl) ⟨Nat.le_of_ble_eq_true rfl, Nat.le_of_ble_eq_true rfl⟩ ⟨Nat.le_of_ble_eq_true rfl, Nat.le_of_ble_eq_true rfl⟩ (fun E ce q9 H locs hx9 G hce hcv hcl => ?_) (fun r W2 H locs hp G => ?_)
  · exact g_out C0 G hno ⟨hx9.1, by rw [hx9.2, Bool.and_false]⟩ hce hcv hcl (Nat.le_of_ble_eq_true rfl) (Nat.le_of_ble_eq_true rfl)
  obtain ⟨rfl, hw, i, hi, rfl⟩ := hp
  have G := g_wc hw G
  refine W.eq (g2 := F0 m 10 ls []) rfl ?_
  have hvk := hvw k hk
  refine lv_aload_n hx hb dX4_raw_10 rfl (lv_at hl 0 rfl) ?_
  refine lv_iload_n hx hb dX4_raw_11 rfl (lv_at hl 3 rfl) ?_
  refine g_callVN (As := [.int (nI i)]) (rest := []) (q0 := k + 9) C0 G (GE.at (i := k + 9) (wC_at (k := k) (by omega)) (fun R => (c_X0_rawNumber l D cy (R := R) (h := ad (10 + k)) (f := fr k) (b := bk k) (v := vw k) (row := i) (by omega) (by omega)))) k_X0_rawNumber nm_X4_162 (wC_at (k := k) (by omega)) rfl dX4_raw_12 rfl rfl hl.1 (Nat.le_of_ble_eq_true rfl) ⟨Nat.le_of_ble_eq_true rfl, Nat.le_of_ble_eq_true rfl⟩ ⟨Nat.le_of_ble_eq_true rfl, Nat.le_of_ble_eq_true rfl⟩ (fun r W2 H locs hp G => ?_)
  obtain ⟨rfl, hw⟩ := hp
  have G : gW D (wC ad cy fr bk vw tk to fk fo kp sp lt ib rw cl nu tv tm ta ml tn R) (va_A (wC ad cy fr bk vw tk to fk fo kp sp lt ib rw cl nu tv tm ta ml tn R) s.heap.size) s H locs := g_wc (hw.trans (wC_set (k := k) (by omega) (va_up_s _ _) (va_up_s _ _) (va_up_s _ _))) G
  refine W.eq (g2 := F0 m 15 ls [.int (nI (rwN (fr k) (bk k) (vw k) i 8))]) rfl ?_
  refine W.widen (k := 4) (n := 24) (Nat.le_of_ble_eq_true rfl) (Nat.le_of_ble_eq_true rfl) ?_
  exact vx_ret (g_iret C0 G ⟨k, hk, rfl, i, hi, rfl, rfl, rfl⟩ dX4_raw_15)

set_option maxHeartbeats 4000000 in
set_option maxRecDepth 100000 in
theorem c_X4_kind (l : Launch) (D : va_G) (cy : Nat → ClassId) (ad : Nat → Nat) (fr : Nat → Int64) (bk : Nat → Int64) (vw : Nat → Nat) (tk : Int64) (to : Int64) (fk : Int64) (fo : Int64) (kp : Nat) (sp : Nat) (lt : Nat) (ib : Bool) (rw : Nat) (cl : Nat) (nu : Nat) (tv : Nat) (tm : Nat) (ta : Nat → Int32) (ml : Int32) (tn : Nat) (R : va_W) (p0 : Int32) (p1 : Int32) (p2 : Int32) (hst : l.stackTraces = false) : GX l D (gts cy) yX4_kind cX4_kind 5 (some .int) 2 4 24 [.ref (ad 0), .int p0, .int p1, .int p2] (wC ad cy fr bk vw tk to fk fo kp sp lt ib rw cl nu tv tm ta ml tn R) (fun r W2 => ∃ k : Nat, k < 3 ∧ p0 = nI k ∧ ∃ i : Nat, i < 8 ∧ p1 = nI i ∧ ∃ j : Nat, j < 8 ∧ p2 = nI j ∧ r = some (.int (kdI (fr k) (bk k) (8 * i + j))) ∧ W2 = wC ad cy fr bk vw tk to fk fo kp sp lt ib rw cl nu tv tm ta ml tn R) (fun E => E = "java/lang/IndexOutOfBoundsException" ∧ (ir p0 3 && ir p1 8 && ir p2 8) = false) := by
  refine g_introX (by decide +kernel) (lv := [(0, .ref (ad 0)), (1, .int p0), (2, .int p1), (3, .int p2)]) rfl (Nat.le_of_ble_eq_true rfl) ?_
  intro p e s m below meth c C0 hno G ls hl
  have hx := C0.1
  have hb := C0.2.1
  have hown := C0.2.2.2.2.2.1
  have hts := C0.2.2.2.2.2.2.1
  refine lv_aload_n hx hb dX4_kind_0 rfl (lv_at hl 0 rfl) ?_
  refine lv_iload_n hx hb dX4_kind_1 rfl (lv_at hl 1 rfl) ?_
  refine g_callXV (As := [.int p0]) (rest := []) (q0 := 0) C0 G (c_X4_cardAt l D cy (ad := ad) (fr := fr) (bk := bk) (vw := vw) (tk := tk) (to := to) (fk := fk) (fo := fo) (kp := kp) (sp := sp) (lt := lt) (ib := ib) (rw := rw) (cl := cl) (nu := nu) (tv := tv) (tm := tm) (ta := ta) (ml := ml) (tn := tn) (R := R) (p0 := p0) hst) k_X4_cardAt ml_X4_47 rfl rfl dX4_kind_2 rfl rfl hl.1 (Nat.le_of_ble_eq_true rfl) ⟨Nat.le_of_ble_eq_true rfl, Nat.le_of_ble_eq_true rfl⟩ ⟨Nat.le_of_ble_eq_true rfl, Nat.le_of_ble_eq_true rfl⟩ (fun E ce q9 H locs hx9 G hce hcv hcl => ?_) (fun r W2 H locs hp G => ?_)
  · exact g_out C0 G hno ⟨hx9.1, by rw [hx9.2]; rfl⟩ hce hcv hcl (Nat.le_of_ble_eq_true rfl) (Nat.le_of_ble_eq_true rfl)
  obtain ⟨hw, k, hk, rfl, rfl⟩ := hp
  have G := g_wc hw G
  refine W.eq (g2 := F0 m 5 ls [.ref (ad (10 + k))]) rfl ?_
  refine lv_astore (lv' := [(4, .ref (ad (10 + k))), (0, .ref (ad 0)), (1, .int (nI k)), (2, .int p1), (3, .int p2)]) hx hb dX4_kind_5 hl (by decide) rfl (fun ls hl => ?_)
  refine lv_iload_n hx hb dX4_kind_7 rfl (lv_at hl 3 rfl) ?_
  refine lv_iload_n hx hb dX4_kind_8 rfl (lv_at hl 4 rfl) ?_
  refine g_callXS (As := [.int p1, .int p2]) (rest := []) C0 G (c_X4_requireCell l D cy (W1 := wC ad cy fr bk vw tk to fk fo kp sp lt ib rw cl nu tv tm ta ml tn R) (p0 := p1) (p1 := p2) hst) k_X4_requireCell ml_X4_123 dX4_kind_9 rfl rfl hl.1 (Nat.le_of_ble_eq_true rfl) ⟨Nat.le_of_ble_eq_true rfl, Nat.le_of_ble_eq_true rfl⟩ ⟨Nat.le_of_ble_eq_true rfl, Nat.le_of_ble_eq_true rfl⟩ (fun E ce q9 H locs hx9 G hce hcv hcl => ?_) (fun r W2 H locs hp G => ?_)
  · exact g_out C0 G hno ⟨hx9.1, by have h8 := hx9.2; rw [Bool.and_assoc, h8, Bool.and_false]⟩ hce hcv hcl (Nat.le_of_ble_eq_true rfl) (Nat.le_of_ble_eq_true rfl)
  obtain ⟨rfl, hw, i, hi, rfl, j, hj, rfl⟩ := hp
  have G := g_wc hw G
  refine W.eq (g2 := F0 m 12 ls []) rfl ?_
  refine lv_aload hx hb dX4_kind_12 (lv_at hl 0 rfl) ?_
  refine lv_iload_n hx hb dX4_kind_14 rfl (lv_at hl 3 rfl) ?_
  refine lv_iload_n hx hb dX4_kind_15 rfl (lv_at hl 4 rfl) ?_
  refine g_callS (As := [.int (nI i), .int (nI j)]) (rest := [.ref (ad (10 + k))]) C0 G (c_X4_cellNumber l D cy (W1 := wC ad cy fr bk vw tk to fk fo kp sp lt ib rw cl nu tv tm ta ml tn R) (row := i) (col := j) ) k_X4_cellNumber ml_X4_165 dX4_kind_16 rfl rfl hl.1 (Nat.le_of_ble_eq_true rfl) ⟨Nat.le_of_ble_eq_true rfl, Nat.le_of_ble_eq_true rfl⟩ ⟨Nat.le_of_ble_eq_true rfl, Nat.le_of_ble_eq_true rfl⟩ (fun r W2 H locs hp G => ?_)
  obtain ⟨rfl, hw⟩ := hp
  have G := g_wc hw G
  refine W.eq (g2 := F0 m 19 ls [.int (nI (8 * i + j)), .ref (ad (10 + k))]) rfl ?_
  refine g_callVN (As := [.int (nI (8 * i + j))]) (rest := []) (q0 := k + 9) C0 G (GE.at (i := k + 9) (wC_at (k := k) (by omega)) (fun R => (c_X0_kindAt l D cy (R := R) (h := ad (10 + k)) (f := fr k) (b := bk k) (v := vw k) (k := 8 * i + j) (by omega)))) k_X0_kindAt nm_X4_143 (wC_at (k := k) (by omega)) rfl dX4_kind_19 rfl rfl hl.1 (Nat.le_of_ble_eq_true rfl) ⟨Nat.le_of_ble_eq_true rfl, Nat.le_of_ble_eq_true rfl⟩ ⟨Nat.le_of_ble_eq_true rfl, Nat.le_of_ble_eq_true rfl⟩ (fun r W2 H locs hp G => ?_)
  obtain ⟨rfl, hw⟩ := hp
  have G : gW D (wC ad cy fr bk vw tk to fk fo kp sp lt ib rw cl nu tv tm ta ml tn R) (va_A (wC ad cy fr bk vw tk to fk fo kp sp lt ib rw cl nu tv tm ta ml tn R) s.heap.size) s H locs := g_wc (hw.trans (wC_set (k := k) (by omega) (va_up_s _ _) (va_up_s _ _) (va_up_s _ _))) G
  refine W.eq (g2 := F0 m 22 ls [.int (kdI (fr k) (bk k) (8 * i + j))]) rfl ?_
  refine W.widen (k := 4) (n := 24) (Nat.le_of_ble_eq_true rfl) (Nat.le_of_ble_eq_true rfl) ?_
  exact vx_ret (g_iret C0 G ⟨k, hk, rfl, i, hi, rfl, j, hj, rfl, rfl, rfl⟩ dX4_kind_22)

set_option maxHeartbeats 4000000 in
set_option maxRecDepth 100000 in
theorem c_X4_told (l : Launch) (D : va_G) (cy : Nat → ClassId) (ad : Nat → Nat) (fr : Nat → Int64) (bk : Nat → Int64) (vw : Nat → Nat) (tk : Int64) (to : Int64) (fk : Int64) (fo : Int64) (kp : Nat) (sp : Nat) (lt : Nat) (ib : Bool) (rw : Nat) (cl : Nat) (nu : Nat) (tv : Nat) (tm : Nat) (ta : Nat → Int32) (ml : Int32) (tn : Nat) (R : va_W) (p0 : Int32) (p1 : Int32) (p2 : Int32) (hst : l.stackTraces = false) : GX l D (gts cy) yX4_told cX4_told 5 (some .int) 5 4 24 [.ref (ad 0), .int p0, .int p1, .int p2] (wC ad cy fr bk vw tk to fk fo kp sp lt ib rw cl nu tv tm ta ml tn R) (fun r W2 => ∃ k : Nat, k < 3 ∧ p0 = nI k ∧ ∃ i : Nat, i < 8 ∧ p1 = nI i ∧ ∃ j : Nat, j < 8 ∧ p2 = nI j ∧ r = some (.int (biI ((fa (sdW (fr k) (bk k)) (onW (fr k) (bk k))).1) ((fa (sdW (fr k) (bk k)) (onW (fr k) (bk k))).2) (8 * i + j))) ∧ W2 = wC ad cy fr bk vw ((fa (sdW (fr k) (bk k)) (onW (fr k) (bk k))).1) ((fa (sdW (fr k) (bk k)) (onW (fr k) (bk k))).2) fk fo kp sp lt ib rw cl nu tv tm ta ml tn R) (fun E => E = "java/lang/IndexOutOfBoundsException" ∧ (ir p0 3 && ir p1 8 && ir p2 8) = false) := by
  refine g_introX (by decide +kernel) (lv := [(0, .ref (ad 0)), (1, .int p0), (2, .int p1), (3, .int p2)]) rfl (Nat.le_of_ble_eq_true rfl) ?_
  intro p e s m below meth c C0 hno G ls hl
  have hx := C0.1
  have hb := C0.2.1
  have hown := C0.2.2.2.2.2.1
  have hts := C0.2.2.2.2.2.2.1
  refine lv_aload_n hx hb dX4_told_0 rfl (lv_at hl 0 rfl) ?_
  refine lv_iload_n hx hb dX4_told_1 rfl (lv_at hl 1 rfl) ?_
  refine g_callXV (As := [.int p0]) (rest := []) (q0 := 0) C0 G (c_X4_cardAt l D cy (ad := ad) (fr := fr) (bk := bk) (vw := vw) (tk := tk) (to := to) (fk := fk) (fo := fo) (kp := kp) (sp := sp) (lt := lt) (ib := ib) (rw := rw) (cl := cl) (nu := nu) (tv := tv) (tm := tm) (ta := ta) (ml := ml) (tn := tn) (R := R) (p0 := p0) hst) k_X4_cardAt ml_X4_47 rfl rfl dX4_told_2 rfl rfl hl.1 (Nat.le_of_ble_eq_true rfl) ⟨Nat.le_of_ble_eq_true rfl, Nat.le_of_ble_eq_true rfl⟩ ⟨Nat.le_of_ble_eq_true rfl, Nat.le_of_ble_eq_true rfl⟩ (fun E ce q9 H locs hx9 G hce hcv hcl => ?_) (fun r W2 H locs hp G => ?_)
  · exact g_out C0 G hno ⟨hx9.1, by rw [hx9.2]; rfl⟩ hce hcv hcl (Nat.le_of_ble_eq_true rfl) (Nat.le_of_ble_eq_true rfl)
  obtain ⟨hw, k, hk, rfl, rfl⟩ := hp
  have G := g_wc hw G
  refine W.eq (g2 := F0 m 5 ls [.ref (ad (10 + k))]) rfl ?_
  refine lv_astore (lv' := [(4, .ref (ad (10 + k))), (0, .ref (ad 0)), (1, .int (nI k)), (2, .int p1), (3, .int p2)]) hx hb dX4_told_5 hl (by decide) rfl (fun ls hl => ?_)
  refine lv_iload_n hx hb dX4_told_7 rfl (lv_at hl 3 rfl) ?_
  refine lv_iload_n hx hb dX4_told_8 rfl (lv_at hl 4 rfl) ?_
  refine g_callXS (As := [.int p1, .int p2]) (rest := []) C0 G (c_X4_requireCell l D cy (W1 := wC ad cy fr bk vw tk to fk fo kp sp lt ib rw cl nu tv tm ta ml tn R) (p0 := p1) (p1 := p2) hst) k_X4_requireCell ml_X4_123 dX4_told_9 rfl rfl hl.1 (Nat.le_of_ble_eq_true rfl) ⟨Nat.le_of_ble_eq_true rfl, Nat.le_of_ble_eq_true rfl⟩ ⟨Nat.le_of_ble_eq_true rfl, Nat.le_of_ble_eq_true rfl⟩ (fun E ce q9 H locs hx9 G hce hcv hcl => ?_) (fun r W2 H locs hp G => ?_)
  · exact g_out C0 G hno ⟨hx9.1, by have h8 := hx9.2; rw [Bool.and_assoc, h8, Bool.and_false]⟩ hce hcv hcl (Nat.le_of_ble_eq_true rfl) (Nat.le_of_ble_eq_true rfl)
  obtain ⟨rfl, hw, i, hi, rfl, j, hj, rfl⟩ := hp
  have G := g_wc hw G
  refine W.eq (g2 := F0 m 12 ls []) rfl ?_
  refine lv_aload_n hx hb dX4_told_12 rfl (lv_at hl 1 rfl) ?_
  refine lv_aload hx hb dX4_told_13 (lv_at hl 0 rfl) ?_
  refine g_callV (As := [.ref (ad (10 + k))]) (rest := []) (q0 := 0) C0 G (c_X4_tellingOf l D cy (ad := ad) (fr := fr) (bk := bk) (vw := vw) (tk := tk) (to := to) (fk := fk) (fo := fo) (kp := kp) (sp := sp) (lt := lt) (ib := ib) (rw := rw) (cl := cl) (nu := nu) (tv := tv) (tm := tm) (ta := ta) (ml := ml) (tn := tn) (R := R) (k := k) (by omega)) k_X4_tellingOf ml_X4_107 rfl rfl dX4_told_15 rfl rfl hl.1 (Nat.le_of_ble_eq_true rfl) ⟨Nat.le_of_ble_eq_true rfl, Nat.le_of_ble_eq_true rfl⟩ ⟨Nat.le_of_ble_eq_true rfl, Nat.le_of_ble_eq_true rfl⟩ (fun r W2 H locs hp G => ?_)
  obtain ⟨rfl, hw⟩ := hp
  have G := g_wc hw G
  refine W.eq (g2 := F0 m 18 ls [.ref (ad 2)]) rfl ?_
  refine lv_iload_n hx hb dX4_told_18 rfl (lv_at hl 3 rfl) ?_
  refine lv_iload_n hx hb dX4_told_19 rfl (lv_at hl 4 rfl) ?_
  refine g_callS (As := [.int (nI i), .int (nI j)]) (rest := [.ref (ad 2)]) C0 G (c_X4_cellNumber l D cy (W1 := wC ad cy fr bk vw ((fa (sdW (fr k) (bk k)) (onW (fr k) (bk k))).1) ((fa (sdW (fr k) (bk k)) (onW (fr k) (bk k))).2) fk fo kp sp lt ib rw cl nu tv tm ta ml tn R) (row := i) (col := j) ) k_X4_cellNumber ml_X4_165 dX4_told_20 rfl rfl hl.1 (Nat.le_of_ble_eq_true rfl) ⟨Nat.le_of_ble_eq_true rfl, Nat.le_of_ble_eq_true rfl⟩ ⟨Nat.le_of_ble_eq_true rfl, Nat.le_of_ble_eq_true rfl⟩ (fun r W2 H locs hp G => ?_)
  obtain ⟨rfl, hw⟩ := hp
  have G := g_wc hw G
  refine W.eq (g2 := F0 m 23 ls [.int (nI (8 * i + j)), .ref (ad 2)]) rfl ?_
  refine g_callVN (As := [.int (nI (8 * i + j))]) (rest := []) (q0 := 2) C0 G (GE.at (i := 2) rfl (fun R => (c_X3_bitAt l D cy (R := R) (h := ad 2) (kn := (fa (sdW (fr k) (bk k)) (onW (fr k) (bk k))).1) (on := (fa (sdW (fr k) (bk k)) (onW (fr k) (bk k))).2) (k := 8 * i + j) (by omega)))) k_X3_bitAt nm_X4_168 rfl rfl dX4_told_23 rfl rfl hl.1 (Nat.le_of_ble_eq_true rfl) ⟨Nat.le_of_ble_eq_true rfl, Nat.le_of_ble_eq_true rfl⟩ ⟨Nat.le_of_ble_eq_true rfl, Nat.le_of_ble_eq_true rfl⟩ (fun r W2 H locs hp G => ?_)
  obtain ⟨rfl, hw⟩ := hp
  have G : gW D (wC ad cy fr bk vw ((fa (sdW (fr k) (bk k)) (onW (fr k) (bk k))).1) ((fa (sdW (fr k) (bk k)) (onW (fr k) (bk k))).2) fk fo kp sp lt ib rw cl nu tv tm ta ml tn R) (va_A (wC ad cy fr bk vw tk to fk fo kp sp lt ib rw cl nu tv tm ta ml tn R) s.heap.size) s H locs := g_wc (hw.trans (by rfl)) G
  refine W.eq (g2 := F0 m 26 ls [.int (biI ((fa (sdW (fr k) (bk k)) (onW (fr k) (bk k))).1) ((fa (sdW (fr k) (bk k)) (onW (fr k) (bk k))).2) (8 * i + j))]) rfl ?_
  refine W.widen (k := 4) (n := 24) (Nat.le_of_ble_eq_true rfl) (Nat.le_of_ble_eq_true rfl) ?_
  exact vx_ret (g_iret C0 G ⟨k, hk, rfl, i, hi, rfl, j, hj, rfl, rfl, rfl⟩ dX4_told_26)

set_option maxHeartbeats 4000000 in
set_option maxRecDepth 100000 in
theorem c_X4_count (l : Launch) (D : va_G) (cy : Nat → ClassId) (ad : Nat → Nat) (fr : Nat → Int64) (bk : Nat → Int64) (vw : Nat → Nat) (tk : Int64) (to : Int64) (fk : Int64) (fo : Int64) (kp : Nat) (sp : Nat) (lt : Nat) (ib : Bool) (rw : Nat) (cl : Nat) (nu : Nat) (tv : Nat) (tm : Nat) (ta : Nat → Int32) (ml : Int32) (tn : Nat) (R : va_W) (p0 : Int32) (p1 : Int32) (hst : l.stackTraces = false) : GX l D (gts cy) yX4_count cX4_count 4 (some .int) 2 4 24 [.ref (ad 0), .int p0, .int p1] (wC ad cy fr bk vw tk to fk fo kp sp lt ib rw cl nu tv tm ta ml tn R) (fun r W2 => ∃ k : Nat, k < 3 ∧ p0 = nI k ∧ ∃ u : Nat, u < 4 ∧ p1 = nI u ∧ r = some (.int (nI (pc (kdW (fr k) (bk k) u)))) ∧ W2 = wC ad cy fr bk vw tk to fk fo kp sp lt ib rw cl nu tv tm ta ml tn R) (fun E => E = "java/lang/IndexOutOfBoundsException" ∧ (ir p0 3 && ir p1 4) = false) := by
  refine g_introX (by decide +kernel) (lv := [(0, .ref (ad 0)), (1, .int p0), (2, .int p1)]) rfl (Nat.le_of_ble_eq_true rfl) ?_
  intro p e s m below meth c C0 hno G ls hl
  have hx := C0.1
  have hb := C0.2.1
  have hown := C0.2.2.2.2.2.1
  have hts := C0.2.2.2.2.2.2.1
  refine lv_aload_n hx hb dX4_count_0 rfl (lv_at hl 0 rfl) ?_
  refine lv_iload_n hx hb dX4_count_1 rfl (lv_at hl 1 rfl) ?_
  refine g_callXV (As := [.int p0]) (rest := []) (q0 := 0) C0 G (c_X4_cardAt l D cy (ad := ad) (fr := fr) (bk := bk) (vw := vw) (tk := tk) (to := to) (fk := fk) (fo := fo) (kp := kp) (sp := sp) (lt := lt) (ib := ib) (rw := rw) (cl := cl) (nu := nu) (tv := tv) (tm := tm) (ta := ta) (ml := ml) (tn := tn) (R := R) (p0 := p0) hst) k_X4_cardAt ml_X4_47 rfl rfl dX4_count_2 rfl rfl hl.1 (Nat.le_of_ble_eq_true rfl) ⟨Nat.le_of_ble_eq_true rfl, Nat.le_of_ble_eq_true rfl⟩ ⟨Nat.le_of_ble_eq_true rfl, Nat.le_of_ble_eq_true rfl⟩ (fun E ce q9 H locs hx9 G hce hcv hcl => ?_) (fun r W2 H locs hp G => ?_)
  · exact g_out C0 G hno ⟨hx9.1, by rw [hx9.2]; rfl⟩ hce hcv hcl (Nat.le_of_ble_eq_true rfl) (Nat.le_of_ble_eq_true rfl)
  obtain ⟨hw, k, hk, rfl, rfl⟩ := hp
  have G := g_wc hw G
  refine W.eq (g2 := F0 m 5 ls [.ref (ad (10 + k))]) rfl ?_
  refine lv_astore_n (lv' := [(3, .ref (ad (10 + k))), (0, .ref (ad 0)), (1, .int (nI k)), (2, .int p1)]) hx hb dX4_count_5 rfl hl (by decide) rfl (fun ls hl => ?_)
  refine lv_iload_n hx hb dX4_count_6 rfl (lv_at hl 3 rfl) ?_
  refine lv_if_lt (tgt := 15) hx hb dX4_count_7 (by decide) (fun c_7 => ?_) (fun c_7 => ?_)
  · skip
    exact g_throwS (names := ["java/lang/RuntimeException", "java/lang/Exception"]) C0 hst hno G hl.1 (by decide +kernel) (by decide +kernel) tw_ioobe xl_X4_171 ti_ioobe ⟨rfl, sr_173⟩ dX4_count_15 dX4_count_18 dX4_count_19 dX4_count_21 dX4_count_24 ⟨(Nat.le_of_ble_eq_true rfl), (Nat.le_of_ble_eq_true rfl)⟩ (Nat.le_of_ble_eq_true rfl) (Nat.le_of_ble_eq_true rfl) ⟨rfl, by rw [show ir p1 4 = false from by first | exact ir_lo c_7 | exact ir_hi (n := 4) c_12, Bool.and_false]⟩ (Nat.le_of_ble_eq_true rfl) (Nat.le_of_ble_eq_true rfl)
  · skip
    refine lv_iload_n hx hb dX4_count_10 rfl (lv_at hl 3 rfl) ?_
    refine lv_iconst (v := 4) hx hb dX4_count_11 (by decide) ?_
    refine lv_icmp_lt (tgt := 25) hx hb dX4_count_12 (by decide) (fun c_12 => ?_) (fun c_12 => ?_)
    · skip
      obtain ⟨u, hu, rfl⟩ := ir_y (n := 4) (by decide) c_7 c_12
      refine lv_aload_n hx hb dX4_count_25 rfl (lv_at hl 0 rfl) ?_
      refine lv_iload_n hx hb dX4_count_26 rfl (lv_at hl 3 rfl) ?_
      refine g_callVN (As := [.int (nI u)]) (rest := []) (q0 := k + 9) C0 G (GE.at (i := k + 9) (wC_at (k := k) (by omega)) (fun R => (c_X0_cellsOfKind l D cy (R := R) (h := ad (10 + k)) (f := fr k) (b := bk k) (v := vw k) (k := u) (by omega)))) k_X0_cellsOfKind nm_X4_176 (wC_at (k := k) (by omega)) rfl dX4_count_27 rfl rfl hl.1 (Nat.le_of_ble_eq_true rfl) ⟨Nat.le_of_ble_eq_true rfl, Nat.le_of_ble_eq_true rfl⟩ ⟨Nat.le_of_ble_eq_true rfl, Nat.le_of_ble_eq_true rfl⟩ (fun r W2 H locs hp G => ?_)
      obtain ⟨rfl, hw⟩ := hp
      have G : gW D (wC ad cy fr bk vw tk to fk fo kp sp lt ib rw cl nu tv tm ta ml tn R) (va_A (wC ad cy fr bk vw tk to fk fo kp sp lt ib rw cl nu tv tm ta ml tn R) s.heap.size) s H locs := g_wc (hw.trans (wC_set (k := k) (by omega) (va_up_s _ _) (va_up_s _ _) (va_up_s _ _))) G
      refine W.eq (g2 := F0 m 30 ls [.long (kdW (fr k) (bk k) u)]) rfl ?_
      refine g_callS (As := [.long (kdW (fr k) (bk k) u)]) (rest := []) C0 G (c_J13_bitCount_95d88 l D cy (W1 := wC ad cy fr bk vw tk to fk fo kp sp lt ib rw cl nu tv tm ta ml tn R) (w := kdW (fr k) (bk k) u) ) k_J13_bitCount_95d88 ml_X4_93 dX4_count_30 rfl rfl hl.1 (Nat.le_of_ble_eq_true rfl) ⟨Nat.le_of_ble_eq_true rfl, Nat.le_of_ble_eq_true rfl⟩ ⟨Nat.le_of_ble_eq_true rfl, Nat.le_of_ble_eq_true rfl⟩ (fun r W2 H locs hp G => ?_)
      obtain ⟨rfl, hw⟩ := hp
      have G := g_wc hw G
      refine W.eq (g2 := F0 m 33 ls [.int (nI (pc (kdW (fr k) (bk k) u)))]) rfl ?_
      refine W.widen (k := 4) (n := 24) (Nat.le_of_ble_eq_true rfl) (Nat.le_of_ble_eq_true rfl) ?_
      exact vx_ret (g_iret C0 G ⟨k, hk, rfl, u, hu, rfl, rfl, rfl⟩ dX4_count_33)
    · skip
      exact g_throwS (names := ["java/lang/RuntimeException", "java/lang/Exception"]) C0 hst hno G hl.1 (by decide +kernel) (by decide +kernel) tw_ioobe xl_X4_171 ti_ioobe ⟨rfl, sr_173⟩ dX4_count_15 dX4_count_18 dX4_count_19 dX4_count_21 dX4_count_24 ⟨(Nat.le_of_ble_eq_true rfl), (Nat.le_of_ble_eq_true rfl)⟩ (Nat.le_of_ble_eq_true rfl) (Nat.le_of_ble_eq_true rfl) ⟨rfl, by rw [show ir p1 4 = false from by first | exact ir_lo c_7 | exact ir_hi (n := 4) c_12, Bool.and_false]⟩ (Nat.le_of_ble_eq_true rfl) (Nat.le_of_ble_eq_true rfl)

set_option maxHeartbeats 4000000 in
set_option maxRecDepth 100000 in
theorem c_X4_read (l : Launch) (D : va_G) (cy : Nat → ClassId) (ad : Nat → Nat) (fr : Nat → Int64) (bk : Nat → Int64) (vw : Nat → Nat) (tk : Int64) (to : Int64) (fk : Int64) (fo : Int64) (kp : Nat) (sp : Nat) (lt : Nat) (ib : Bool) (rw : Nat) (cl : Nat) (nu : Nat) (tv : Nat) (tm : Nat) (ta : Nat → Int32) (ml : Int32) (tn : Nat) (R : va_W) (p0 : Int32) (p1 : Int32) (hst : l.stackTraces = false) : GX l D (gts cy) yX4_read cX4_read 4 (some .int) 2 4 24 [.ref (ad 0), .int p0, .int p1] (wC ad cy fr bk vw tk to fk fo kp sp lt ib rw cl nu tv tm ta ml tn R) (fun r W2 => ∃ k : Nat, k < 3 ∧ p0 = nI k ∧ ∃ i : Nat, i < 7 ∧ p1 = nI i ∧ r = some (.int (rvI (sdW (fr k) (bk k)) (onW (fr k) (bk k)) i)) ∧ W2 = wC ad cy fr bk vw tk to fk fo kp sp lt ib rw cl nu tv tm ta ml tn R) (fun E => E = "java/lang/IndexOutOfBoundsException" ∧ (ir p0 3 && ir p1 7) = false) := by
  refine g_introX (by decide +kernel) (lv := [(0, .ref (ad 0)), (1, .int p0), (2, .int p1)]) rfl (Nat.le_of_ble_eq_true rfl) ?_
  intro p e s m below meth c C0 hno G ls hl
  have hx := C0.1
  have hb := C0.2.1
  have hown := C0.2.2.2.2.2.1
  have hts := C0.2.2.2.2.2.2.1
  refine lv_aload_n hx hb dX4_read_0 rfl (lv_at hl 0 rfl) ?_
  refine lv_iload_n hx hb dX4_read_1 rfl (lv_at hl 1 rfl) ?_
  refine g_callXV (As := [.int p0]) (rest := []) (q0 := 0) C0 G (c_X4_cardAt l D cy (ad := ad) (fr := fr) (bk := bk) (vw := vw) (tk := tk) (to := to) (fk := fk) (fo := fo) (kp := kp) (sp := sp) (lt := lt) (ib := ib) (rw := rw) (cl := cl) (nu := nu) (tv := tv) (tm := tm) (ta := ta) (ml := ml) (tn := tn) (R := R) (p0 := p0) hst) k_X4_cardAt ml_X4_47 rfl rfl dX4_read_2 rfl rfl hl.1 (Nat.le_of_ble_eq_true rfl) ⟨Nat.le_of_ble_eq_true rfl, Nat.le_of_ble_eq_true rfl⟩ ⟨Nat.le_of_ble_eq_true rfl, Nat.le_of_ble_eq_true rfl⟩ (fun E ce q9 H locs hx9 G hce hcv hcl => ?_) (fun r W2 H locs hp G => ?_)
  · exact g_out C0 G hno ⟨hx9.1, by rw [hx9.2]; rfl⟩ hce hcv hcl (Nat.le_of_ble_eq_true rfl) (Nat.le_of_ble_eq_true rfl)
  obtain ⟨hw, k, hk, rfl, rfl⟩ := hp
  have G := g_wc hw G
  refine W.eq (g2 := F0 m 5 ls [.ref (ad (10 + k))]) rfl ?_
  refine lv_astore_n (lv' := [(3, .ref (ad (10 + k))), (0, .ref (ad 0)), (1, .int (nI k)), (2, .int p1)]) hx hb dX4_read_5 rfl hl (by decide) rfl (fun ls hl => ?_)
  refine lv_iload_n hx hb dX4_read_6 rfl (lv_at hl 3 rfl) ?_
  refine g_callXS (As := [.int p1]) (rest := []) C0 G (c_X4_requireRowWithValue l D cy (W1 := wC ad cy fr bk vw tk to fk fo kp sp lt ib rw cl nu tv tm ta ml tn R) (p0 := p1) hst) k_X4_requireRowWithValue ml_X4_51 dX4_read_7 rfl rfl hl.1 (Nat.le_of_ble_eq_true rfl) ⟨Nat.le_of_ble_eq_true rfl, Nat.le_of_ble_eq_true rfl⟩ ⟨Nat.le_of_ble_eq_true rfl, Nat.le_of_ble_eq_true rfl⟩ (fun E ce q9 H locs hx9 G hce hcv hcl => ?_) (fun r W2 H locs hp G => ?_)
  · exact g_out C0 G hno ⟨hx9.1, by rw [hx9.2, Bool.and_false]⟩ hce hcv hcl (Nat.le_of_ble_eq_true rfl) (Nat.le_of_ble_eq_true rfl)
  obtain ⟨rfl, hw, i, hi, rfl⟩ := hp
  have G := g_wc hw G
  refine W.eq (g2 := F0 m 10 ls []) rfl ?_
  refine lv_aload_n hx hb dX4_read_10 rfl (lv_at hl 0 rfl) ?_
  refine g_callVN (As := []) (rest := []) (q0 := k + 9) C0 G (GE.at (i := k + 9) (wC_at (k := k) (by omega)) (fun R => (c_X0_sound l D cy (R := R) (h := ad (10 + k)) (f := fr k) (b := bk k) (v := vw k)  ))) k_X0_sound nm_X4_180 (wC_at (k := k) (by omega)) rfl dX4_read_11 rfl rfl hl.1 (Nat.le_of_ble_eq_true rfl) ⟨Nat.le_of_ble_eq_true rfl, Nat.le_of_ble_eq_true rfl⟩ ⟨Nat.le_of_ble_eq_true rfl, Nat.le_of_ble_eq_true rfl⟩ (fun r W2 H locs hp G => ?_)
  obtain ⟨rfl, hw⟩ := hp
  have G : gW D (wC ad cy fr bk vw tk to fk fo kp sp lt ib rw cl nu tv tm ta ml tn R) (va_A (wC ad cy fr bk vw tk to fk fo kp sp lt ib rw cl nu tv tm ta ml tn R) s.heap.size) s H locs := g_wc (hw.trans (wC_set (k := k) (by omega) (va_up_s _ _) (va_up_s _ _) (va_up_s _ _))) G
  refine W.eq (g2 := F0 m 14 ls [.long (sdW (fr k) (bk k))]) rfl ?_
  refine lv_aload_n hx hb dX4_read_14 rfl (lv_at hl 0 rfl) ?_
  refine g_callVN (As := []) (rest := [.long (sdW (fr k) (bk k))]) (q0 := k + 9) C0 G (GE.at (i := k + 9) (wC_at (k := k) (by omega)) (fun R => (c_X0_ones l D cy (R := R) (h := ad (10 + k)) (f := fr k) (b := bk k) (v := vw k)  ))) k_X0_ones nm_X4_183 (wC_at (k := k) (by omega)) rfl dX4_read_15 rfl rfl hl.1 (Nat.le_of_ble_eq_true rfl) ⟨Nat.le_of_ble_eq_true rfl, Nat.le_of_ble_eq_true rfl⟩ ⟨Nat.le_of_ble_eq_true rfl, Nat.le_of_ble_eq_true rfl⟩ (fun r W2 H locs hp G => ?_)
  obtain ⟨rfl, hw⟩ := hp
  have G : gW D (wC ad cy fr bk vw tk to fk fo kp sp lt ib rw cl nu tv tm ta ml tn R) (va_A (wC ad cy fr bk vw tk to fk fo kp sp lt ib rw cl nu tv tm ta ml tn R) s.heap.size) s H locs := g_wc (hw.trans (wC_set (k := k) (by omega) (va_up_s _ _) (va_up_s _ _) (va_up_s _ _))) G
  refine W.eq (g2 := F0 m 18 ls [.long (onW (fr k) (bk k)), .long (sdW (fr k) (bk k))]) rfl ?_
  refine lv_iload_n hx hb dX4_read_18 rfl (lv_at hl 3 rfl) ?_
  refine g_callS (As := [.long (sdW (fr k) (bk k)), .long (onW (fr k) (bk k)), .int (nI i)]) (rest := []) C0 G (c_X4_rowValue l D cy (W1 := wC ad cy fr bk vw tk to fk fo kp sp lt ib rw cl nu tv tm ta ml tn R) (kn := sdW (fr k) (bk k)) (on := onW (fr k) (bk k)) (row := i) (by omega)) k_X4_rowValue ml_X4_185 dX4_read_19 rfl rfl hl.1 (Nat.le_of_ble_eq_true rfl) ⟨Nat.le_of_ble_eq_true rfl, Nat.le_of_ble_eq_true rfl⟩ ⟨Nat.le_of_ble_eq_true rfl, Nat.le_of_ble_eq_true rfl⟩ (fun r W2 H locs hp G => ?_)
  obtain ⟨rfl, hw⟩ := hp
  have G := g_wc hw G
  refine W.eq (g2 := F0 m 22 ls [.int (rvI (sdW (fr k) (bk k)) (onW (fr k) (bk k)) i)]) rfl ?_
  refine W.widen (k := 4) (n := 24) (Nat.le_of_ble_eq_true rfl) (Nat.le_of_ble_eq_true rfl) ?_
  exact vx_ret (g_iret C0 G ⟨k, hk, rfl, i, hi, rfl, rfl, rfl⟩ dX4_read_22)

set_option maxHeartbeats 4000000 in
set_option maxRecDepth 100000 in
theorem c_X4_value (l : Launch) (D : va_G) (cy : Nat → ClassId) (ad : Nat → Nat) (fr : Nat → Int64) (bk : Nat → Int64) (vw : Nat → Nat) (tk : Int64) (to : Int64) (fk : Int64) (fo : Int64) (kp : Nat) (sp : Nat) (lt : Nat) (ib : Bool) (rw : Nat) (cl : Nat) (nu : Nat) (tv : Nat) (tm : Nat) (ta : Nat → Int32) (ml : Int32) (tn : Nat) (R : va_W) (p0 : Int32) (p1 : Int32) (hst : l.stackTraces = false) : GX l D (gts cy) yX4_value cX4_value 5 (some .int) 5 4 24 [.ref (ad 0), .int p0, .int p1] (wC ad cy fr bk vw tk to fk fo kp sp lt ib rw cl nu tv tm ta ml tn R) (fun r W2 => ∃ k : Nat, k < 3 ∧ p0 = nI k ∧ ∃ i : Nat, i < 7 ∧ p1 = nI i ∧ r = some (.int (rvI ((fa (sdW (fr k) (bk k)) (onW (fr k) (bk k))).1) ((fa (sdW (fr k) (bk k)) (onW (fr k) (bk k))).2) i)) ∧ W2 = wC ad cy fr bk vw ((fa (sdW (fr k) (bk k)) (onW (fr k) (bk k))).1) ((fa (sdW (fr k) (bk k)) (onW (fr k) (bk k))).2) fk fo kp sp lt ib rw cl nu tv tm ta ml tn R) (fun E => E = "java/lang/IndexOutOfBoundsException" ∧ (ir p0 3 && ir p1 7) = false) := by
  refine g_introX (by decide +kernel) (lv := [(0, .ref (ad 0)), (1, .int p0), (2, .int p1)]) rfl (Nat.le_of_ble_eq_true rfl) ?_
  intro p e s m below meth c C0 hno G ls hl
  have hx := C0.1
  have hb := C0.2.1
  have hown := C0.2.2.2.2.2.1
  have hts := C0.2.2.2.2.2.2.1
  refine lv_aload_n hx hb dX4_value_0 rfl (lv_at hl 0 rfl) ?_
  refine lv_iload_n hx hb dX4_value_1 rfl (lv_at hl 1 rfl) ?_
  refine g_callXV (As := [.int p0]) (rest := []) (q0 := 0) C0 G (c_X4_cardAt l D cy (ad := ad) (fr := fr) (bk := bk) (vw := vw) (tk := tk) (to := to) (fk := fk) (fo := fo) (kp := kp) (sp := sp) (lt := lt) (ib := ib) (rw := rw) (cl := cl) (nu := nu) (tv := tv) (tm := tm) (ta := ta) (ml := ml) (tn := tn) (R := R) (p0 := p0) hst) k_X4_cardAt ml_X4_47 rfl rfl dX4_value_2 rfl rfl hl.1 (Nat.le_of_ble_eq_true rfl) ⟨Nat.le_of_ble_eq_true rfl, Nat.le_of_ble_eq_true rfl⟩ ⟨Nat.le_of_ble_eq_true rfl, Nat.le_of_ble_eq_true rfl⟩ (fun E ce q9 H locs hx9 G hce hcv hcl => ?_) (fun r W2 H locs hp G => ?_)
  · exact g_out C0 G hno ⟨hx9.1, by rw [hx9.2]; rfl⟩ hce hcv hcl (Nat.le_of_ble_eq_true rfl) (Nat.le_of_ble_eq_true rfl)
  obtain ⟨hw, k, hk, rfl, rfl⟩ := hp
  have G := g_wc hw G
  refine W.eq (g2 := F0 m 5 ls [.ref (ad (10 + k))]) rfl ?_
  refine lv_astore_n (lv' := [(3, .ref (ad (10 + k))), (0, .ref (ad 0)), (1, .int (nI k)), (2, .int p1)]) hx hb dX4_value_5 rfl hl (by decide) rfl (fun ls hl => ?_)
  refine lv_iload_n hx hb dX4_value_6 rfl (lv_at hl 3 rfl) ?_
  refine g_callXS (As := [.int p1]) (rest := []) C0 G (c_X4_requireRowWithValue l D cy (W1 := wC ad cy fr bk vw tk to fk fo kp sp lt ib rw cl nu tv tm ta ml tn R) (p0 := p1) hst) k_X4_requireRowWithValue ml_X4_51 dX4_value_7 rfl rfl hl.1 (Nat.le_of_ble_eq_true rfl) ⟨Nat.le_of_ble_eq_true rfl, Nat.le_of_ble_eq_true rfl⟩ ⟨Nat.le_of_ble_eq_true rfl, Nat.le_of_ble_eq_true rfl⟩ (fun E ce q9 H locs hx9 G hce hcv hcl => ?_) (fun r W2 H locs hp G => ?_)
  · exact g_out C0 G hno ⟨hx9.1, by rw [hx9.2, Bool.and_false]⟩ hce hcv hcl (Nat.le_of_ble_eq_true rfl) (Nat.le_of_ble_eq_true rfl)
  obtain ⟨rfl, hw, i, hi, rfl⟩ := hp
  have G := g_wc hw G
  refine W.eq (g2 := F0 m 10 ls []) rfl ?_
  refine lv_aload_n hx hb dX4_value_10 rfl (lv_at hl 1 rfl) ?_
  refine lv_aload_n hx hb dX4_value_11 rfl (lv_at hl 0 rfl) ?_
  refine g_callV (As := [.ref (ad (10 + k))]) (rest := []) (q0 := 0) C0 G (c_X4_tellingOf l D cy (ad := ad) (fr := fr) (bk := bk) (vw := vw) (tk := tk) (to := to) (fk := fk) (fo := fo) (kp := kp) (sp := sp) (lt := lt) (ib := ib) (rw := rw) (cl := cl) (nu := nu) (tv := tv) (tm := tm) (ta := ta) (ml := ml) (tn := tn) (R := R) (k := k) (by omega)) k_X4_tellingOf ml_X4_107 rfl rfl dX4_value_12 rfl rfl hl.1 (Nat.le_of_ble_eq_true rfl) ⟨Nat.le_of_ble_eq_true rfl, Nat.le_of_ble_eq_true rfl⟩ ⟨Nat.le_of_ble_eq_true rfl, Nat.le_of_ble_eq_true rfl⟩ (fun r W2 H locs hp G => ?_)
  obtain ⟨rfl, hw⟩ := hp
  have G := g_wc hw G
  refine W.eq (g2 := F0 m 15 ls [.ref (ad 2)]) rfl ?_
  refine lv_astore (lv' := [(4, .ref (ad 2)), (3, .ref (ad (10 + k))), (0, .ref (ad 0)), (1, .int (nI k)), (2, .int (nI i))]) hx hb dX4_value_15 hl (by decide) rfl (fun ls hl => ?_)
  refine lv_aload hx hb dX4_value_17 (lv_at hl 0 rfl) ?_
  refine g_getN (q0 := 2) (v := .long ((fa (sdW (fr k) (bk k)) (onW (fr k) (bk k))).1)) C0 G in_X3 rfl rfl 0 (by decide) nf_X4_114 (fun _ h => h) rfl dX4_value_19 ?_
  refine lv_aload hx hb dX4_value_22 (lv_at hl 0 rfl) ?_
  refine g_getN (q0 := 2) (v := .long ((fa (sdW (fr k) (bk k)) (onW (fr k) (bk k))).2)) C0 G in_X3 rfl rfl 1 (by decide) nf_X4_111 (fun _ h => h) rfl dX4_value_24 ?_
  refine lv_iload_n hx hb dX4_value_27 rfl (lv_at hl 4 rfl) ?_
  refine g_callS (As := [.long ((fa (sdW (fr k) (bk k)) (onW (fr k) (bk k))).1), .long ((fa (sdW (fr k) (bk k)) (onW (fr k) (bk k))).2), .int (nI i)]) (rest := []) C0 G (c_X4_rowValue l D cy (W1 := wC ad cy fr bk vw ((fa (sdW (fr k) (bk k)) (onW (fr k) (bk k))).1) ((fa (sdW (fr k) (bk k)) (onW (fr k) (bk k))).2) fk fo kp sp lt ib rw cl nu tv tm ta ml tn R) (kn := (fa (sdW (fr k) (bk k)) (onW (fr k) (bk k))).1) (on := (fa (sdW (fr k) (bk k)) (onW (fr k) (bk k))).2) (row := i) (by omega)) k_X4_rowValue ml_X4_185 dX4_value_28 rfl rfl hl.1 (Nat.le_of_ble_eq_true rfl) ⟨Nat.le_of_ble_eq_true rfl, Nat.le_of_ble_eq_true rfl⟩ ⟨Nat.le_of_ble_eq_true rfl, Nat.le_of_ble_eq_true rfl⟩ (fun r W2 H locs hp G => ?_)
  obtain ⟨rfl, hw⟩ := hp
  have G := g_wc hw G
  refine W.eq (g2 := F0 m 31 ls [.int (rvI ((fa (sdW (fr k) (bk k)) (onW (fr k) (bk k))).1) ((fa (sdW (fr k) (bk k)) (onW (fr k) (bk k))).2) i)]) rfl ?_
  refine W.widen (k := 4) (n := 24) (Nat.le_of_ble_eq_true rfl) (Nat.le_of_ble_eq_true rfl) ?_
  exact vx_ret (g_iret C0 G ⟨k, hk, rfl, i, hi, rfl, rfl, rfl⟩ dX4_value_31)

set_option maxHeartbeats 4000000 in
set_option maxRecDepth 100000 in
theorem c_X4_disagreement (l : Launch) (D : va_G) (cy : Nat → ClassId) (ad : Nat → Nat) (fr : Nat → Int64) (bk : Nat → Int64) (vw : Nat → Nat) (tk : Int64) (to : Int64) (fk : Int64) (fo : Int64) (kp : Nat) (sp : Nat) (lt : Nat) (ib : Bool) (rw : Nat) (cl : Nat) (nu : Nat) (tv : Nat) (tm : Nat) (ta : Nat → Int32) (ml : Int32) (tn : Nat) (R : va_W) (p0 : Int32) (p1 : Int32) (hst : l.stackTraces = false) : GX l D (gts cy) yX4_disagreement cX4_disagreement 4 (some .int) 5 4 24 [.ref (ad 0), .int p0, .int p1] (wC ad cy fr bk vw tk to fk fo kp sp lt ib rw cl nu tv tm ta ml tn R) (fun r W2 => ∃ k : Nat, k < 3 ∧ p0 = nI k ∧ ∃ i : Nat, i < 2147483648 ∧ p1 = nI i ∧ r = some (.int (dlI (dgB ((fa (sdW (fr k) (bk k)) (onW (fr k) (bk k))).1) ((fa (sdW (fr k) (bk k)) (onW (fr k) (bk k))).2)) i)) ∧ W2 = wC ad cy fr bk vw ((fa (sdW (fr k) (bk k)) (onW (fr k) (bk k))).1) ((fa (sdW (fr k) (bk k)) (onW (fr k) (bk k))).2) fk fo kp sp lt ib rw cl nu tv tm ta ml tn R) (fun E => E = "java/lang/IndexOutOfBoundsException" ∧ (ir p0 3 = false ∨ p1 < 0)) := by
  refine g_introX (by decide +kernel) (lv := [(0, .ref (ad 0)), (1, .int p0), (2, .int p1)]) rfl (Nat.le_of_ble_eq_true rfl) ?_
  intro p e s m below meth c C0 hno G ls hl
  have hx := C0.1
  have hb := C0.2.1
  have hown := C0.2.2.2.2.2.1
  have hts := C0.2.2.2.2.2.2.1
  refine lv_aload_n hx hb dX4_disagreement_0 rfl (lv_at hl 0 rfl) ?_
  refine lv_iload_n hx hb dX4_disagreement_1 rfl (lv_at hl 1 rfl) ?_
  refine g_callXV (As := [.int p0]) (rest := []) (q0 := 0) C0 G (c_X4_cardAt l D cy (ad := ad) (fr := fr) (bk := bk) (vw := vw) (tk := tk) (to := to) (fk := fk) (fo := fo) (kp := kp) (sp := sp) (lt := lt) (ib := ib) (rw := rw) (cl := cl) (nu := nu) (tv := tv) (tm := tm) (ta := ta) (ml := ml) (tn := tn) (R := R) (p0 := p0) hst) k_X4_cardAt ml_X4_47 rfl rfl dX4_disagreement_2 rfl rfl hl.1 (Nat.le_of_ble_eq_true rfl) ⟨Nat.le_of_ble_eq_true rfl, Nat.le_of_ble_eq_true rfl⟩ ⟨Nat.le_of_ble_eq_true rfl, Nat.le_of_ble_eq_true rfl⟩ (fun E ce q9 H locs hx9 G hce hcv hcl => ?_) (fun r W2 H locs hp G => ?_)
  · exact g_out C0 G hno ⟨hx9.1, Or.inl hx9.2⟩ hce hcv hcl (Nat.le_of_ble_eq_true rfl) (Nat.le_of_ble_eq_true rfl)
  obtain ⟨hw, k, hk, rfl, rfl⟩ := hp
  have G := g_wc hw G
  refine W.eq (g2 := F0 m 5 ls [.ref (ad (10 + k))]) rfl ?_
  refine lv_astore_n (lv' := [(3, .ref (ad (10 + k))), (0, .ref (ad 0)), (1, .int (nI k)), (2, .int p1)]) hx hb dX4_disagreement_5 rfl hl (by decide) rfl (fun ls hl => ?_)
  refine lv_iload_n hx hb dX4_disagreement_6 rfl (lv_at hl 3 rfl) ?_
  refine lv_if_ge (tgt := 20) hx hb dX4_disagreement_7 (by decide) (fun c_7 => ?_) (fun c_7 => ?_)
  · skip
    obtain ⟨i, hi, rfl⟩ := nI_of (fun h => absurd c_7 (by simpa using h))
    refine lv_aload_n hx hb dX4_disagreement_20 rfl (lv_at hl 1 rfl) ?_
    refine lv_aload_n hx hb dX4_disagreement_21 rfl (lv_at hl 0 rfl) ?_
    refine g_callV (As := [.ref (ad (10 + k))]) (rest := []) (q0 := 0) C0 G (c_X4_tellingOf l D cy (ad := ad) (fr := fr) (bk := bk) (vw := vw) (tk := tk) (to := to) (fk := fk) (fo := fo) (kp := kp) (sp := sp) (lt := lt) (ib := ib) (rw := rw) (cl := cl) (nu := nu) (tv := tv) (tm := tm) (ta := ta) (ml := ml) (tn := tn) (R := R) (k := k) (by omega)) k_X4_tellingOf ml_X4_107 rfl rfl dX4_disagreement_22 rfl rfl hl.1 (Nat.le_of_ble_eq_true rfl) ⟨Nat.le_of_ble_eq_true rfl, Nat.le_of_ble_eq_true rfl⟩ ⟨Nat.le_of_ble_eq_true rfl, Nat.le_of_ble_eq_true rfl⟩ (fun r W2 H locs hp G => ?_)
    obtain ⟨rfl, hw⟩ := hp
    have G := g_wc hw G
    refine W.eq (g2 := F0 m 25 ls [.ref (ad 2)]) rfl ?_
    refine lv_iload_n hx hb dX4_disagreement_25 rfl (lv_at hl 3 rfl) ?_
    refine g_callVN (As := [.int (nI i)]) (rest := []) (q0 := 2) C0 G (GE.at (i := 2) rfl (fun R => (c_X3_disagreeingLine l D cy (R := R) (h := ad 2) (kn := (fa (sdW (fr k) (bk k)) (onW (fr k) (bk k))).1) (on := (fa (sdW (fr k) (bk k)) (onW (fr k) (bk k))).2) (idx := i) (by omega)))) k_X3_disagreeingLine nm_X4_197 rfl rfl dX4_disagreement_26 rfl rfl hl.1 (Nat.le_of_ble_eq_true rfl) ⟨Nat.le_of_ble_eq_true rfl, Nat.le_of_ble_eq_true rfl⟩ ⟨Nat.le_of_ble_eq_true rfl, Nat.le_of_ble_eq_true rfl⟩ (fun r W2 H locs hp G => ?_)
    obtain ⟨rfl, hw⟩ := hp
    have G : gW D (wC ad cy fr bk vw ((fa (sdW (fr k) (bk k)) (onW (fr k) (bk k))).1) ((fa (sdW (fr k) (bk k)) (onW (fr k) (bk k))).2) fk fo kp sp lt ib rw cl nu tv tm ta ml tn R) (va_A (wC ad cy fr bk vw tk to fk fo kp sp lt ib rw cl nu tv tm ta ml tn R) s.heap.size) s H locs := g_wc (hw.trans (by rfl)) G
    refine W.eq (g2 := F0 m 29 ls [.int (dlI (dgB ((fa (sdW (fr k) (bk k)) (onW (fr k) (bk k))).1) ((fa (sdW (fr k) (bk k)) (onW (fr k) (bk k))).2)) i)]) rfl ?_
    refine W.widen (k := 4) (n := 24) (Nat.le_of_ble_eq_true rfl) (Nat.le_of_ble_eq_true rfl) ?_
    exact vx_ret (g_iret C0 G ⟨k, hk, rfl, i, hi, rfl, rfl, rfl⟩ dX4_disagreement_29)
  · skip
    exact g_throwS (names := ["java/lang/RuntimeException", "java/lang/Exception"]) C0 hst hno G hl.1 (by decide +kernel) (by decide +kernel) tw_ioobe xl_X4_171 ti_ioobe ⟨rfl, sr_195⟩ dX4_disagreement_10 dX4_disagreement_13 dX4_disagreement_14 dX4_disagreement_16 dX4_disagreement_19 ⟨(Nat.le_of_ble_eq_true rfl), (Nat.le_of_ble_eq_true rfl)⟩ (Nat.le_of_ble_eq_true rfl) (Nat.le_of_ble_eq_true rfl) ⟨rfl, Or.inr (by simpa using c_7)⟩ (Nat.le_of_ble_eq_true rfl) (Nat.le_of_ble_eq_true rfl)

set_option maxHeartbeats 4000000 in
set_option maxRecDepth 100000 in
theorem c_X4_untoldIf (l : Launch) (D : va_G) (cy : Nat → ClassId) (ad : Nat → Nat) (fr : Nat → Int64) (bk : Nat → Int64) (vw : Nat → Nat) (tk : Int64) (to : Int64) (fk : Int64) (fo : Int64) (kp : Nat) (sp : Nat) (lt : Nat) (ib : Bool) (rw : Nat) (cl : Nat) (nu : Nat) (tv : Nat) (tm : Nat) (ta : Nat → Int32) (ml : Int32) (tn : Nat) (R : va_W) (p0 : Int32) (p1 : Int32) (p2 : Int32) (hst : l.stackTraces = false) : GX l D (gts cy) yX4_untoldIf cX4_untoldIf 5 (some .int) 5 4 24 [.ref (ad 0), .int p0, .int p1, .int p2] (wC ad cy fr bk vw tk to fk fo kp sp lt ib rw cl nu tv tm ta ml tn R) (fun r W2 => ∃ k : Nat, k < 3 ∧ p0 = nI k ∧ ∃ i : Nat, i < 8 ∧ p1 = nI i ∧ ∃ j : Nat, j < 8 ∧ p2 = nI j ∧ r = some (.int (uwI (fr k) (bk k) (8 * i + j))) ∧ W2 = wC ad cy fr bk vw tk to ((uwF (fr k) (bk k) (8 * i + j) (fk, fo)).1) ((uwF (fr k) (bk k) (8 * i + j) (fk, fo)).2) kp sp lt ib rw cl nu tv tm ta ml tn R) (fun E => E = "java/lang/IndexOutOfBoundsException" ∧ (ir p0 3 && ir p1 8 && ir p2 8) = false) := by
  refine g_introX (by decide +kernel) (lv := [(0, .ref (ad 0)), (1, .int p0), (2, .int p1), (3, .int p2)]) rfl (Nat.le_of_ble_eq_true rfl) ?_
  intro p e s m below meth c C0 hno G ls hl
  have hx := C0.1
  have hb := C0.2.1
  have hown := C0.2.2.2.2.2.1
  have hts := C0.2.2.2.2.2.2.1
  refine lv_aload_n hx hb dX4_untoldIf_0 rfl (lv_at hl 0 rfl) ?_
  refine lv_iload_n hx hb dX4_untoldIf_1 rfl (lv_at hl 1 rfl) ?_
  refine g_callXV (As := [.int p0]) (rest := []) (q0 := 0) C0 G (c_X4_cardAt l D cy (ad := ad) (fr := fr) (bk := bk) (vw := vw) (tk := tk) (to := to) (fk := fk) (fo := fo) (kp := kp) (sp := sp) (lt := lt) (ib := ib) (rw := rw) (cl := cl) (nu := nu) (tv := tv) (tm := tm) (ta := ta) (ml := ml) (tn := tn) (R := R) (p0 := p0) hst) k_X4_cardAt ml_X4_47 rfl rfl dX4_untoldIf_2 rfl rfl hl.1 (Nat.le_of_ble_eq_true rfl) ⟨Nat.le_of_ble_eq_true rfl, Nat.le_of_ble_eq_true rfl⟩ ⟨Nat.le_of_ble_eq_true rfl, Nat.le_of_ble_eq_true rfl⟩ (fun E ce q9 H locs hx9 G hce hcv hcl => ?_) (fun r W2 H locs hp G => ?_)
  · exact g_out C0 G hno ⟨hx9.1, by rw [hx9.2]; rfl⟩ hce hcv hcl (Nat.le_of_ble_eq_true rfl) (Nat.le_of_ble_eq_true rfl)
  obtain ⟨hw, k, hk, rfl, rfl⟩ := hp
  have G := g_wc hw G
  refine W.eq (g2 := F0 m 5 ls [.ref (ad (10 + k))]) rfl ?_
  refine lv_astore (lv' := [(4, .ref (ad (10 + k))), (0, .ref (ad 0)), (1, .int (nI k)), (2, .int p1), (3, .int p2)]) hx hb dX4_untoldIf_5 hl (by decide) rfl (fun ls hl => ?_)
  refine lv_iload_n hx hb dX4_untoldIf_7 rfl (lv_at hl 3 rfl) ?_
  refine lv_iload_n hx hb dX4_untoldIf_8 rfl (lv_at hl 4 rfl) ?_
  refine g_callXS (As := [.int p1, .int p2]) (rest := []) C0 G (c_X4_requireCell l D cy (W1 := wC ad cy fr bk vw tk to fk fo kp sp lt ib rw cl nu tv tm ta ml tn R) (p0 := p1) (p1 := p2) hst) k_X4_requireCell ml_X4_123 dX4_untoldIf_9 rfl rfl hl.1 (Nat.le_of_ble_eq_true rfl) ⟨Nat.le_of_ble_eq_true rfl, Nat.le_of_ble_eq_true rfl⟩ ⟨Nat.le_of_ble_eq_true rfl, Nat.le_of_ble_eq_true rfl⟩ (fun E ce q9 H locs hx9 G hce hcv hcl => ?_) (fun r W2 H locs hp G => ?_)
  · exact g_out C0 G hno ⟨hx9.1, by have h8 := hx9.2; rw [Bool.and_assoc, h8, Bool.and_false]⟩ hce hcv hcl (Nat.le_of_ble_eq_true rfl) (Nat.le_of_ble_eq_true rfl)
  obtain ⟨rfl, hw, i, hi, rfl, j, hj, rfl⟩ := hp
  have G := g_wc hw G
  refine W.eq (g2 := F0 m 12 ls []) rfl ?_
  refine lv_aload_n hx hb dX4_untoldIf_12 rfl (lv_at hl 1 rfl) ?_
  refine lv_aload hx hb dX4_untoldIf_13 (lv_at hl 0 rfl) ?_
  refine lv_iload_n hx hb dX4_untoldIf_15 rfl (lv_at hl 3 rfl) ?_
  refine lv_iload_n hx hb dX4_untoldIf_16 rfl (lv_at hl 4 rfl) ?_
  refine g_callS (As := [.int (nI i), .int (nI j)]) (rest := [.ref (ad (10 + k)), .ref (ad 0)]) C0 G (c_X4_cellNumber l D cy (W1 := wC ad cy fr bk vw tk to fk fo kp sp lt ib rw cl nu tv tm ta ml tn R) (row := i) (col := j) ) k_X4_cellNumber ml_X4_165 dX4_untoldIf_17 rfl rfl hl.1 (Nat.le_of_ble_eq_true rfl) ⟨Nat.le_of_ble_eq_true rfl, Nat.le_of_ble_eq_true rfl⟩ ⟨Nat.le_of_ble_eq_true rfl, Nat.le_of_ble_eq_true rfl⟩ (fun r W2 H locs hp G => ?_)
  obtain ⟨rfl, hw⟩ := hp
  have G := g_wc hw G
  refine W.eq (g2 := F0 m 20 ls [.int (nI (8 * i + j)), .ref (ad (10 + k)), .ref (ad 0)]) rfl ?_
  refine g_callV (As := [.ref (ad (10 + k)), .int (nI (8 * i + j))]) (rest := []) (q0 := 0) C0 G (c_X4_untoldWithout l D cy (ad := ad) (fr := fr) (bk := bk) (vw := vw) (tk := tk) (to := to) (fk := fk) (fo := fo) (kp := kp) (sp := sp) (lt := lt) (ib := ib) (rw := rw) (cl := cl) (nu := nu) (tv := tv) (tm := tm) (ta := ta) (ml := ml) (tn := tn) (R := R) (k := k) (j := 8 * i + j) (by omega) (by omega)) k_X4_untoldWithout ml_X4_202 rfl rfl dX4_untoldIf_20 rfl rfl hl.1 (Nat.le_of_ble_eq_true rfl) ⟨Nat.le_of_ble_eq_true rfl, Nat.le_of_ble_eq_true rfl⟩ ⟨Nat.le_of_ble_eq_true rfl, Nat.le_of_ble_eq_true rfl⟩ (fun r W2 H locs hp G => ?_)
  obtain ⟨rfl, hw⟩ := hp
  have G := g_wc hw G
  refine W.eq (g2 := F0 m 23 ls [.int (uwI (fr k) (bk k) (8 * i + j))]) rfl ?_
  refine W.widen (k := 4) (n := 24) (Nat.le_of_ble_eq_true rfl) (Nat.le_of_ble_eq_true rfl) ?_
  exact vx_ret (g_iret C0 G ⟨k, hk, rfl, i, hi, rfl, j, hj, rfl, rfl, rfl⟩ dX4_untoldIf_23)

set_option maxHeartbeats 4000000 in
set_option maxRecDepth 100000 in
theorem c_X4_difference (l : Launch) (D : va_G) (cy : Nat → ClassId) (ad : Nat → Nat) (fr : Nat → Int64) (bk : Nat → Int64) (vw : Nat → Nat) (tk : Int64) (to : Int64) (fk : Int64) (fo : Int64) (kp : Nat) (sp : Nat) (lt : Nat) (ib : Bool) (rw : Nat) (cl : Nat) (nu : Nat) (tv : Nat) (tm : Nat) (ta : Nat → Int32) (ml : Int32) (tn : Nat) (R : va_W) (p0 : Int32) (p1 : Int32) (hst : l.stackTraces = false) : GX l D (gts cy) yX4_difference cX4_difference 10 (some .int) 5 4 24 [.ref (ad 0), .int p0, .int p1] (wC ad cy fr bk vw tk to fk fo kp sp lt ib rw cl nu tv tm ta ml tn R) (fun r W2 => ∃ k : Nat, k < 3 ∧ p0 = nI k ∧ ∃ j : Nat, j < 3 ∧ p1 = nI j ∧ r = some (.int (nI (pc ((((fa (sdW (fr k) (bk k)) (onW (fr k) (bk k))).1) &&& ((fa (sdW (fr j) (bk j)) (onW (fr j) (bk j))).1)) &&& (((fa (sdW (fr k) (bk k)) (onW (fr k) (bk k))).2) ^^^ ((fa (sdW (fr j) (bk j)) (onW (fr j) (bk j))).2)))))) ∧ W2 = wC ad cy fr bk vw ((fa (sdW (fr j) (bk j)) (onW (fr j) (bk j))).1) ((fa (sdW (fr j) (bk j)) (onW (fr j) (bk j))).2) fk fo kp sp lt ib rw cl nu tv tm ta ml tn R) (fun E => E = "java/lang/IndexOutOfBoundsException" ∧ (ir p0 3 && ir p1 3) = false) := by
  refine g_introX (by decide +kernel) (lv := [(0, .ref (ad 0)), (1, .int p0), (2, .int p1)]) rfl (Nat.le_of_ble_eq_true rfl) ?_
  intro p e s m below meth c C0 hno G ls hl
  have hx := C0.1
  have hb := C0.2.1
  have hown := C0.2.2.2.2.2.1
  have hts := C0.2.2.2.2.2.2.1
  refine lv_aload_n hx hb dX4_difference_0 rfl (lv_at hl 0 rfl) ?_
  refine lv_iload_n hx hb dX4_difference_1 rfl (lv_at hl 1 rfl) ?_
  refine g_callXV (As := [.int p0]) (rest := []) (q0 := 0) C0 G (c_X4_cardAt l D cy (ad := ad) (fr := fr) (bk := bk) (vw := vw) (tk := tk) (to := to) (fk := fk) (fo := fo) (kp := kp) (sp := sp) (lt := lt) (ib := ib) (rw := rw) (cl := cl) (nu := nu) (tv := tv) (tm := tm) (ta := ta) (ml := ml) (tn := tn) (R := R) (p0 := p0) hst) k_X4_cardAt ml_X4_47 rfl rfl dX4_difference_2 rfl rfl hl.1 (Nat.le_of_ble_eq_true rfl) ⟨Nat.le_of_ble_eq_true rfl, Nat.le_of_ble_eq_true rfl⟩ ⟨Nat.le_of_ble_eq_true rfl, Nat.le_of_ble_eq_true rfl⟩ (fun E ce q9 H locs hx9 G hce hcv hcl => ?_) (fun r W2 H locs hp G => ?_)
  · exact g_out C0 G hno ⟨hx9.1, by rw [hx9.2]; rfl⟩ hce hcv hcl (Nat.le_of_ble_eq_true rfl) (Nat.le_of_ble_eq_true rfl)
  obtain ⟨hw, k, hk, rfl, rfl⟩ := hp
  have G := g_wc hw G
  refine W.eq (g2 := F0 m 5 ls [.ref (ad (10 + k))]) rfl ?_
  refine lv_astore_n (lv' := [(3, .ref (ad (10 + k))), (0, .ref (ad 0)), (1, .int (nI k)), (2, .int p1)]) hx hb dX4_difference_5 rfl hl (by decide) rfl (fun ls hl => ?_)
  refine lv_aload_n hx hb dX4_difference_6 rfl (lv_at hl 1 rfl) ?_
  refine lv_iload_n hx hb dX4_difference_7 rfl (lv_at hl 3 rfl) ?_
  refine g_callXV (As := [.int p1]) (rest := []) (q0 := 0) C0 G (c_X4_cardAt l D cy (ad := ad) (fr := fr) (bk := bk) (vw := vw) (tk := tk) (to := to) (fk := fk) (fo := fo) (kp := kp) (sp := sp) (lt := lt) (ib := ib) (rw := rw) (cl := cl) (nu := nu) (tv := tv) (tm := tm) (ta := ta) (ml := ml) (tn := tn) (R := R) (p0 := p1) hst) k_X4_cardAt ml_X4_47 rfl rfl dX4_difference_8 rfl rfl hl.1 (Nat.le_of_ble_eq_true rfl) ⟨Nat.le_of_ble_eq_true rfl, Nat.le_of_ble_eq_true rfl⟩ ⟨Nat.le_of_ble_eq_true rfl, Nat.le_of_ble_eq_true rfl⟩ (fun E ce q9 H locs hx9 G hce hcv hcl => ?_) (fun r W2 H locs hp G => ?_)
  · exact g_out C0 G hno ⟨hx9.1, by rw [hx9.2, Bool.and_false]⟩ hce hcv hcl (Nat.le_of_ble_eq_true rfl) (Nat.le_of_ble_eq_true rfl)
  obtain ⟨hw, j, hj, rfl, rfl⟩ := hp
  have G := g_wc hw G
  refine W.eq (g2 := F0 m 11 ls [.ref (ad (10 + j))]) rfl ?_
  refine lv_astore (lv' := [(4, .ref (ad (10 + j))), (3, .ref (ad (10 + k))), (0, .ref (ad 0)), (1, .int (nI k)), (2, .int (nI j))]) hx hb dX4_difference_11 hl (by decide) rfl (fun ls hl => ?_)
  refine lv_aload_n hx hb dX4_difference_13 rfl (lv_at hl 2 rfl) ?_
  refine lv_aload_n hx hb dX4_difference_14 rfl (lv_at hl 1 rfl) ?_
  refine g_callV (As := [.ref (ad (10 + k))]) (rest := []) (q0 := 0) C0 G (c_X4_tellingOf l D cy (ad := ad) (fr := fr) (bk := bk) (vw := vw) (tk := tk) (to := to) (fk := fk) (fo := fo) (kp := kp) (sp := sp) (lt := lt) (ib := ib) (rw := rw) (cl := cl) (nu := nu) (tv := tv) (tm := tm) (ta := ta) (ml := ml) (tn := tn) (R := R) (k := k) (by omega)) k_X4_tellingOf ml_X4_107 rfl rfl dX4_difference_15 rfl rfl hl.1 (Nat.le_of_ble_eq_true rfl) ⟨Nat.le_of_ble_eq_true rfl, Nat.le_of_ble_eq_true rfl⟩ ⟨Nat.le_of_ble_eq_true rfl, Nat.le_of_ble_eq_true rfl⟩ (fun r W2 H locs hp G => ?_)
  obtain ⟨rfl, hw⟩ := hp
  have G := g_wc hw G
  refine W.eq (g2 := F0 m 18 ls [.ref (ad 2)]) rfl ?_
  refine lv_astore (lv' := [(5, .ref (ad 2)), (4, .ref (ad (10 + j))), (3, .ref (ad (10 + k))), (0, .ref (ad 0)), (1, .int (nI k)), (2, .int (nI j))]) hx hb dX4_difference_18 hl (by decide) rfl (fun ls hl => ?_)
  refine lv_aload hx hb dX4_difference_20 (lv_at hl 0 rfl) ?_
  refine g_getN (q0 := 2) (v := .long ((fa (sdW (fr k) (bk k)) (onW (fr k) (bk k))).1)) C0 G in_X3 rfl rfl 0 (by decide) nf_X4_114 (fun _ h => h) rfl dX4_difference_22 ?_
  refine lv_lstore (lv' := [(6, .long ((fa (sdW (fr k) (bk k)) (onW (fr k) (bk k))).1)), (5, .ref (ad 2)), (4, .ref (ad (10 + j))), (3, .ref (ad (10 + k))), (0, .ref (ad 0)), (1, .int (nI k)), (2, .int (nI j))]) hx hb dX4_difference_25 hl (by decide) rfl (fun ls hl => ?_)
  refine lv_aload hx hb dX4_difference_27 (lv_at hl 1 rfl) ?_
  refine g_getN (q0 := 2) (v := .long ((fa (sdW (fr k) (bk k)) (onW (fr k) (bk k))).2)) C0 G in_X3 rfl rfl 1 (by decide) nf_X4_111 (fun _ h => h) rfl dX4_difference_29 ?_
  refine lv_lstore (lv' := [(8, .long ((fa (sdW (fr k) (bk k)) (onW (fr k) (bk k))).2)), (6, .long ((fa (sdW (fr k) (bk k)) (onW (fr k) (bk k))).1)), (5, .ref (ad 2)), (4, .ref (ad (10 + j))), (3, .ref (ad (10 + k))), (0, .ref (ad 0)), (1, .int (nI k)), (2, .int (nI j))]) hx hb dX4_difference_32 hl (by decide) rfl (fun ls hl => ?_)
  refine lv_aload_n hx hb dX4_difference_34 rfl (lv_at hl 5 rfl) ?_
  refine lv_aload hx hb dX4_difference_35 (lv_at hl 3 rfl) ?_
  refine g_callV (As := [.ref (ad (10 + j))]) (rest := []) (q0 := 0) C0 G (c_X4_tellingOf l D cy (ad := ad) (fr := fr) (bk := bk) (vw := vw) (tk := (fa (sdW (fr k) (bk k)) (onW (fr k) (bk k))).1) (to := (fa (sdW (fr k) (bk k)) (onW (fr k) (bk k))).2) (fk := fk) (fo := fo) (kp := kp) (sp := sp) (lt := lt) (ib := ib) (rw := rw) (cl := cl) (nu := nu) (tv := tv) (tm := tm) (ta := ta) (ml := ml) (tn := tn) (R := R) (k := j) (by omega)) k_X4_tellingOf ml_X4_107 rfl rfl dX4_difference_37 rfl rfl hl.1 (Nat.le_of_ble_eq_true rfl) ⟨Nat.le_of_ble_eq_true rfl, Nat.le_of_ble_eq_true rfl⟩ ⟨Nat.le_of_ble_eq_true rfl, Nat.le_of_ble_eq_true rfl⟩ (fun r W2 H locs hp G => ?_)
  obtain ⟨rfl, hw⟩ := hp
  have G := g_wc hw G
  refine W.eq (g2 := F0 m 40 ls [.ref (ad 2)]) rfl ?_
  refine lv_astore (lv' := [(5, .ref (ad 2)), (8, .long ((fa (sdW (fr k) (bk k)) (onW (fr k) (bk k))).2)), (6, .long ((fa (sdW (fr k) (bk k)) (onW (fr k) (bk k))).1)), (4, .ref (ad (10 + j))), (3, .ref (ad (10 + k))), (0, .ref (ad 0)), (1, .int (nI k)), (2, .int (nI j))]) hx hb dX4_difference_40 hl (by decide) rfl (fun ls hl => ?_)
  refine lv_lload hx hb dX4_difference_42 (lv_at hl 2 rfl) ?_
  refine lv_aload hx hb dX4_difference_44 (lv_at hl 0 rfl) ?_
  refine g_getN (q0 := 2) (v := .long ((fa (sdW (fr j) (bk j)) (onW (fr j) (bk j))).1)) C0 G in_X3 rfl rfl 0 (by decide) nf_X4_114 (fun _ h => h) rfl dX4_difference_46 ?_
  refine lv_land hx hb dX4_difference_49 ?_
  refine lv_lload hx hb dX4_difference_50 (lv_at hl 1 rfl) ?_
  refine lv_aload hx hb dX4_difference_52 (lv_at hl 0 rfl) ?_
  refine g_getN (q0 := 2) (v := .long ((fa (sdW (fr j) (bk j)) (onW (fr j) (bk j))).2)) C0 G in_X3 rfl rfl 1 (by decide) nf_X4_111 (fun _ h => h) rfl dX4_difference_54 ?_
  refine lv_lxor hx hb dX4_difference_57 ?_
  refine lv_land hx hb dX4_difference_58 ?_
  refine g_callS (As := [.long ((((fa (sdW (fr k) (bk k)) (onW (fr k) (bk k))).1) &&& ((fa (sdW (fr j) (bk j)) (onW (fr j) (bk j))).1)) &&& (((fa (sdW (fr k) (bk k)) (onW (fr k) (bk k))).2) ^^^ ((fa (sdW (fr j) (bk j)) (onW (fr j) (bk j))).2)))]) (rest := []) C0 G (c_J13_bitCount_95d88 l D cy (W1 := wC ad cy fr bk vw ((fa (sdW (fr j) (bk j)) (onW (fr j) (bk j))).1) ((fa (sdW (fr j) (bk j)) (onW (fr j) (bk j))).2) fk fo kp sp lt ib rw cl nu tv tm ta ml tn R) (w := (((fa (sdW (fr k) (bk k)) (onW (fr k) (bk k))).1) &&& ((fa (sdW (fr j) (bk j)) (onW (fr j) (bk j))).1)) &&& (((fa (sdW (fr k) (bk k)) (onW (fr k) (bk k))).2) ^^^ ((fa (sdW (fr j) (bk j)) (onW (fr j) (bk j))).2))) ) k_J13_bitCount_95d88 ml_X4_93 dX4_difference_59 rfl rfl hl.1 (Nat.le_of_ble_eq_true rfl) ⟨Nat.le_of_ble_eq_true rfl, Nat.le_of_ble_eq_true rfl⟩ ⟨Nat.le_of_ble_eq_true rfl, Nat.le_of_ble_eq_true rfl⟩ (fun r W2 H locs hp G => ?_)
  obtain ⟨rfl, hw⟩ := hp
  have G := g_wc hw G
  refine W.eq (g2 := F0 m 62 ls [.int (nI (pc ((((fa (sdW (fr k) (bk k)) (onW (fr k) (bk k))).1) &&& ((fa (sdW (fr j) (bk j)) (onW (fr j) (bk j))).1)) &&& (((fa (sdW (fr k) (bk k)) (onW (fr k) (bk k))).2) ^^^ ((fa (sdW (fr j) (bk j)) (onW (fr j) (bk j))).2)))))]) rfl ?_
  refine W.widen (k := 4) (n := 24) (Nat.le_of_ble_eq_true rfl) (Nat.le_of_ble_eq_true rfl) ?_
  exact vx_ret (g_iret C0 G ⟨k, hk, rfl, j, hj, rfl, rfl, rfl⟩ dX4_difference_62)

set_option maxHeartbeats 4000000 in
set_option maxRecDepth 100000 in
theorem c_X4_undo (l : Launch) (D : va_G) (cy : Nat → ClassId) (ad : Nat → Nat) (fr : Nat → Int64) (bk : Nat → Int64) (vw : Nat → Nat) (tk : Int64) (to : Int64) (fk : Int64) (fo : Int64) (kp : Nat) (sp : Nat) (lt : Nat) (ib : Bool) (rw : Nat) (cl : Nat) (nu : Nat) (tv : Nat) (tm : Nat) (ta : Nat → Int32) (ml : Int32) (tn : Nat) (R : va_W)  (hst : l.stackTraces = false) (hkp : kp ≤ 6) : GX l D (gts cy) yX4_undo cX4_undo 1 (some .int) 2 4 24 [.ref (ad 0)] (wC ad cy fr bk vw tk to fk fo kp sp lt ib rw cl nu tv tm ta ml tn R) (fun r W2 => 0 < kp ∧ r = some (.int (nI (kp - 1))) ∧ W2 = wC ad cy (if 0 < kp then rsU fr ((kp - 1) * 3) 3 else fr) (if 0 < kp then rsU bk ((kp - 1) * 3) 3 else bk) (if 0 < kp then rsU vw ((kp - 1) * 3) 3 else vw) tk to fk fo (kp - 1) sp lt ib rw cl nu tv tm ta ml tn R) (fun E => E = "java/lang/IllegalStateException" ∧ kp = 0) := by
  refine g_introX (by decide +kernel) (lv := [(0, .ref (ad 0))]) rfl (Nat.le_of_ble_eq_true rfl) ?_
  intro p e s m below meth c C0 hno G ls hl
  have hx := C0.1
  have hb := C0.2.1
  have hown := C0.2.2.2.2.2.1
  have hts := C0.2.2.2.2.2.2.1
  refine lv_aload_n hx hb dX4_undo_0 rfl (lv_at hl 0 rfl) ?_
  refine g_get (q0 := 0) (v := .ref (ad 4)) C0 G in_X4 rfl rfl 3 (by decide) fl_X4_29 (fun _ h => h) rfl dX4_undo_1 ?_
  refine lv_aload_n hx hb dX4_undo_4 rfl (lv_at hl 0 rfl) ?_
  refine g_get (q0 := 0) (v := .ref (ad 1)) C0 G in_X4 rfl rfl 0 (by decide) fl_X4_11 (fun _ h => h) rfl dX4_undo_5 ?_
  refine g_callVN (As := [.ref (ad 1)]) (rest := []) (q0 := 4) C0 G (c_X1_restores l D cy (ad := ad) (fr := fr) (bk := bk) (vw := vw) (tk := tk) (to := to) (fk := fk) (fo := fo) (kp := kp) (sp := sp) (lt := lt) (ib := ib) (rw := rw) (cl := cl) (nu := nu) (tv := tv) (tm := tm) (ta := ta) (ml := ml) (tn := tn) (R := R)  (by omega)) k_X1_restores nm_X4_235 rfl rfl dX4_undo_8 rfl rfl hl.1 (Nat.le_of_ble_eq_true rfl) ⟨Nat.le_of_ble_eq_true rfl, Nat.le_of_ble_eq_true rfl⟩ ⟨Nat.le_of_ble_eq_true rfl, Nat.le_of_ble_eq_true rfl⟩ (fun r W2 H locs hp G => ?_)
  obtain ⟨rfl, hw⟩ := hp
  have G := g_wc hw G
  refine W.eq (g2 := F0 m 11 ls [.int (bI (decide (0 < kp)))]) rfl ?_
  refine lv_if_ne (tgt := 24) hx hb dX4_undo_11 (by decide) (fun c_11 => ?_) (fun c_11 => ?_)
  · skip
    have c_11 : (decide (0 < kp)) = true := bI_t c_11
    refine lv_aload_n hx hb dX4_undo_24 rfl (lv_at hl 0 rfl) ?_
    refine g_get (q0 := 0) (v := .ref (ad 4)) C0 G in_X4 rfl rfl 3 (by decide) fl_X4_29 (fun _ h => h) rfl dX4_undo_25 ?_
    refine g_getN (q0 := 4) (v := .int (nI (kp - 1))) C0 G in_X1 rfl rfl 1 (by decide) nf_X4_241 (fun _ h => h) rfl dX4_undo_28 ?_
    refine W.widen (k := 4) (n := 24) (Nat.le_of_ble_eq_true rfl) (Nat.le_of_ble_eq_true rfl) ?_
    exact vx_ret (g_iret C0 G ⟨of_decide_eq_true c_11, rfl, rfl⟩ dX4_undo_31)
  · skip
    have c_11 : (decide (0 < kp)) = false := bI_f c_11
    obtain rfl : kp = 0 := by have := of_decide_eq_false c_11; omega
    have G : gW D (wC ad cy (if 0 < 0 then rsU fr ((0 - 1) * 3) 3 else fr) (if 0 < 0 then rsU bk ((0 - 1) * 3) 3 else bk) (if 0 < 0 then rsU vw ((0 - 1) * 3) 3 else vw) tk to fk fo (0 - 1) sp lt ib rw cl nu tv tm ta ml tn R) (va_A (wC ad cy fr bk vw tk to fk fo 0 sp lt ib rw cl nu tv tm ta ml tn R) s.heap.size) s _ _ := G
    have hl : lv_has ls 1 [(0, .ref (ad 0))] := hl
    have G : gW D (wC ad cy fr bk vw tk to fk fo 0 sp lt ib rw cl nu tv tm ta ml tn R) (va_A (wC ad cy fr bk vw tk to fk fo 0 sp lt ib rw cl nu tv tm ta ml tn R) s.heap.size) s _ _ := G
    exact g_throwS (names := ["java/lang/RuntimeException", "java/lang/Exception"]) C0 hst hno G hl.1 (by decide +kernel) (by decide +kernel) tw_ise xl_X4_66 ti_ise ⟨rfl, sr_239⟩ dX4_undo_14 dX4_undo_17 dX4_undo_18 dX4_undo_20 dX4_undo_23 ⟨(Nat.le_of_ble_eq_true rfl), (Nat.le_of_ble_eq_true rfl)⟩ (Nat.le_of_ble_eq_true rfl) (Nat.le_of_ble_eq_true rfl) ⟨rfl, rfl⟩ (Nat.le_of_ble_eq_true rfl) (Nat.le_of_ble_eq_true rfl)

set_option maxHeartbeats 4000000 in
set_option maxRecDepth 100000 in
theorem c_X4_savedStates (l : Launch) (D : va_G) (cy : Nat → ClassId) (ad : Nat → Nat) (fr : Nat → Int64) (bk : Nat → Int64) (vw : Nat → Nat) (tk : Int64) (to : Int64) (fk : Int64) (fo : Int64) (kp : Nat) (sp : Nat) (lt : Nat) (ib : Bool) (rw : Nat) (cl : Nat) (nu : Nat) (tv : Nat) (tm : Nat) (ta : Nat → Int32) (ml : Int32) (tn : Nat) (R : va_W)   : GE l D (gts cy) yX4_savedStates cX4_savedStates 1 (some .int) 0 0 0 [.ref (ad 0)] (wC ad cy fr bk vw tk to fk fo kp sp lt ib rw cl nu tv tm ta ml tn R) (gF (some (.int (nI kp))) (wC ad cy fr bk vw tk to fk fo kp sp lt ib rw cl nu tv tm ta ml tn R)) := by
  refine g_intro (by decide +kernel) (lv := [(0, .ref (ad 0))]) rfl (Nat.le_of_ble_eq_true rfl) ?_
  intro p e s m below meth c C0 G ls hl
  have hx := C0.1
  have hb := C0.2.1
  have hown := C0.2.2.2.2.2.1
  have hts := C0.2.2.2.2.2.2.1
  refine lv_aload_n hx hb dX4_savedStates_0 rfl (lv_at hl 0 rfl) ?_
  refine g_get (q0 := 0) (v := .ref (ad 4)) C0 G in_X4 rfl rfl 3 (by decide) fl_X4_29 (fun _ h => h) rfl dX4_savedStates_1 ?_
  refine g_getN (q0 := 4) (v := .int (nI kp)) C0 G in_X1 rfl rfl 1 (by decide) nf_X4_241 (fun _ h => h) rfl dX4_savedStates_4 ?_
  exact g_iret C0 G ⟨by first | rfl | (exfalso; omega) | (simp only [Bool.false_eq_true, ↓reduceIte, eq_self, decide_true, decide_false, not_true_eq_false, not_false_eq_true, Bool.true_and, Bool.false_and, Bool.and_true, Bool.and_false]; done) | (simp []; done) | (simp []; rfl) | (simp []; omega), by first | rfl | (exfalso; omega) | (simp only [Bool.false_eq_true, ↓reduceIte, eq_self, decide_true, decide_false, not_true_eq_false, not_false_eq_true, Bool.true_and, Bool.false_and, Bool.and_true, Bool.and_false]; done) | (simp []; done) | (simp []; rfl) | (simp []; omega)⟩ dX4_savedStates_7
