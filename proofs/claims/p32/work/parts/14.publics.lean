theorem saU_lo {α : Type} {g : Nat → α} {kp k : Nat} (hk : k < 3) : saU g kp k = g k := by
  have sv : ∀ (h : Nat → α) (st i : Nat), svU h st i k = h k := by
    intro h st i
    induction i with
    | zero => rfl
    | succ i ih => show va_up (svU h st i) (3 + (st + i)) _ k = _; rw [va_up_n _ _ (by omega), ih]
  have dc : ∀ (h : Nat → α) (i : Nat), dcU h i k = h k := by
    intro h i
    induction i with
    | zero => rfl
    | succ i ih => show va_up (dcU h i) (3 + i) _ k = _; rw [va_up_n _ _ (by omega), ih]
  unfold saU
  split
  · exact sv _ _ _
  · rw [sv, dc]
def n64 (n : Nat) : UInt64 := FP.ddiv (FP.i2d (nI n)) 4634204016564240384
theorem n64_d : ∀ n, n < 65 → FP.ddiv (FP.i2d (nI n)) 4634204016564240384 &&& 0x7fffffffffffffff ≤ 0x7ff0000000000000 := by decide +kernel
theorem n64_n {n : Nat} (h : n ≤ 64) : vf_n64 (FP.ddiv (FP.i2d (nI n)) 4634204016564240384) := n64_d n (by omega)
def dgU (f b : Int64) (v : Nat) (h : Int64) : Int64 :=
  mlL f b (fa (sdW f b) (onW f b)).1 (fa (sdW f b) (onW f b)).2 (mrB f b (fa (sdW f b) (onW f b)).1 (fa (sdW f b) (onW f b)).2 (mrA f b v (mxL (mxL (mxL (mcL f b (mxL h (nI v)) 4) (nI (pc ((fa (sdW f b) (onW f b)).1 ^^^ (-1))))) (nI (cnt (dgB (fa (sdW f b) (onW f b)).1 (fa (sdW f b) (onW f b)).2) 16))) (wcS f b 64).1) 8) 7) 64
def dgH (fr bk : Nat → Int64) (vw : Nat → Nat) : Nat → Int64
  | 0 => 4876
  | i + 1 => dgU (fr i) (bk i) (vw i) (dgH fr bk vw i)
def dgT (fr bk : Nat → Int64) (t : Int64 × Int64) : Nat → Int64 × Int64
  | 0 => t
  | i + 1 => fa (sdW (fr i) (bk i)) (onW (fr i) (bk i))
def dgF (fr bk : Nat → Int64) (t : Int64 × Int64) : Nat → Int64 × Int64
  | 0 => t
  | i + 1 => wcF (fr i) (bk i) (dgF fr bk t i) 64
set_option maxHeartbeats 4000000 in
set_option maxRecDepth 100000 in
theorem c_X4_cardAt (l : Launch) (D : va_G) (cy : Nat → ClassId) (ad : Nat → Nat) (fr : Nat → Int64) (bk : Nat → Int64) (vw : Nat → Nat) (tk : Int64) (to : Int64) (fk : Int64) (fo : Int64) (kp : Nat) (sp : Nat) (lt : Nat) (ib : Bool) (rw : Nat) (cl : Nat) (nu : Nat) (tv : Nat) (tm : Nat) (ta : Nat → Int32) (ml : Int32) (tn : Nat) (R : va_W) (k : Nat) (h1 : k < 3) : GE l D (gts cy) yX4_cardAt cX4_cardAt 2 (some (.object "MirrorCards$Card")) 0 0 0 [.ref (ad 0), .int (nI k)] (wC ad cy fr bk vw tk to fk fo kp sp lt ib rw cl nu tv tm ta ml tn R) (gF (some (.ref (ad (10 + k)))) (wC ad cy fr bk vw tk to fk fo kp sp lt ib rw cl nu tv tm ta ml tn R)) := by
  refine g_intro (by decide +kernel) (lv := [(0, .ref (ad 0)), (1, .int (nI k))]) rfl (Nat.le_of_ble_eq_true rfl) ?_
  intro p e s m below meth c C0 G ls hl
  have hx := C0.1
  have hb := C0.2.1
  have hown := C0.2.2.2.2.2.1
  have hts := C0.2.2.2.2.2.2.1
  refine lv_iload_n hx hb dX4_cardAt_0 rfl (lv_at hl 1 rfl) ?_
  refine lv_if_lt (tgt := 13) hx hb dX4_cardAt_1 (by decide) (fun c_1 => ?_) (fun c_1 => ?_)
  · skip
    have c_1 : k < 0 := (nI_ltI (a := k) (b := 0) (by omega) (by omega)).mp c_1
    exact absurd c_1 (by omega)
  · skip
    have c_1 : ¬ (k < 0) := fun h => c_1 ((nI_ltI (a := k) (b := 0) (by omega) (by omega)).mpr h)
    refine lv_iload_n hx hb dX4_cardAt_4 rfl (lv_at hl 1 rfl) ?_
    refine lv_aload_n hx hb dX4_cardAt_5 rfl (lv_at hl 0 rfl) ?_
    refine g_get (q0 := 0) (v := .ref (ad 1)) C0 G in_X4 rfl rfl 0 (by decide) fl_X4_11 (fun _ h => h) rfl dX4_cardAt_6 ?_
    refine g_alen (q0 := 1) (v := 3) C0 G rfl 1 rfl rfl dX4_cardAt_9 ?_
    refine lv_icmp_lt (tgt := 24) hx hb dX4_cardAt_10 (by decide) (fun c_10 => ?_) (fun c_10 => ?_)
    · skip
      have c_10 : k < 3 := (nI_ltI (a := k) (b := 3) (by omega) (by omega)).mp c_10
      refine lv_aload_n hx hb dX4_cardAt_24 rfl (lv_at hl 0 rfl) ?_
      refine g_get (q0 := 0) (v := .ref (ad 1)) C0 G in_X4 rfl rfl 0 (by decide) fl_X4_11 (fun _ h => h) rfl dX4_cardAt_25 ?_
      refine lv_iload_n hx hb dX4_cardAt_28 rfl (lv_at hl 1 rfl) ?_
      refine g_aldq (q0 := 1) (n := 3) C0 G rfl 1 rfl (vp_in_nI (n := k) (by omega) (by decide)) dX4_cardAt_29 ?_
      refine g_topv (x' := .ref (ad (10 + k))) (congrArg (fun z => va_rf ((fun j => some (ad (10 + j))) z)) (nI_clamp (n := k) (by omega))) ?_
      exact g_aret C0 G (Or.inl ⟨_, rfl⟩) ⟨by first | rfl | (exfalso; omega) | (simp only [c_1, c_10, Bool.false_eq_true, ↓reduceIte, eq_self, decide_true, decide_false, not_true_eq_false, not_false_eq_true, Bool.true_and, Bool.false_and, Bool.and_true, Bool.and_false]; done) | (simp [c_1, c_10]; done) | (simp [c_1, c_10]; rfl) | (simp [c_1, c_10]; omega), by first | rfl | (exfalso; omega) | (simp only [c_1, c_10, Bool.false_eq_true, ↓reduceIte, eq_self, decide_true, decide_false, not_true_eq_false, not_false_eq_true, Bool.true_and, Bool.false_and, Bool.and_true, Bool.and_false]; done) | (simp [c_1, c_10]; done) | (simp [c_1, c_10]; rfl) | (simp [c_1, c_10]; omega)⟩ dX4_cardAt_30
    · skip
      have c_10 : ¬ (k < 3) := fun h => c_10 ((nI_ltI (a := k) (b := 3) (by omega) (by omega)).mpr h)
      exact absurd c_10 (by omega)

set_option maxHeartbeats 4000000 in
set_option maxRecDepth 100000 in
theorem c_X4_requireInSide (l : Launch) (D : va_G) (cy : Nat → ClassId) (W1 : va_W) (j : Nat) (h1 : j < 8) : GE l D (gts cy) yX4_requireInSide cX4_requireInSide 1 none 0 0 0 [.int (nI j)] (W1) (gF none (W1)) := by
  refine g_intro (by decide +kernel) (lv := [(0, .int (nI j))]) rfl (Nat.le_of_ble_eq_true rfl) ?_
  intro p e s m below meth c C0 G ls hl
  have hx := C0.1
  have hb := C0.2.1
  have hown := C0.2.2.2.2.2.1
  have hts := C0.2.2.2.2.2.2.1
  refine lv_iload_n hx hb dX4_requireInSide_0 rfl (lv_at hl 0 rfl) ?_
  refine lv_if_lt (tgt := 10) hx hb dX4_requireInSide_1 (by decide) (fun c_1 => ?_) (fun c_1 => ?_)
  · skip
    have c_1 : j < 0 := (nI_ltI (a := j) (b := 0) (by omega) (by omega)).mp c_1
    exact absurd c_1 (by omega)
  · skip
    have c_1 : ¬ (j < 0) := fun h => c_1 ((nI_ltI (a := j) (b := 0) (by omega) (by omega)).mpr h)
    refine lv_iload_n hx hb dX4_requireInSide_4 rfl (lv_at hl 0 rfl) ?_
    refine lv_bipush (v := 8) hx hb dX4_requireInSide_5 (by decide) ?_
    refine lv_icmp_lt (tgt := 21) hx hb dX4_requireInSide_7 (by decide) (fun c_7 => ?_) (fun c_7 => ?_)
    · skip
      have c_7 : j < 8 := (nI_ltI (a := j) (b := 8) (by omega) (by omega)).mp c_7
      exact g_vret C0 G ⟨by first | rfl | (exfalso; omega) | (simp only [c_1, c_7, Bool.false_eq_true, ↓reduceIte, eq_self, decide_true, decide_false, not_true_eq_false, not_false_eq_true, Bool.true_and, Bool.false_and, Bool.and_true, Bool.and_false]; done) | (simp [c_1, c_7]; done) | (simp [c_1, c_7]; rfl) | (simp [c_1, c_7]; omega), by first | rfl | (exfalso; omega) | (simp only [c_1, c_7, Bool.false_eq_true, ↓reduceIte, eq_self, decide_true, decide_false, not_true_eq_false, not_false_eq_true, Bool.true_and, Bool.false_and, Bool.and_true, Bool.and_false]; done) | (simp [c_1, c_7]; done) | (simp [c_1, c_7]; rfl) | (simp [c_1, c_7]; omega)⟩ dX4_requireInSide_21
    · skip
      have c_7 : ¬ (j < 8) := fun h => c_7 ((nI_ltI (a := j) (b := 8) (by omega) (by omega)).mpr h)
      exact absurd c_7 (by omega)

set_option maxHeartbeats 4000000 in
set_option maxRecDepth 100000 in
theorem c_X4_requireRowWithValue (l : Launch) (D : va_G) (cy : Nat → ClassId) (W1 : va_W) (j : Nat) (h1 : j < 7) : GE l D (gts cy) yX4_requireRowWithValue cX4_requireRowWithValue 1 none 0 0 0 [.int (nI j)] (W1) (gF none (W1)) := by
  refine g_intro (by decide +kernel) (lv := [(0, .int (nI j))]) rfl (Nat.le_of_ble_eq_true rfl) ?_
  intro p e s m below meth c C0 G ls hl
  have hx := C0.1
  have hb := C0.2.1
  have hown := C0.2.2.2.2.2.1
  have hts := C0.2.2.2.2.2.2.1
  refine lv_iload_n hx hb dX4_requireRowWithValue_0 rfl (lv_at hl 0 rfl) ?_
  refine lv_if_lt (tgt := 10) hx hb dX4_requireRowWithValue_1 (by decide) (fun c_1 => ?_) (fun c_1 => ?_)
  · skip
    have c_1 : j < 0 := (nI_ltI (a := j) (b := 0) (by omega) (by omega)).mp c_1
    exact absurd c_1 (by omega)
  · skip
    have c_1 : ¬ (j < 0) := fun h => c_1 ((nI_ltI (a := j) (b := 0) (by omega) (by omega)).mpr h)
    refine lv_iload_n hx hb dX4_requireRowWithValue_4 rfl (lv_at hl 0 rfl) ?_
    refine lv_bipush (v := 7) hx hb dX4_requireRowWithValue_5 (by decide) ?_
    refine lv_icmp_lt (tgt := 21) hx hb dX4_requireRowWithValue_7 (by decide) (fun c_7 => ?_) (fun c_7 => ?_)
    · skip
      have c_7 : j < 7 := (nI_ltI (a := j) (b := 7) (by omega) (by omega)).mp c_7
      exact g_vret C0 G ⟨by first | rfl | (exfalso; omega) | (simp only [c_1, c_7, Bool.false_eq_true, ↓reduceIte, eq_self, decide_true, decide_false, not_true_eq_false, not_false_eq_true, Bool.true_and, Bool.false_and, Bool.and_true, Bool.and_false]; done) | (simp [c_1, c_7]; done) | (simp [c_1, c_7]; rfl) | (simp [c_1, c_7]; omega), by first | rfl | (exfalso; omega) | (simp only [c_1, c_7, Bool.false_eq_true, ↓reduceIte, eq_self, decide_true, decide_false, not_true_eq_false, not_false_eq_true, Bool.true_and, Bool.false_and, Bool.and_true, Bool.and_false]; done) | (simp [c_1, c_7]; done) | (simp [c_1, c_7]; rfl) | (simp [c_1, c_7]; omega)⟩ dX4_requireRowWithValue_21
    · skip
      have c_7 : ¬ (j < 7) := fun h => c_7 ((nI_ltI (a := j) (b := 7) (by omega) (by omega)).mpr h)
      exact absurd c_7 (by omega)

set_option maxHeartbeats 4000000 in
set_option maxRecDepth 100000 in
theorem c_X4_requireCell (l : Launch) (D : va_G) (cy : Nat → ClassId) (W1 : va_W) (i : Nat) (j : Nat) (h1 : i < 8) (h2 : j < 8) : GE l D (gts cy) yX4_requireCell cX4_requireCell 2 none 1 0 0 [.int (nI i), .int (nI j)] (W1) (gF none (W1)) := by
  refine g_intro (by decide +kernel) (lv := [(0, .int (nI i)), (1, .int (nI j))]) rfl (Nat.le_of_ble_eq_true rfl) ?_
  intro p e s m below meth c C0 G ls hl
  have hx := C0.1
  have hb := C0.2.1
  have hown := C0.2.2.2.2.2.1
  have hts := C0.2.2.2.2.2.2.1
  refine lv_iload_n hx hb dX4_requireCell_0 rfl (lv_at hl 0 rfl) ?_
  refine g_callS (As := [.int (nI i)]) (rest := []) C0 G (c_X4_requireInSide l D cy (W1 := W1) (j := i) (by omega)) k_X4_requireInSide ml_X4_159 dX4_requireCell_1 rfl rfl hl.1 (Nat.le_of_ble_eq_true rfl) ⟨Nat.le_of_ble_eq_true rfl, Nat.le_of_ble_eq_true rfl⟩ ⟨Nat.le_of_ble_eq_true rfl, Nat.le_of_ble_eq_true rfl⟩ (fun r W2 H locs hp G => ?_)
  obtain ⟨rfl, hw⟩ := hp
  have G := g_wc hw G
  refine W.eq (g2 := F0 m 4 ls []) rfl ?_
  refine lv_iload_n hx hb dX4_requireCell_4 rfl (lv_at hl 1 rfl) ?_
  refine g_callS (As := [.int (nI j)]) (rest := []) C0 G (c_X4_requireInSide l D cy (W1 := W1) (j := j) (by omega)) k_X4_requireInSide ml_X4_159 dX4_requireCell_5 rfl rfl hl.1 (Nat.le_of_ble_eq_true rfl) ⟨Nat.le_of_ble_eq_true rfl, Nat.le_of_ble_eq_true rfl⟩ ⟨Nat.le_of_ble_eq_true rfl, Nat.le_of_ble_eq_true rfl⟩ (fun r W2 H locs hp G => ?_)
  obtain ⟨rfl, hw⟩ := hp
  have G := g_wc hw G
  refine W.eq (g2 := F0 m 8 ls []) rfl ?_
  exact g_vret C0 G ⟨by first | rfl | (exfalso; omega) | (simp only [Bool.false_eq_true, ↓reduceIte, eq_self, decide_true, decide_false, not_true_eq_false, not_false_eq_true, Bool.true_and, Bool.false_and, Bool.and_true, Bool.and_false]; done) | (simp []; done) | (simp []; rfl) | (simp []; omega), by first | rfl | (exfalso; omega) | (simp only [Bool.false_eq_true, ↓reduceIte, eq_self, decide_true, decide_false, not_true_eq_false, not_false_eq_true, Bool.true_and, Bool.false_and, Bool.and_true, Bool.and_false]; done) | (simp []; done) | (simp []; rfl) | (simp []; omega)⟩ dX4_requireCell_8

set_option maxHeartbeats 4000000 in
set_option maxRecDepth 100000 in
theorem c_X4_view (l : Launch) (D : va_G) (cy : Nat → ClassId) (ad : Nat → Nat) (fr : Nat → Int64) (bk : Nat → Int64) (vw : Nat → Nat) (tk : Int64) (to : Int64) (fk : Int64) (fo : Int64) (kp : Nat) (sp : Nat) (lt : Nat) (ib : Bool) (rw : Nat) (cl : Nat) (nu : Nat) (tv : Nat) (tm : Nat) (ta : Nat → Int32) (ml : Int32) (tn : Nat) (R : va_W) (k : Nat) (hk : k < 3) : GE l D (gts cy) yX4_view cX4_view 2 (some .int) 1 0 0 [.ref (ad 0), .int (nI k)] (wC ad cy fr bk vw tk to fk fo kp sp lt ib rw cl nu tv tm ta ml tn R) (gF (some (.int (nI (vw k)))) (wC ad cy fr bk vw tk to fk fo kp sp lt ib rw cl nu tv tm ta ml tn R)) := by
  refine g_intro (by decide +kernel) (lv := [(0, .ref (ad 0)), (1, .int (nI k))]) rfl (Nat.le_of_ble_eq_true rfl) ?_
  intro p e s m below meth c C0 G ls hl
  have hx := C0.1
  have hb := C0.2.1
  have hown := C0.2.2.2.2.2.1
  have hts := C0.2.2.2.2.2.2.1
  refine lv_aload_n hx hb dX4_view_0 rfl (lv_at hl 0 rfl) ?_
  refine lv_iload_n hx hb dX4_view_1 rfl (lv_at hl 1 rfl) ?_
  refine g_callV (As := [.int (nI k)]) (rest := []) (q0 := 0) C0 G (c_X4_cardAt l D cy (ad := ad) (fr := fr) (bk := bk) (vw := vw) (tk := tk) (to := to) (fk := fk) (fo := fo) (kp := kp) (sp := sp) (lt := lt) (ib := ib) (rw := rw) (cl := cl) (nu := nu) (tv := tv) (tm := tm) (ta := ta) (ml := ml) (tn := tn) (R := R) (k := k) (by omega)) k_X4_cardAt ml_X4_47 rfl rfl dX4_view_2 rfl rfl hl.1 (Nat.le_of_ble_eq_true rfl) ⟨Nat.le_of_ble_eq_true rfl, Nat.le_of_ble_eq_true rfl⟩ ⟨Nat.le_of_ble_eq_true rfl, Nat.le_of_ble_eq_true rfl⟩ (fun r W2 H locs hp G => ?_)
  obtain ⟨rfl, hw⟩ := hp
  have G := g_wc hw G
  refine W.eq (g2 := F0 m 5 ls [.ref (ad (10 + k))]) rfl ?_
  refine g_getN (q0 := k + 9) (v := .int (nI (vw k))) C0 G in_X0 (wC_at (k := k) (by omega)) rfl 2 (by decide) nf_X4_151 (fun _ h => h) rfl dX4_view_5 ?_
  exact g_iret C0 G ⟨by first | rfl | (exfalso; omega) | (simp only [Bool.false_eq_true, ↓reduceIte, eq_self, decide_true, decide_false, not_true_eq_false, not_false_eq_true, Bool.true_and, Bool.false_and, Bool.and_true, Bool.and_false]; done) | (simp []; done) | (simp []; rfl) | (simp []; omega), by first | rfl | (exfalso; omega) | (simp only [Bool.false_eq_true, ↓reduceIte, eq_self, decide_true, decide_false, not_true_eq_false, not_false_eq_true, Bool.true_and, Bool.false_and, Bool.and_true, Bool.and_false]; done) | (simp []; done) | (simp []; rfl) | (simp []; omega)⟩ dX4_view_8

set_option maxHeartbeats 4000000 in
set_option maxRecDepth 100000 in
theorem c_X4_untold (l : Launch) (D : va_G) (cy : Nat → ClassId) (ad : Nat → Nat) (fr : Nat → Int64) (bk : Nat → Int64) (vw : Nat → Nat) (tk : Int64) (to : Int64) (fk : Int64) (fo : Int64) (kp : Nat) (sp : Nat) (lt : Nat) (ib : Bool) (rw : Nat) (cl : Nat) (nu : Nat) (tv : Nat) (tm : Nat) (ta : Nat → Int32) (ml : Int32) (tn : Nat) (R : va_W) (k : Nat) (hk : k < 3) : GE l D (gts cy) yX4_untold cX4_untold 2 (some .int) 5 0 0 [.ref (ad 0), .int (nI k)] (wC ad cy fr bk vw tk to fk fo kp sp lt ib rw cl nu tv tm ta ml tn R) (gF (some (.int (nI (pc (((fa (sdW (fr k) (bk k)) (onW (fr k) (bk k))).1) ^^^ (-1)))))) (wC ad cy fr bk vw ((fa (sdW (fr k) (bk k)) (onW (fr k) (bk k))).1) ((fa (sdW (fr k) (bk k)) (onW (fr k) (bk k))).2) fk fo kp sp lt ib rw cl nu tv tm ta ml tn R)) := by
  refine g_intro (by decide +kernel) (lv := [(0, .ref (ad 0)), (1, .int (nI k))]) rfl (Nat.le_of_ble_eq_true rfl) ?_
  intro p e s m below meth c C0 G ls hl
  have hx := C0.1
  have hb := C0.2.1
  have hown := C0.2.2.2.2.2.1
  have hts := C0.2.2.2.2.2.2.1
  refine lv_aload_n hx hb dX4_untold_0 rfl (lv_at hl 0 rfl) ?_
  refine lv_aload_n hx hb dX4_untold_1 rfl (lv_at hl 0 rfl) ?_
  refine lv_iload_n hx hb dX4_untold_2 rfl (lv_at hl 1 rfl) ?_
  refine g_callV (As := [.int (nI k)]) (rest := [.ref (ad 0)]) (q0 := 0) C0 G (c_X4_cardAt l D cy (ad := ad) (fr := fr) (bk := bk) (vw := vw) (tk := tk) (to := to) (fk := fk) (fo := fo) (kp := kp) (sp := sp) (lt := lt) (ib := ib) (rw := rw) (cl := cl) (nu := nu) (tv := tv) (tm := tm) (ta := ta) (ml := ml) (tn := tn) (R := R) (k := k) (by omega)) k_X4_cardAt ml_X4_47 rfl rfl dX4_untold_3 rfl rfl hl.1 (Nat.le_of_ble_eq_true rfl) ⟨Nat.le_of_ble_eq_true rfl, Nat.le_of_ble_eq_true rfl⟩ ⟨Nat.le_of_ble_eq_true rfl, Nat.le_of_ble_eq_true rfl⟩ (fun r W2 H locs hp G => ?_)
  obtain ⟨rfl, hw⟩ := hp
  have G := g_wc hw G
  refine W.eq (g2 := F0 m 6 ls [.ref (ad (10 + k)), .ref (ad 0)]) rfl ?_
  refine g_callV (As := [.ref (ad (10 + k))]) (rest := []) (q0 := 0) C0 G (c_X4_tellingOf l D cy (ad := ad) (fr := fr) (bk := bk) (vw := vw) (tk := tk) (to := to) (fk := fk) (fo := fo) (kp := kp) (sp := sp) (lt := lt) (ib := ib) (rw := rw) (cl := cl) (nu := nu) (tv := tv) (tm := tm) (ta := ta) (ml := ml) (tn := tn) (R := R) (k := k) (by omega)) k_X4_tellingOf ml_X4_107 rfl rfl dX4_untold_6 rfl rfl hl.1 (Nat.le_of_ble_eq_true rfl) ⟨Nat.le_of_ble_eq_true rfl, Nat.le_of_ble_eq_true rfl⟩ ⟨Nat.le_of_ble_eq_true rfl, Nat.le_of_ble_eq_true rfl⟩ (fun r W2 H locs hp G => ?_)
  obtain ⟨rfl, hw⟩ := hp
  have G := g_wc hw G
  refine W.eq (g2 := F0 m 9 ls [.ref (ad 2)]) rfl ?_
  refine g_callVN (As := []) (rest := []) (q0 := 2) C0 G (GE.at (i := 2) rfl (fun R => (c_X3_unknownCells l D cy (R := R) (h := ad 2) (kn := (fa (sdW (fr k) (bk k)) (onW (fr k) (bk k))).1) (on := (fa (sdW (fr k) (bk k)) (onW (fr k) (bk k))).2)  ))) k_X3_unknownCells nm_X4_189 rfl rfl dX4_untold_9 rfl rfl hl.1 (Nat.le_of_ble_eq_true rfl) ⟨Nat.le_of_ble_eq_true rfl, Nat.le_of_ble_eq_true rfl⟩ ⟨Nat.le_of_ble_eq_true rfl, Nat.le_of_ble_eq_true rfl⟩ (fun r W2 H locs hp G => ?_)
  obtain ⟨rfl, hw⟩ := hp
  have G : gW D (wC ad cy fr bk vw ((fa (sdW (fr k) (bk k)) (onW (fr k) (bk k))).1) ((fa (sdW (fr k) (bk k)) (onW (fr k) (bk k))).2) fk fo kp sp lt ib rw cl nu tv tm ta ml tn R) (va_A (wC ad cy fr bk vw tk to fk fo kp sp lt ib rw cl nu tv tm ta ml tn R) s.heap.size) s H locs := g_wc (hw.trans (by rfl)) G
  refine W.eq (g2 := F0 m 12 ls [.int (nI (pc (((fa (sdW (fr k) (bk k)) (onW (fr k) (bk k))).1) ^^^ (-1))))]) rfl ?_
  exact g_iret C0 G ⟨by first | rfl | (exfalso; omega) | (simp only [Bool.false_eq_true, ↓reduceIte, eq_self, decide_true, decide_false, not_true_eq_false, not_false_eq_true, Bool.true_and, Bool.false_and, Bool.and_true, Bool.and_false]; done) | (simp []; done) | (simp []; rfl) | (simp []; omega), by first | rfl | (exfalso; omega) | (simp only [Bool.false_eq_true, ↓reduceIte, eq_self, decide_true, decide_false, not_true_eq_false, not_false_eq_true, Bool.true_and, Bool.false_and, Bool.and_true, Bool.and_false]; done) | (simp []; done) | (simp []; rfl) | (simp []; omega)⟩ dX4_untold_12

set_option maxHeartbeats 4000000 in
set_option maxRecDepth 100000 in
theorem c_X4_disagreements (l : Launch) (D : va_G) (cy : Nat → ClassId) (ad : Nat → Nat) (fr : Nat → Int64) (bk : Nat → Int64) (vw : Nat → Nat) (tk : Int64) (to : Int64) (fk : Int64) (fo : Int64) (kp : Nat) (sp : Nat) (lt : Nat) (ib : Bool) (rw : Nat) (cl : Nat) (nu : Nat) (tv : Nat) (tm : Nat) (ta : Nat → Int32) (ml : Int32) (tn : Nat) (R : va_W) (k : Nat) (hk : k < 3) : GE l D (gts cy) yX4_disagreements cX4_disagreements 2 (some .int) 5 0 0 [.ref (ad 0), .int (nI k)] (wC ad cy fr bk vw tk to fk fo kp sp lt ib rw cl nu tv tm ta ml tn R) (gF (some (.int (nI (cnt (dgB ((fa (sdW (fr k) (bk k)) (onW (fr k) (bk k))).1) ((fa (sdW (fr k) (bk k)) (onW (fr k) (bk k))).2)) 16)))) (wC ad cy fr bk vw ((fa (sdW (fr k) (bk k)) (onW (fr k) (bk k))).1) ((fa (sdW (fr k) (bk k)) (onW (fr k) (bk k))).2) fk fo kp sp lt ib rw cl nu tv tm ta ml tn R)) := by
  refine g_intro (by decide +kernel) (lv := [(0, .ref (ad 0)), (1, .int (nI k))]) rfl (Nat.le_of_ble_eq_true rfl) ?_
  intro p e s m below meth c C0 G ls hl
  have hx := C0.1
  have hb := C0.2.1
  have hown := C0.2.2.2.2.2.1
  have hts := C0.2.2.2.2.2.2.1
  refine lv_aload_n hx hb dX4_disagreements_0 rfl (lv_at hl 0 rfl) ?_
  refine lv_aload_n hx hb dX4_disagreements_1 rfl (lv_at hl 0 rfl) ?_
  refine lv_iload_n hx hb dX4_disagreements_2 rfl (lv_at hl 1 rfl) ?_
  refine g_callV (As := [.int (nI k)]) (rest := [.ref (ad 0)]) (q0 := 0) C0 G (c_X4_cardAt l D cy (ad := ad) (fr := fr) (bk := bk) (vw := vw) (tk := tk) (to := to) (fk := fk) (fo := fo) (kp := kp) (sp := sp) (lt := lt) (ib := ib) (rw := rw) (cl := cl) (nu := nu) (tv := tv) (tm := tm) (ta := ta) (ml := ml) (tn := tn) (R := R) (k := k) (by omega)) k_X4_cardAt ml_X4_47 rfl rfl dX4_disagreements_3 rfl rfl hl.1 (Nat.le_of_ble_eq_true rfl) ⟨Nat.le_of_ble_eq_true rfl, Nat.le_of_ble_eq_true rfl⟩ ⟨Nat.le_of_ble_eq_true rfl, Nat.le_of_ble_eq_true rfl⟩ (fun r W2 H locs hp G => ?_)
  obtain ⟨rfl, hw⟩ := hp
  have G := g_wc hw G
  refine W.eq (g2 := F0 m 6 ls [.ref (ad (10 + k)), .ref (ad 0)]) rfl ?_
  refine g_callV (As := [.ref (ad (10 + k))]) (rest := []) (q0 := 0) C0 G (c_X4_tellingOf l D cy (ad := ad) (fr := fr) (bk := bk) (vw := vw) (tk := tk) (to := to) (fk := fk) (fo := fo) (kp := kp) (sp := sp) (lt := lt) (ib := ib) (rw := rw) (cl := cl) (nu := nu) (tv := tv) (tm := tm) (ta := ta) (ml := ml) (tn := tn) (R := R) (k := k) (by omega)) k_X4_tellingOf ml_X4_107 rfl rfl dX4_disagreements_6 rfl rfl hl.1 (Nat.le_of_ble_eq_true rfl) ⟨Nat.le_of_ble_eq_true rfl, Nat.le_of_ble_eq_true rfl⟩ ⟨Nat.le_of_ble_eq_true rfl, Nat.le_of_ble_eq_true rfl⟩ (fun r W2 H locs hp G => ?_)
  obtain ⟨rfl, hw⟩ := hp
  have G := g_wc hw G
  refine W.eq (g2 := F0 m 9 ls [.ref (ad 2)]) rfl ?_
  refine g_callVN (As := []) (rest := []) (q0 := 2) C0 G (GE.at (i := 2) rfl (fun R => (c_X3_disagreeingLines l D cy (R := R) (h := ad 2) (kn := (fa (sdW (fr k) (bk k)) (onW (fr k) (bk k))).1) (on := (fa (sdW (fr k) (bk k)) (onW (fr k) (bk k))).2)  ))) k_X3_disagreeingLines nm_X4_192 rfl rfl dX4_disagreements_9 rfl rfl hl.1 (Nat.le_of_ble_eq_true rfl) ⟨Nat.le_of_ble_eq_true rfl, Nat.le_of_ble_eq_true rfl⟩ ⟨Nat.le_of_ble_eq_true rfl, Nat.le_of_ble_eq_true rfl⟩ (fun r W2 H locs hp G => ?_)
  obtain ⟨rfl, hw⟩ := hp
  have G : gW D (wC ad cy fr bk vw ((fa (sdW (fr k) (bk k)) (onW (fr k) (bk k))).1) ((fa (sdW (fr k) (bk k)) (onW (fr k) (bk k))).2) fk fo kp sp lt ib rw cl nu tv tm ta ml tn R) (va_A (wC ad cy fr bk vw tk to fk fo kp sp lt ib rw cl nu tv tm ta ml tn R) s.heap.size) s H locs := g_wc (hw.trans (by rfl)) G
  refine W.eq (g2 := F0 m 12 ls [.int (nI (cnt (dgB ((fa (sdW (fr k) (bk k)) (onW (fr k) (bk k))).1) ((fa (sdW (fr k) (bk k)) (onW (fr k) (bk k))).2)) 16))]) rfl ?_
  exact g_iret C0 G ⟨by first | rfl | (exfalso; omega) | (simp only [Bool.false_eq_true, ↓reduceIte, eq_self, decide_true, decide_false, not_true_eq_false, not_false_eq_true, Bool.true_and, Bool.false_and, Bool.and_true, Bool.and_false]; done) | (simp []; done) | (simp []; rfl) | (simp []; omega), by first | rfl | (exfalso; omega) | (simp only [Bool.false_eq_true, ↓reduceIte, eq_self, decide_true, decide_false, not_true_eq_false, not_false_eq_true, Bool.true_and, Bool.false_and, Bool.and_true, Bool.and_false]; done) | (simp []; done) | (simp []; rfl) | (simp []; omega)⟩ dX4_disagreements_12

set_option maxHeartbeats 4000000 in
set_option maxRecDepth 100000 in
theorem c_X4_worst (l : Launch) (D : va_G) (cy : Nat → ClassId) (ad : Nat → Nat) (fr : Nat → Int64) (bk : Nat → Int64) (vw : Nat → Nat) (tk : Int64) (to : Int64) (fk : Int64) (fo : Int64) (kp : Nat) (sp : Nat) (lt : Nat) (ib : Bool) (rw : Nat) (cl : Nat) (nu : Nat) (tv : Nat) (tm : Nat) (ta : Nat → Int32) (ml : Int32) (tn : Nat) (R : va_W) (k : Nat) (hk : k < 3) : GE l D (gts cy) yX4_worst cX4_worst 2 (some .int) 6 0 0 [.ref (ad 0), .int (nI k)] (wC ad cy fr bk vw tk to fk fo kp sp lt ib rw cl nu tv tm ta ml tn R) (gF (some (.int ((wcS (fr k) (bk k) 64).1))) (wC ad cy fr bk vw tk to ((wcF (fr k) (bk k) (fk, fo) 64).1) ((wcF (fr k) (bk k) (fk, fo) 64).2) kp sp lt ib rw cl nu tv tm ta ml tn R)) := by
  refine g_intro (by decide +kernel) (lv := [(0, .ref (ad 0)), (1, .int (nI k))]) rfl (Nat.le_of_ble_eq_true rfl) ?_
  intro p e s m below meth c C0 G ls hl
  have hx := C0.1
  have hb := C0.2.1
  have hown := C0.2.2.2.2.2.1
  have hts := C0.2.2.2.2.2.2.1
  refine lv_aload_n hx hb dX4_worst_0 rfl (lv_at hl 0 rfl) ?_
  refine lv_aload_n hx hb dX4_worst_1 rfl (lv_at hl 0 rfl) ?_
  refine lv_iload_n hx hb dX4_worst_2 rfl (lv_at hl 1 rfl) ?_
  refine g_callV (As := [.int (nI k)]) (rest := [.ref (ad 0)]) (q0 := 0) C0 G (c_X4_cardAt l D cy (ad := ad) (fr := fr) (bk := bk) (vw := vw) (tk := tk) (to := to) (fk := fk) (fo := fo) (kp := kp) (sp := sp) (lt := lt) (ib := ib) (rw := rw) (cl := cl) (nu := nu) (tv := tv) (tm := tm) (ta := ta) (ml := ml) (tn := tn) (R := R) (k := k) (by omega)) k_X4_cardAt ml_X4_47 rfl rfl dX4_worst_3 rfl rfl hl.1 (Nat.le_of_ble_eq_true rfl) ⟨Nat.le_of_ble_eq_true rfl, Nat.le_of_ble_eq_true rfl⟩ ⟨Nat.le_of_ble_eq_true rfl, Nat.le_of_ble_eq_true rfl⟩ (fun r W2 H locs hp G => ?_)
  obtain ⟨rfl, hw⟩ := hp
  have G := g_wc hw G
  refine W.eq (g2 := F0 m 6 ls [.ref (ad (10 + k)), .ref (ad 0)]) rfl ?_
  refine g_callV (As := [.ref (ad (10 + k))]) (rest := []) (q0 := 0) C0 G (c_X4_worstCell l D cy (ad := ad) (fr := fr) (bk := bk) (vw := vw) (tk := tk) (to := to) (fk := fk) (fo := fo) (kp := kp) (sp := sp) (lt := lt) (ib := ib) (rw := rw) (cl := cl) (nu := nu) (tv := tv) (tm := tm) (ta := ta) (ml := ml) (tn := tn) (R := R) (k := k) (by omega)) k_X4_worstCell ml_X4_206 rfl rfl dX4_worst_6 rfl rfl hl.1 (Nat.le_of_ble_eq_true rfl) ⟨Nat.le_of_ble_eq_true rfl, Nat.le_of_ble_eq_true rfl⟩ ⟨Nat.le_of_ble_eq_true rfl, Nat.le_of_ble_eq_true rfl⟩ (fun r W2 H locs hp G => ?_)
  obtain ⟨rfl, hw⟩ := hp
  have G := g_wc hw G
  refine W.eq (g2 := F0 m 9 ls [.int ((wcS (fr k) (bk k) 64).1)]) rfl ?_
  exact g_iret C0 G ⟨by first | rfl | (exfalso; omega) | (simp only [Bool.false_eq_true, ↓reduceIte, eq_self, decide_true, decide_false, not_true_eq_false, not_false_eq_true, Bool.true_and, Bool.false_and, Bool.and_true, Bool.and_false]; done) | (simp []; done) | (simp []; rfl) | (simp []; omega), by first | rfl | (exfalso; omega) | (simp only [Bool.false_eq_true, ↓reduceIte, eq_self, decide_true, decide_false, not_true_eq_false, not_false_eq_true, Bool.true_and, Bool.false_and, Bool.and_true, Bool.and_false]; done) | (simp []; done) | (simp []; rfl) | (simp []; omega)⟩ dX4_worst_9

set_option maxHeartbeats 4000000 in
set_option maxRecDepth 100000 in
theorem c_X4_punch (l : Launch) (D : va_G) (cy : Nat → ClassId) (ad : Nat → Nat) (fr : Nat → Int64) (bk : Nat → Int64) (vw : Nat → Nat) (tk : Int64) (to : Int64) (fk : Int64) (fo : Int64) (kp : Nat) (sp : Nat) (lt : Nat) (ib : Bool) (rw : Nat) (cl : Nat) (nu : Nat) (tv : Nat) (tm : Nat) (ta : Nat → Int32) (ml : Int32) (tn : Nat) (R : va_W) (k : Nat) (row : Nat) (u : Nat) (hk : k < 3) (hrow : row < 7) (hu : u < 128) (hkp : kp ≤ 6) (hcp : cpB (fr k) (bk k) row = true) : GE l D (gts cy) yX4_punch cX4_punch 5 (some .int) 3 0 0 [.ref (ad 0), .int (nI k), .int (nI row), .int (nI u)] (wC ad cy fr bk vw tk to fk fo kp sp lt ib rw cl nu tv tm ta ml tn R) (gF (some (.int (nI (pc7 u % 2)))) (wC ad cy (va_up (saU fr kp) k (pwF ((saU fr kp) k) row u)) (va_up (saU bk kp) k (pwB ((saU bk kp) k) row u)) (saU vw kp) tk to fk fo (saK kp) sp lt ib rw cl nu tv tm ta ml tn R)) := by
  refine g_intro (by decide +kernel) (lv := [(0, .ref (ad 0)), (1, .int (nI k)), (2, .int (nI row)), (3, .int (nI u))]) rfl (Nat.le_of_ble_eq_true rfl) ?_
  intro p e s m below meth c C0 G ls hl
  have hx := C0.1
  have hb := C0.2.1
  have hown := C0.2.2.2.2.2.1
  have hts := C0.2.2.2.2.2.2.1
  refine lv_aload_n hx hb dX4_punch_0 rfl (lv_at hl 0 rfl) ?_
  refine lv_iload_n hx hb dX4_punch_1 rfl (lv_at hl 1 rfl) ?_
  refine g_callV (As := [.int (nI k)]) (rest := []) (q0 := 0) C0 G (c_X4_cardAt l D cy (ad := ad) (fr := fr) (bk := bk) (vw := vw) (tk := tk) (to := to) (fk := fk) (fo := fo) (kp := kp) (sp := sp) (lt := lt) (ib := ib) (rw := rw) (cl := cl) (nu := nu) (tv := tv) (tm := tm) (ta := ta) (ml := ml) (tn := tn) (R := R) (k := k) (by omega)) k_X4_cardAt ml_X4_47 rfl rfl dX4_punch_2 rfl rfl hl.1 (Nat.le_of_ble_eq_true rfl) ⟨Nat.le_of_ble_eq_true rfl, Nat.le_of_ble_eq_true rfl⟩ ⟨Nat.le_of_ble_eq_true rfl, Nat.le_of_ble_eq_true rfl⟩ (fun r W2 H locs hp G => ?_)
  obtain ⟨rfl, hw⟩ := hp
  have G := g_wc hw G
  refine W.eq (g2 := F0 m 5 ls [.ref (ad (10 + k))]) rfl ?_
  refine lv_astore (lv' := [(4, .ref (ad (10 + k))), (0, .ref (ad 0)), (1, .int (nI k)), (2, .int (nI row)), (3, .int (nI u))]) hx hb dX4_punch_5 hl (by decide) rfl (fun ls hl => ?_)
  refine lv_iload_n hx hb dX4_punch_7 rfl (lv_at hl 3 rfl) ?_
  refine g_callS (As := [.int (nI row)]) (rest := []) C0 G (c_X4_requireRowWithValue l D cy (W1 := wC ad cy fr bk vw tk to fk fo kp sp lt ib rw cl nu tv tm ta ml tn R) (j := row) (by omega)) k_X4_requireRowWithValue ml_X4_51 dX4_punch_8 rfl rfl hl.1 (Nat.le_of_ble_eq_true rfl) ⟨Nat.le_of_ble_eq_true rfl, Nat.le_of_ble_eq_true rfl⟩ ⟨Nat.le_of_ble_eq_true rfl, Nat.le_of_ble_eq_true rfl⟩ (fun r W2 H locs hp G => ?_)
  obtain ⟨rfl, hw⟩ := hp
  have G := g_wc hw G
  refine W.eq (g2 := F0 m 11 ls []) rfl ?_
  refine lv_iload_n hx hb dX4_punch_11 rfl (lv_at hl 4 rfl) ?_
  refine lv_if_lt (tgt := 21) hx hb dX4_punch_12 (by decide) (fun c_12 => ?_) (fun c_12 => ?_)
  · skip
    have c_12 : u < 0 := (nI_ltI (a := u) (b := 0) (by omega) (by omega)).mp c_12
    exact absurd c_12 (by omega)
  · skip
    have c_12 : ¬ (u < 0) := fun h => c_12 ((nI_ltI (a := u) (b := 0) (by omega) (by omega)).mpr h)
    refine lv_iload_n hx hb dX4_punch_15 rfl (lv_at hl 4 rfl) ?_
    refine lv_bipush (v := 127) hx hb dX4_punch_16 (by decide) ?_
    refine lv_icmp_le (tgt := 31) hx hb dX4_punch_18 (by decide) (fun c_18 => ?_) (fun c_18 => ?_)
    · skip
      have c_18 : u ≤ 127 := (nI_leI (a := u) (b := 127) (by omega) (by omega)).mp c_18
      refine lv_aload hx hb dX4_punch_31 (lv_at hl 0 rfl) ?_
      refine lv_iload_n hx hb dX4_punch_33 rfl (lv_at hl 3 rfl) ?_
      refine g_callVN (As := [.int (nI row)]) (rest := []) (q0 := k + 9) C0 G (GE.at (i := k + 9) (wC_at (k := k) (by omega)) (fun R => (c_X0_canPunch l D cy (R := R) (h := ad (10 + k)) (f := fr k) (b := bk k) (v := vw k) (row := row) (by omega)))) k_X0_canPunch nm_X4_62 (wC_at (k := k) (by omega)) rfl dX4_punch_34 rfl rfl hl.1 (Nat.le_of_ble_eq_true rfl) ⟨Nat.le_of_ble_eq_true rfl, Nat.le_of_ble_eq_true rfl⟩ ⟨Nat.le_of_ble_eq_true rfl, Nat.le_of_ble_eq_true rfl⟩ (fun r W2 H locs hp G => ?_)
      obtain ⟨rfl, hw⟩ := hp
      have G : gW D (wC ad cy fr bk vw tk to fk fo kp sp lt ib rw cl nu tv tm ta ml tn R) (va_A (wC ad cy fr bk vw tk to fk fo kp sp lt ib rw cl nu tv tm ta ml tn R) s.heap.size) s H locs := g_wc (hw.trans (wC_set (k := k) (by omega) (va_up_s _ _) (va_up_s _ _) (va_up_s _ _))) G
      refine W.eq (g2 := F0 m 37 ls [.int (bI (cpB (fr k) (bk k) row))]) rfl ?_
      refine lv_if_ne (tgt := 50) hx hb dX4_punch_37 (by decide) (fun c_37 => ?_) (fun c_37 => ?_)
      · skip
        have c_37 : (cpB (fr k) (bk k) row) = true := bI_t c_37
        refine lv_aload_n hx hb dX4_punch_50 rfl (lv_at hl 1 rfl) ?_
        refine g_get (q0 := 0) (v := .ref (ad 4)) C0 G in_X4 rfl rfl 3 (by decide) fl_X4_29 (fun _ h => h) rfl dX4_punch_51 ?_
        refine lv_aload_n hx hb dX4_punch_54 rfl (lv_at hl 1 rfl) ?_
        refine g_get (q0 := 0) (v := .ref (ad 1)) C0 G in_X4 rfl rfl 0 (by decide) fl_X4_11 (fun _ h => h) rfl dX4_punch_55 ?_
        refine g_callVN (As := [.ref (ad 1)]) (rest := []) (q0 := 4) C0 G (c_X1_save l D cy (ad := ad) (fr := fr) (bk := bk) (vw := vw) (tk := tk) (to := to) (fk := fk) (fo := fo) (kp := kp) (sp := sp) (lt := lt) (ib := ib) (rw := rw) (cl := cl) (nu := nu) (tv := tv) (tm := tm) (ta := ta) (ml := ml) (tn := tn) (R := R)  (by omega)) k_X1_save nm_X4_71 rfl rfl dX4_punch_58 rfl rfl hl.1 (Nat.le_of_ble_eq_true rfl) ⟨Nat.le_of_ble_eq_true rfl, Nat.le_of_ble_eq_true rfl⟩ ⟨Nat.le_of_ble_eq_true rfl, Nat.le_of_ble_eq_true rfl⟩ (fun r W2 H locs hp G => ?_)
        obtain ⟨rfl, hw⟩ := hp
        have G := g_wc hw G
        refine W.eq (g2 := F0 m 61 ls []) rfl ?_
        refine lv_aload hx hb dX4_punch_61 (lv_at hl 0 rfl) ?_
        refine lv_iload_n hx hb dX4_punch_63 rfl (lv_at hl 3 rfl) ?_
        refine lv_iload_n hx hb dX4_punch_64 rfl (lv_at hl 4 rfl) ?_
        refine g_callVN (As := [.int (nI row), .int (nI u)]) (rest := []) (q0 := k + 9) C0 G (GE.at (i := k + 9) (wC_at (k := k) (by omega)) (fun R => (c_X0_punchRow l D cy (R := R) (h := ad (10 + k)) (f := (saU fr kp) k) (b := (saU bk kp) k) (v := (saU vw kp) k) (r := row) (x := u) (by omega) (by omega)))) k_X0_punchRow nm_X4_75 (wC_at (k := k) (by omega)) rfl dX4_punch_65 rfl rfl hl.1 (Nat.le_of_ble_eq_true rfl) ⟨Nat.le_of_ble_eq_true rfl, Nat.le_of_ble_eq_true rfl⟩ ⟨Nat.le_of_ble_eq_true rfl, Nat.le_of_ble_eq_true rfl⟩ (fun r W2 H locs hp G => ?_)
        obtain ⟨rfl, hw⟩ := hp
        have G : gW D (wC ad cy (va_up (saU fr kp) k (pwF ((saU fr kp) k) row u)) (va_up (saU bk kp) k (pwB ((saU bk kp) k) row u)) (saU vw kp) tk to fk fo (saK kp) sp lt ib rw cl nu tv tm ta ml tn R) (va_A (wC ad cy fr bk vw tk to fk fo kp sp lt ib rw cl nu tv tm ta ml tn R) s.heap.size) s H locs := g_wc (hw.trans (wC_set (k := k) (by omega) rfl rfl (va_up_s _ _))) G
        refine W.eq (g2 := F0 m 68 ls [.int (nI (pc7 u % 2))]) rfl ?_
        exact g_iret C0 G ⟨by first | rfl | (exfalso; omega) | (simp only [c_12, c_18, c_37, Bool.false_eq_true, ↓reduceIte, eq_self, decide_true, decide_false, not_true_eq_false, not_false_eq_true, Bool.true_and, Bool.false_and, Bool.and_true, Bool.and_false]; done) | (simp [c_12, c_18, c_37]; done) | (simp [c_12, c_18, c_37]; rfl) | (simp [c_12, c_18, c_37]; omega), by first | rfl | (exfalso; omega) | (simp only [c_12, c_18, c_37, Bool.false_eq_true, ↓reduceIte, eq_self, decide_true, decide_false, not_true_eq_false, not_false_eq_true, Bool.true_and, Bool.false_and, Bool.and_true, Bool.and_false]; done) | (simp [c_12, c_18, c_37]; done) | (simp [c_12, c_18, c_37]; rfl) | (simp [c_12, c_18, c_37]; omega)⟩ dX4_punch_68
      · skip
        have c_37 : (cpB (fr k) (bk k) row) = false := bI_f c_37
        exact absurd (hcp.symm.trans c_37) (by decide)
    · skip
      have c_18 : ¬ (u ≤ 127) := fun h => c_18 ((nI_leI (a := u) (b := 127) (by omega) (by omega)).mpr h)
      exact absurd c_18 (by omega)

set_option maxHeartbeats 4000000 in
set_option maxRecDepth 100000 in
theorem c_X4_close (l : Launch) (D : va_G) (cy : Nat → ClassId) (ad : Nat → Nat) (fr : Nat → Int64) (bk : Nat → Int64) (vw : Nat → Nat) (tk : Int64) (to : Int64) (fk : Int64) (fo : Int64) (kp : Nat) (sp : Nat) (lt : Nat) (ib : Bool) (rw : Nat) (cl : Nat) (nu : Nat) (tv : Nat) (tm : Nat) (ta : Nat → Int32) (ml : Int32) (tn : Nat) (R : va_W) (k : Nat) (hk : k < 3) (hkp : kp ≤ 6) (hcc : ccB (fr k) (bk k) = true) : GE l D (gts cy) yX4_close cX4_close 3 (some .int) 3 0 0 [.ref (ad 0), .int (nI k)] (wC ad cy fr bk vw tk to fk fo kp sp lt ib rw cl nu tv tm ta ml tn R) (gF (some (.int (nI (pc (onW (clF ((saU fr kp) k) ((saU bk kp) k)) (clB ((saU fr kp) k) ((saU bk kp) k)) &&& rowM 7))))) (wC ad cy (va_up (saU fr kp) k (clF ((saU fr kp) k) ((saU bk kp) k))) (va_up (saU bk kp) k (clB ((saU fr kp) k) ((saU bk kp) k))) (saU vw kp) tk to fk fo (saK kp) sp lt ib rw cl nu tv tm ta ml tn R)) := by
  refine g_intro (by decide +kernel) (lv := [(0, .ref (ad 0)), (1, .int (nI k))]) rfl (Nat.le_of_ble_eq_true rfl) ?_
  intro p e s m below meth c C0 G ls hl
  have hx := C0.1
  have hb := C0.2.1
  have hown := C0.2.2.2.2.2.1
  have hts := C0.2.2.2.2.2.2.1
  refine lv_aload_n hx hb dX4_close_0 rfl (lv_at hl 0 rfl) ?_
  refine lv_iload_n hx hb dX4_close_1 rfl (lv_at hl 1 rfl) ?_
  refine g_callV (As := [.int (nI k)]) (rest := []) (q0 := 0) C0 G (c_X4_cardAt l D cy (ad := ad) (fr := fr) (bk := bk) (vw := vw) (tk := tk) (to := to) (fk := fk) (fo := fo) (kp := kp) (sp := sp) (lt := lt) (ib := ib) (rw := rw) (cl := cl) (nu := nu) (tv := tv) (tm := tm) (ta := ta) (ml := ml) (tn := tn) (R := R) (k := k) (by omega)) k_X4_cardAt ml_X4_47 rfl rfl dX4_close_2 rfl rfl hl.1 (Nat.le_of_ble_eq_true rfl) ⟨Nat.le_of_ble_eq_true rfl, Nat.le_of_ble_eq_true rfl⟩ ⟨Nat.le_of_ble_eq_true rfl, Nat.le_of_ble_eq_true rfl⟩ (fun r W2 H locs hp G => ?_)
  obtain ⟨rfl, hw⟩ := hp
  have G := g_wc hw G
  refine W.eq (g2 := F0 m 5 ls [.ref (ad (10 + k))]) rfl ?_
  refine lv_astore_n (lv' := [(2, .ref (ad (10 + k))), (0, .ref (ad 0)), (1, .int (nI k))]) hx hb dX4_close_5 rfl hl (by decide) rfl (fun ls hl => ?_)
  refine lv_aload_n hx hb dX4_close_6 rfl (lv_at hl 0 rfl) ?_
  refine g_callVN (As := []) (rest := []) (q0 := k + 9) C0 G (GE.at (i := k + 9) (wC_at (k := k) (by omega)) (fun R => (c_X0_canClose l D cy (R := R) (h := ad (10 + k)) (f := fr k) (b := bk k) (v := vw k)  ))) k_X0_canClose nm_X4_79 (wC_at (k := k) (by omega)) rfl dX4_close_7 rfl rfl hl.1 (Nat.le_of_ble_eq_true rfl) ⟨Nat.le_of_ble_eq_true rfl, Nat.le_of_ble_eq_true rfl⟩ ⟨Nat.le_of_ble_eq_true rfl, Nat.le_of_ble_eq_true rfl⟩ (fun r W2 H locs hp G => ?_)
  obtain ⟨rfl, hw⟩ := hp
  have G : gW D (wC ad cy fr bk vw tk to fk fo kp sp lt ib rw cl nu tv tm ta ml tn R) (va_A (wC ad cy fr bk vw tk to fk fo kp sp lt ib rw cl nu tv tm ta ml tn R) s.heap.size) s H locs := g_wc (hw.trans (wC_set (k := k) (by omega) (va_up_s _ _) (va_up_s _ _) (va_up_s _ _))) G
  refine W.eq (g2 := F0 m 10 ls [.int (bI (ccB (fr k) (bk k)))]) rfl ?_
  refine lv_if_ne (tgt := 23) hx hb dX4_close_10 (by decide) (fun c_10 => ?_) (fun c_10 => ?_)
  · skip
    have c_10 : (ccB (fr k) (bk k)) = true := bI_t c_10
    refine lv_aload_n hx hb dX4_close_23 rfl (lv_at hl 1 rfl) ?_
    refine g_get (q0 := 0) (v := .ref (ad 4)) C0 G in_X4 rfl rfl 3 (by decide) fl_X4_29 (fun _ h => h) rfl dX4_close_24 ?_
    refine lv_aload_n hx hb dX4_close_27 rfl (lv_at hl 1 rfl) ?_
    refine g_get (q0 := 0) (v := .ref (ad 1)) C0 G in_X4 rfl rfl 0 (by decide) fl_X4_11 (fun _ h => h) rfl dX4_close_28 ?_
    refine g_callVN (As := [.ref (ad 1)]) (rest := []) (q0 := 4) C0 G (c_X1_save l D cy (ad := ad) (fr := fr) (bk := bk) (vw := vw) (tk := tk) (to := to) (fk := fk) (fo := fo) (kp := kp) (sp := sp) (lt := lt) (ib := ib) (rw := rw) (cl := cl) (nu := nu) (tv := tv) (tm := tm) (ta := ta) (ml := ml) (tn := tn) (R := R)  (by omega)) k_X1_save nm_X4_71 rfl rfl dX4_close_31 rfl rfl hl.1 (Nat.le_of_ble_eq_true rfl) ⟨Nat.le_of_ble_eq_true rfl, Nat.le_of_ble_eq_true rfl⟩ ⟨Nat.le_of_ble_eq_true rfl, Nat.le_of_ble_eq_true rfl⟩ (fun r W2 H locs hp G => ?_)
    obtain ⟨rfl, hw⟩ := hp
    have G := g_wc hw G
    refine W.eq (g2 := F0 m 34 ls []) rfl ?_
    refine lv_aload_n hx hb dX4_close_34 rfl (lv_at hl 0 rfl) ?_
    refine g_callVN (As := []) (rest := []) (q0 := k + 9) C0 G (GE.at (i := k + 9) (wC_at (k := k) (by omega)) (fun R => (c_X0_punchCheckRow l D cy (R := R) (h := ad (10 + k)) (f := (saU fr kp) k) (b := (saU bk kp) k) (v := (saU vw kp) k)  ))) k_X0_punchCheckRow nm_X4_85 (wC_at (k := k) (by omega)) rfl dX4_close_35 rfl rfl hl.1 (Nat.le_of_ble_eq_true rfl) ⟨Nat.le_of_ble_eq_true rfl, Nat.le_of_ble_eq_true rfl⟩ ⟨Nat.le_of_ble_eq_true rfl, Nat.le_of_ble_eq_true rfl⟩ (fun r W2 H locs hp G => ?_)
    obtain ⟨rfl, hw⟩ := hp
    have G : gW D (wC ad cy (va_up (saU fr kp) k (clF ((saU fr kp) k) ((saU bk kp) k))) (va_up (saU bk kp) k (clB ((saU fr kp) k) ((saU bk kp) k))) (saU vw kp) tk to fk fo (saK kp) sp lt ib rw cl nu tv tm ta ml tn R) (va_A (wC ad cy fr bk vw tk to fk fo kp sp lt ib rw cl nu tv tm ta ml tn R) s.heap.size) s H locs := g_wc (hw.trans (wC_set (k := k) (by omega) rfl rfl (va_up_s _ _))) G
    refine W.eq (g2 := F0 m 38 ls [.int (nI (pc (onW (clF ((saU fr kp) k) ((saU bk kp) k)) (clB ((saU fr kp) k) ((saU bk kp) k)) &&& rowM 7)))]) rfl ?_
    exact g_iret C0 G ⟨by first | rfl | (exfalso; omega) | (simp only [c_10, Bool.false_eq_true, ↓reduceIte, eq_self, decide_true, decide_false, not_true_eq_false, not_false_eq_true, Bool.true_and, Bool.false_and, Bool.and_true, Bool.and_false]; done) | (simp [c_10]; done) | (simp [c_10]; rfl) | (simp [c_10]; omega), by first | rfl | (exfalso; omega) | (simp only [c_10, Bool.false_eq_true, ↓reduceIte, eq_self, decide_true, decide_false, not_true_eq_false, not_false_eq_true, Bool.true_and, Bool.false_and, Bool.and_true, Bool.and_false]; done) | (simp [c_10]; done) | (simp [c_10]; rfl) | (simp [c_10]; omega)⟩ dX4_close_38
  · skip
    have c_10 : (ccB (fr k) (bk k)) = false := bI_f c_10
    exact absurd (hcc.symm.trans c_10) (by decide)

set_option maxHeartbeats 4000000 in
set_option maxRecDepth 100000 in
theorem c_X4_renew (l : Launch) (D : va_G) (cy : Nat → ClassId) (ad : Nat → Nat) (fr : Nat → Int64) (bk : Nat → Int64) (vw : Nat → Nat) (tk : Int64) (to : Int64) (fk : Int64) (fo : Int64) (kp : Nat) (sp : Nat) (lt : Nat) (ib : Bool) (rw : Nat) (cl : Nat) (nu : Nat) (tv : Nat) (tm : Nat) (ta : Nat → Int32) (ml : Int32) (tn : Nat) (R : va_W) (k : Nat) (hk : k < 3) (hkp : kp ≤ 6) : GE l D (gts cy) yX4_renew cX4_renew 4 (some .int) 3 0 0 [.ref (ad 0), .int (nI k)] (wC ad cy fr bk vw tk to fk fo kp sp lt ib rw cl nu tv tm ta ml tn R) (gF (some (.int (nI ((pc ((saU fr kp) k)) + (pc ((saU bk kp) k)))))) (wC ad cy (va_up (saU fr kp) k 0) (va_up (saU bk kp) k 0) (va_up (saU vw kp) k 0) tk to fk fo (saK kp) sp lt ib rw cl nu tv tm ta ml tn R)) := by
  refine g_intro (by decide +kernel) (lv := [(0, .ref (ad 0)), (1, .int (nI k))]) rfl (Nat.le_of_ble_eq_true rfl) ?_
  intro p e s m below meth c C0 G ls hl
  have hx := C0.1
  have hb := C0.2.1
  have hown := C0.2.2.2.2.2.1
  have hts := C0.2.2.2.2.2.2.1
  have hp1 := pc_le (saU fr kp k)
  have hp2 := pc_le (saU bk kp k)
  refine lv_aload_n hx hb dX4_renew_0 rfl (lv_at hl 0 rfl) ?_
  refine lv_iload_n hx hb dX4_renew_1 rfl (lv_at hl 1 rfl) ?_
  refine g_callV (As := [.int (nI k)]) (rest := []) (q0 := 0) C0 G (c_X4_cardAt l D cy (ad := ad) (fr := fr) (bk := bk) (vw := vw) (tk := tk) (to := to) (fk := fk) (fo := fo) (kp := kp) (sp := sp) (lt := lt) (ib := ib) (rw := rw) (cl := cl) (nu := nu) (tv := tv) (tm := tm) (ta := ta) (ml := ml) (tn := tn) (R := R) (k := k) (by omega)) k_X4_cardAt ml_X4_47 rfl rfl dX4_renew_2 rfl rfl hl.1 (Nat.le_of_ble_eq_true rfl) ⟨Nat.le_of_ble_eq_true rfl, Nat.le_of_ble_eq_true rfl⟩ ⟨Nat.le_of_ble_eq_true rfl, Nat.le_of_ble_eq_true rfl⟩ (fun r W2 H locs hp G => ?_)
  obtain ⟨rfl, hw⟩ := hp
  have G := g_wc hw G
  refine W.eq (g2 := F0 m 5 ls [.ref (ad (10 + k))]) rfl ?_
  refine lv_astore_n (lv' := [(2, .ref (ad (10 + k))), (0, .ref (ad 0)), (1, .int (nI k))]) hx hb dX4_renew_5 rfl hl (by decide) rfl (fun ls hl => ?_)
  refine lv_aload_n hx hb dX4_renew_6 rfl (lv_at hl 1 rfl) ?_
  refine g_get (q0 := 0) (v := .ref (ad 4)) C0 G in_X4 rfl rfl 3 (by decide) fl_X4_29 (fun _ h => h) rfl dX4_renew_7 ?_
  refine lv_aload_n hx hb dX4_renew_10 rfl (lv_at hl 1 rfl) ?_
  refine g_get (q0 := 0) (v := .ref (ad 1)) C0 G in_X4 rfl rfl 0 (by decide) fl_X4_11 (fun _ h => h) rfl dX4_renew_11 ?_
  refine g_callVN (As := [.ref (ad 1)]) (rest := []) (q0 := 4) C0 G (c_X1_save l D cy (ad := ad) (fr := fr) (bk := bk) (vw := vw) (tk := tk) (to := to) (fk := fk) (fo := fo) (kp := kp) (sp := sp) (lt := lt) (ib := ib) (rw := rw) (cl := cl) (nu := nu) (tv := tv) (tm := tm) (ta := ta) (ml := ml) (tn := tn) (R := R)  (by omega)) k_X1_save nm_X4_71 rfl rfl dX4_renew_14 rfl rfl hl.1 (Nat.le_of_ble_eq_true rfl) ⟨Nat.le_of_ble_eq_true rfl, Nat.le_of_ble_eq_true rfl⟩ ⟨Nat.le_of_ble_eq_true rfl, Nat.le_of_ble_eq_true rfl⟩ (fun r W2 H locs hp G => ?_)
  obtain ⟨rfl, hw⟩ := hp
  have G := g_wc hw G
  refine W.eq (g2 := F0 m 17 ls []) rfl ?_
  refine lv_aload_n hx hb dX4_renew_17 rfl (lv_at hl 0 rfl) ?_
  refine g_getN (q0 := k + 9) (v := .long ((saU fr kp) k)) C0 G in_X0 (wC_at (k := k) (by omega)) rfl 0 (by decide) nf_X4_89 (fun _ h => h) rfl dX4_renew_18 ?_
  refine g_callS (As := [.long ((saU fr kp) k)]) (rest := []) C0 G (c_J13_bitCount_95d88 l D cy (W1 := wC ad cy (saU fr kp) (saU bk kp) (saU vw kp) tk to fk fo (saK kp) sp lt ib rw cl nu tv tm ta ml tn R) (w := (saU fr kp) k) ) k_J13_bitCount_95d88 ml_X4_93 dX4_renew_21 rfl rfl hl.1 (Nat.le_of_ble_eq_true rfl) ⟨Nat.le_of_ble_eq_true rfl, Nat.le_of_ble_eq_true rfl⟩ ⟨Nat.le_of_ble_eq_true rfl, Nat.le_of_ble_eq_true rfl⟩ (fun r W2 H locs hp G => ?_)
  obtain ⟨rfl, hw⟩ := hp
  have G := g_wc hw G
  refine W.eq (g2 := F0 m 24 ls [.int (nI (pc ((saU fr kp) k)))]) rfl ?_
  refine lv_aload_n hx hb dX4_renew_24 rfl (lv_at hl 0 rfl) ?_
  refine g_getN (q0 := k + 9) (v := .long ((saU bk kp) k)) C0 G in_X0 (wC_at (k := k) (by omega)) rfl 1 (by decide) nf_X4_99 (fun _ h => h) rfl dX4_renew_25 ?_
  refine g_callS (As := [.long ((saU bk kp) k)]) (rest := [.int (nI (pc ((saU fr kp) k)))]) C0 G (c_J13_bitCount_95d88 l D cy (W1 := wC ad cy (saU fr kp) (saU bk kp) (saU vw kp) tk to fk fo (saK kp) sp lt ib rw cl nu tv tm ta ml tn R) (w := (saU bk kp) k) ) k_J13_bitCount_95d88 ml_X4_93 dX4_renew_28 rfl rfl hl.1 (Nat.le_of_ble_eq_true rfl) ⟨Nat.le_of_ble_eq_true rfl, Nat.le_of_ble_eq_true rfl⟩ ⟨Nat.le_of_ble_eq_true rfl, Nat.le_of_ble_eq_true rfl⟩ (fun r W2 H locs hp G => ?_)
  obtain ⟨rfl, hw⟩ := hp
  have G := g_wc hw G
  refine W.eq (g2 := F0 m 31 ls [.int (nI (pc ((saU bk kp) k))), .int (nI (pc ((saU fr kp) k)))]) rfl ?_
  refine lv_iadd hx hb dX4_renew_31 ?_
  refine g_topi (x' := nI ((pc ((saU fr kp) k)) + (pc ((saU bk kp) k)))) (nI_add (pc ((saU fr kp) k)) (pc ((saU bk kp) k))) ?_
  refine lv_istore_n (lv' := [(3, .int (nI ((pc ((saU fr kp) k)) + (pc ((saU bk kp) k))))), (2, .ref (ad (10 + k))), (0, .ref (ad 0)), (1, .int (nI k))]) hx hb dX4_renew_32 rfl hl (by decide) rfl (fun ls hl => ?_)
  refine lv_aload_n hx hb dX4_renew_33 rfl (lv_at hl 1 rfl) ?_
  refine g_callVN (As := []) (rest := []) (q0 := k + 9) C0 G (GE.at (i := k + 9) (wC_at (k := k) (by omega)) (fun R => (c_X0_clear l D cy (R := R) (h := ad (10 + k)) (f := (saU fr kp) k) (b := (saU bk kp) k) (v := (saU vw kp) k)  ))) k_X0_clear nm_X4_102 (wC_at (k := k) (by omega)) rfl dX4_renew_34 rfl rfl hl.1 (Nat.le_of_ble_eq_true rfl) ⟨Nat.le_of_ble_eq_true rfl, Nat.le_of_ble_eq_true rfl⟩ ⟨Nat.le_of_ble_eq_true rfl, Nat.le_of_ble_eq_true rfl⟩ (fun r W2 H locs hp G => ?_)
  obtain ⟨rfl, hw⟩ := hp
  have G : gW D (wC ad cy (va_up (saU fr kp) k 0) (va_up (saU bk kp) k 0) (va_up (saU vw kp) k 0) tk to fk fo (saK kp) sp lt ib rw cl nu tv tm ta ml tn R) (va_A (wC ad cy fr bk vw tk to fk fo kp sp lt ib rw cl nu tv tm ta ml tn R) s.heap.size) s H locs := g_wc (hw.trans (wC_set (k := k) (by omega) rfl rfl rfl)) G
  refine W.eq (g2 := F0 m 37 ls []) rfl ?_
  refine lv_iload_n hx hb dX4_renew_37 rfl (lv_at hl 0 rfl) ?_
  exact g_iret C0 G ⟨by first | rfl | (exfalso; omega) | (simp only [Bool.false_eq_true, ↓reduceIte, eq_self, decide_true, decide_false, not_true_eq_false, not_false_eq_true, Bool.true_and, Bool.false_and, Bool.and_true, Bool.and_false]; done) | (simp []; done) | (simp []; rfl) | (simp []; omega), by first | rfl | (exfalso; omega) | (simp only [Bool.false_eq_true, ↓reduceIte, eq_self, decide_true, decide_false, not_true_eq_false, not_false_eq_true, Bool.true_and, Bool.false_and, Bool.and_true, Bool.and_false]; done) | (simp []; done) | (simp []; rfl) | (simp []; omega)⟩ dX4_renew_38

set_option maxHeartbeats 4000000 in
set_option maxRecDepth 100000 in
theorem c_X4_copy (l : Launch) (D : va_G) (cy : Nat → ClassId) (ad : Nat → Nat) (fr : Nat → Int64) (bk : Nat → Int64) (vw : Nat → Nat) (tk : Int64) (to : Int64) (fk : Int64) (fo : Int64) (kp : Nat) (sp : Nat) (lt : Nat) (ib : Bool) (rw : Nat) (cl : Nat) (nu : Nat) (tv : Nat) (tm : Nat) (ta : Nat → Int32) (ml : Int32) (tn : Nat) (R : va_W) (k : Nat) (j : Nat) (hk : k < 3) (hj3 : j < 3) (hkp : kp ≤ 6) (hne : ¬ k = j) : GE l D (gts cy) yX4_copy cX4_copy 6 (some .int) 5 0 0 [.ref (ad 0), .int (nI k), .int (nI j)] (wC ad cy fr bk vw tk to fk fo kp sp lt ib rw cl nu tv tm ta ml tn R) (gF (some (.int (nI (pc (blW ((va_up (va_up (saU fr kp) j 0) j ((fa (sdW ((saU fr kp) k) ((saU bk kp) k)) (onW ((saU fr kp) k) ((saU bk kp) k))).2)) j) ((va_up (va_up (saU bk kp) j 0) j (((fa (sdW ((saU fr kp) k) ((saU bk kp) k)) (onW ((saU fr kp) k) ((saU bk kp) k))).1) &&& (((fa (sdW ((saU fr kp) k) ((saU bk kp) k)) (onW ((saU fr kp) k) ((saU bk kp) k))).2) ^^^ ((-1) : Int64)))) j)))))) (wC ad cy (va_up (va_up (saU fr kp) j 0) j ((fa (sdW ((saU fr kp) k) ((saU bk kp) k)) (onW ((saU fr kp) k) ((saU bk kp) k))).2)) (va_up (va_up (saU bk kp) j 0) j (((fa (sdW ((saU fr kp) k) ((saU bk kp) k)) (onW ((saU fr kp) k) ((saU bk kp) k))).1) &&& (((fa (sdW ((saU fr kp) k) ((saU bk kp) k)) (onW ((saU fr kp) k) ((saU bk kp) k))).2) ^^^ ((-1) : Int64)))) (va_up (saU vw kp) j 0) ((fa (sdW ((saU fr kp) k) ((saU bk kp) k)) (onW ((saU fr kp) k) ((saU bk kp) k))).1) ((fa (sdW ((saU fr kp) k) ((saU bk kp) k)) (onW ((saU fr kp) k) ((saU bk kp) k))).2) fk fo (saK kp) sp lt ib rw cl nu tv tm ta ml tn R)) := by
  refine g_intro (by decide +kernel) (lv := [(0, .ref (ad 0)), (1, .int (nI k)), (2, .int (nI j))]) rfl (Nat.le_of_ble_eq_true rfl) ?_
  intro p e s m below meth c C0 G ls hl
  have hx := C0.1
  have hb := C0.2.1
  have hown := C0.2.2.2.2.2.1
  have hts := C0.2.2.2.2.2.2.1
  refine lv_aload_n hx hb dX4_copy_0 rfl (lv_at hl 0 rfl) ?_
  refine lv_iload_n hx hb dX4_copy_1 rfl (lv_at hl 1 rfl) ?_
  refine g_callV (As := [.int (nI k)]) (rest := []) (q0 := 0) C0 G (c_X4_cardAt l D cy (ad := ad) (fr := fr) (bk := bk) (vw := vw) (tk := tk) (to := to) (fk := fk) (fo := fo) (kp := kp) (sp := sp) (lt := lt) (ib := ib) (rw := rw) (cl := cl) (nu := nu) (tv := tv) (tm := tm) (ta := ta) (ml := ml) (tn := tn) (R := R) (k := k) (by omega)) k_X4_cardAt ml_X4_47 rfl rfl dX4_copy_2 rfl rfl hl.1 (Nat.le_of_ble_eq_true rfl) ⟨Nat.le_of_ble_eq_true rfl, Nat.le_of_ble_eq_true rfl⟩ ⟨Nat.le_of_ble_eq_true rfl, Nat.le_of_ble_eq_true rfl⟩ (fun r W2 H locs hp G => ?_)
  obtain ⟨rfl, hw⟩ := hp
  have G := g_wc hw G
  refine W.eq (g2 := F0 m 5 ls [.ref (ad (10 + k))]) rfl ?_
  refine lv_astore_n (lv' := [(3, .ref (ad (10 + k))), (0, .ref (ad 0)), (1, .int (nI k)), (2, .int (nI j))]) hx hb dX4_copy_5 rfl hl (by decide) rfl (fun ls hl => ?_)
  refine lv_aload_n hx hb dX4_copy_6 rfl (lv_at hl 1 rfl) ?_
  refine lv_iload_n hx hb dX4_copy_7 rfl (lv_at hl 3 rfl) ?_
  refine g_callV (As := [.int (nI j)]) (rest := []) (q0 := 0) C0 G (c_X4_cardAt l D cy (ad := ad) (fr := fr) (bk := bk) (vw := vw) (tk := tk) (to := to) (fk := fk) (fo := fo) (kp := kp) (sp := sp) (lt := lt) (ib := ib) (rw := rw) (cl := cl) (nu := nu) (tv := tv) (tm := tm) (ta := ta) (ml := ml) (tn := tn) (R := R) (k := j) (by omega)) k_X4_cardAt ml_X4_47 rfl rfl dX4_copy_8 rfl rfl hl.1 (Nat.le_of_ble_eq_true rfl) ⟨Nat.le_of_ble_eq_true rfl, Nat.le_of_ble_eq_true rfl⟩ ⟨Nat.le_of_ble_eq_true rfl, Nat.le_of_ble_eq_true rfl⟩ (fun r W2 H locs hp G => ?_)
  obtain ⟨rfl, hw⟩ := hp
  have G := g_wc hw G
  refine W.eq (g2 := F0 m 11 ls [.ref (ad (10 + j))]) rfl ?_
  refine lv_astore (lv' := [(4, .ref (ad (10 + j))), (3, .ref (ad (10 + k))), (0, .ref (ad 0)), (1, .int (nI k)), (2, .int (nI j))]) hx hb dX4_copy_11 hl (by decide) rfl (fun ls hl => ?_)
  refine lv_iload_n hx hb dX4_copy_13 rfl (lv_at hl 3 rfl) ?_
  refine lv_iload_n hx hb dX4_copy_14 rfl (lv_at hl 4 rfl) ?_
  refine lv_icmp_ne (tgt := 28) hx hb dX4_copy_15 (by decide) (fun c_15 => ?_) (fun c_15 => ?_)
  · skip
    have c_15 : ¬ (k = j) := fun h => c_15 ((nI_eq (a := k) (b := j) (by omega) (by omega)).mpr h)
    refine lv_aload_n hx hb dX4_copy_28 rfl (lv_at hl 2 rfl) ?_
    refine g_get (q0 := 0) (v := .ref (ad 4)) C0 G in_X4 rfl rfl 3 (by decide) fl_X4_29 (fun _ h => h) rfl dX4_copy_29 ?_
    refine lv_aload_n hx hb dX4_copy_32 rfl (lv_at hl 2 rfl) ?_
    refine g_get (q0 := 0) (v := .ref (ad 1)) C0 G in_X4 rfl rfl 0 (by decide) fl_X4_11 (fun _ h => h) rfl dX4_copy_33 ?_
    refine g_callVN (As := [.ref (ad 1)]) (rest := []) (q0 := 4) C0 G (c_X1_save l D cy (ad := ad) (fr := fr) (bk := bk) (vw := vw) (tk := tk) (to := to) (fk := fk) (fo := fo) (kp := kp) (sp := sp) (lt := lt) (ib := ib) (rw := rw) (cl := cl) (nu := nu) (tv := tv) (tm := tm) (ta := ta) (ml := ml) (tn := tn) (R := R)  (by omega)) k_X1_save nm_X4_71 rfl rfl dX4_copy_36 rfl rfl hl.1 (Nat.le_of_ble_eq_true rfl) ⟨Nat.le_of_ble_eq_true rfl, Nat.le_of_ble_eq_true rfl⟩ ⟨Nat.le_of_ble_eq_true rfl, Nat.le_of_ble_eq_true rfl⟩ (fun r W2 H locs hp G => ?_)
    obtain ⟨rfl, hw⟩ := hp
    have G := g_wc hw G
    refine W.eq (g2 := F0 m 39 ls []) rfl ?_
    refine lv_aload_n hx hb dX4_copy_39 rfl (lv_at hl 2 rfl) ?_
    refine lv_aload_n hx hb dX4_copy_40 rfl (lv_at hl 1 rfl) ?_
    refine g_callV (As := [.ref (ad (10 + k))]) (rest := []) (q0 := 0) C0 G (c_X4_tellingOf l D cy (ad := ad) (fr := saU fr kp) (bk := saU bk kp) (vw := saU vw kp) (tk := tk) (to := to) (fk := fk) (fo := fo) (kp := saK kp) (sp := sp) (lt := lt) (ib := ib) (rw := rw) (cl := cl) (nu := nu) (tv := tv) (tm := tm) (ta := ta) (ml := ml) (tn := tn) (R := R) (k := k) (by omega)) k_X4_tellingOf ml_X4_107 rfl rfl dX4_copy_41 rfl rfl hl.1 (Nat.le_of_ble_eq_true rfl) ⟨Nat.le_of_ble_eq_true rfl, Nat.le_of_ble_eq_true rfl⟩ ⟨Nat.le_of_ble_eq_true rfl, Nat.le_of_ble_eq_true rfl⟩ (fun r W2 H locs hp G => ?_)
    obtain ⟨rfl, hw⟩ := hp
    have G := g_wc hw G
    refine W.eq (g2 := F0 m 44 ls [.ref (ad 2)]) rfl ?_
    refine lv_astore (lv' := [(5, .ref (ad 2)), (4, .ref (ad (10 + j))), (3, .ref (ad (10 + k))), (0, .ref (ad 0)), (1, .int (nI k)), (2, .int (nI j))]) hx hb dX4_copy_44 hl (by decide) rfl (fun ls hl => ?_)
    refine lv_aload hx hb dX4_copy_46 (lv_at hl 1 rfl) ?_
    refine g_callVN (As := []) (rest := []) (q0 := j + 9) C0 G (GE.at (i := j + 9) (wC_at (k := j) (by omega)) (fun R => (c_X0_clear l D cy (R := R) (h := ad (10 + j)) (f := (saU fr kp) j) (b := (saU bk kp) j) (v := (saU vw kp) j)  ))) k_X0_clear nm_X4_102 (wC_at (k := j) (by omega)) rfl dX4_copy_48 rfl rfl hl.1 (Nat.le_of_ble_eq_true rfl) ⟨Nat.le_of_ble_eq_true rfl, Nat.le_of_ble_eq_true rfl⟩ ⟨Nat.le_of_ble_eq_true rfl, Nat.le_of_ble_eq_true rfl⟩ (fun r W2 H locs hp G => ?_)
    obtain ⟨rfl, hw⟩ := hp
    have G : gW D (wC ad cy (va_up (saU fr kp) j 0) (va_up (saU bk kp) j 0) (va_up (saU vw kp) j 0) ((fa (sdW ((saU fr kp) k) ((saU bk kp) k)) (onW ((saU fr kp) k) ((saU bk kp) k))).1) ((fa (sdW ((saU fr kp) k) ((saU bk kp) k)) (onW ((saU fr kp) k) ((saU bk kp) k))).2) fk fo (saK kp) sp lt ib rw cl nu tv tm ta ml tn R) (va_A (wC ad cy fr bk vw tk to fk fo kp sp lt ib rw cl nu tv tm ta ml tn R) s.heap.size) s H locs := g_wc (hw.trans (wC_set (k := j) (by omega) rfl rfl rfl)) G
    refine W.eq (g2 := F0 m 51 ls []) rfl ?_
    refine lv_aload hx hb dX4_copy_51 (lv_at hl 1 rfl) ?_
    refine lv_aload hx hb dX4_copy_53 (lv_at hl 0 rfl) ?_
    refine g_getN (q0 := 2) (v := .long ((fa (sdW ((saU fr kp) k) ((saU bk kp) k)) (onW ((saU fr kp) k) ((saU bk kp) k))).2)) C0 G in_X3 rfl rfl 1 (by decide) nf_X4_111 (fun _ h => h) rfl dX4_copy_55 ?_
    refine g_putN (q0 := j + 9) (W2 := wC ad cy (va_up (va_up (saU fr kp) j 0) j ((fa (sdW ((saU fr kp) k) ((saU bk kp) k)) (onW ((saU fr kp) k) ((saU bk kp) k))).2)) (va_up (saU bk kp) j 0) (va_up (saU vw kp) j 0) ((fa (sdW ((saU fr kp) k) ((saU bk kp) k)) (onW ((saU fr kp) k) ((saU bk kp) k))).1) ((fa (sdW ((saU fr kp) k) ((saU bk kp) k)) (onW ((saU fr kp) k) ((saU bk kp) k))).2) fk fo (saK kp) sp lt ib rw cl nu tv tm ta ml tn R) C0 G ft_X0 in_X0 (wC_at (k := j) (by omega)) rfl 0 (by decide) nf_X4_89 (fun _ h => h) rfl rfl rfl (Nat.le_of_ble_eq_true rfl) (wC_set (k := j) (by omega) rfl (va_up_s _ _) (va_up_s _ _)) dX4_copy_58 (fun H locs G => ?_)
    refine lv_aload hx hb dX4_copy_61 (lv_at hl 1 rfl) ?_
    refine lv_aload hx hb dX4_copy_63 (lv_at hl 0 rfl) ?_
    refine g_getN (q0 := 2) (v := .long ((fa (sdW ((saU fr kp) k) ((saU bk kp) k)) (onW ((saU fr kp) k) ((saU bk kp) k))).1)) C0 G in_X3 rfl rfl 0 (by decide) nf_X4_114 (fun _ h => h) rfl dX4_copy_65 ?_
    refine lv_aload hx hb dX4_copy_68 (lv_at hl 0 rfl) ?_
    refine g_getN (q0 := 2) (v := .long ((fa (sdW ((saU fr kp) k) ((saU bk kp) k)) (onW ((saU fr kp) k) ((saU bk kp) k))).2)) C0 G in_X3 rfl rfl 1 (by decide) nf_X4_111 (fun _ h => h) rfl dX4_copy_70 ?_
    refine lv_ldc2 (v := (-1)) hx hb hown (hts _ kl_X4_117) dX4_copy_73 ?_
    refine lv_lxor hx hb dX4_copy_76 ?_
    refine lv_land hx hb dX4_copy_77 ?_
    refine g_putN (q0 := j + 9) (W2 := wC ad cy (va_up (va_up (saU fr kp) j 0) j ((fa (sdW ((saU fr kp) k) ((saU bk kp) k)) (onW ((saU fr kp) k) ((saU bk kp) k))).2)) (va_up (va_up (saU bk kp) j 0) j (((fa (sdW ((saU fr kp) k) ((saU bk kp) k)) (onW ((saU fr kp) k) ((saU bk kp) k))).1) &&& (((fa (sdW ((saU fr kp) k) ((saU bk kp) k)) (onW ((saU fr kp) k) ((saU bk kp) k))).2) ^^^ ((-1) : Int64)))) (va_up (saU vw kp) j 0) ((fa (sdW ((saU fr kp) k) ((saU bk kp) k)) (onW ((saU fr kp) k) ((saU bk kp) k))).1) ((fa (sdW ((saU fr kp) k) ((saU bk kp) k)) (onW ((saU fr kp) k) ((saU bk kp) k))).2) fk fo (saK kp) sp lt ib rw cl nu tv tm ta ml tn R) C0 G ft_X0 in_X0 (wC_at (k := j) (by omega)) rfl 1 (by decide) nf_X4_99 (fun _ h => h) rfl rfl rfl (Nat.le_of_ble_eq_true rfl) (wC_set (k := j) (by omega) (va_up_s _ _) rfl (va_up_s _ _)) dX4_copy_78 (fun H locs G => ?_)
    refine lv_aload hx hb dX4_copy_81 (lv_at hl 1 rfl) ?_
    refine g_callVN (As := []) (rest := []) (q0 := j + 9) C0 G (GE.at (i := j + 9) (wC_at (k := j) (by omega)) (fun R => (c_X0_blank l D cy (R := R) (h := ad (10 + j)) (f := (va_up (va_up (saU fr kp) j 0) j ((fa (sdW ((saU fr kp) k) ((saU bk kp) k)) (onW ((saU fr kp) k) ((saU bk kp) k))).2)) j) (b := (va_up (va_up (saU bk kp) j 0) j (((fa (sdW ((saU fr kp) k) ((saU bk kp) k)) (onW ((saU fr kp) k) ((saU bk kp) k))).1) &&& (((fa (sdW ((saU fr kp) k) ((saU bk kp) k)) (onW ((saU fr kp) k) ((saU bk kp) k))).2) ^^^ ((-1) : Int64)))) j) (v := (va_up (saU vw kp) j 0) j)  ))) k_X0_blank nm_X4_119 (wC_at (k := j) (by omega)) rfl dX4_copy_83 rfl rfl hl.1 (Nat.le_of_ble_eq_true rfl) ⟨Nat.le_of_ble_eq_true rfl, Nat.le_of_ble_eq_true rfl⟩ ⟨Nat.le_of_ble_eq_true rfl, Nat.le_of_ble_eq_true rfl⟩ (fun r W2 H locs hp G => ?_)
    obtain ⟨rfl, hw⟩ := hp
    have G : gW D (wC ad cy (va_up (va_up (saU fr kp) j 0) j ((fa (sdW ((saU fr kp) k) ((saU bk kp) k)) (onW ((saU fr kp) k) ((saU bk kp) k))).2)) (va_up (va_up (saU bk kp) j 0) j (((fa (sdW ((saU fr kp) k) ((saU bk kp) k)) (onW ((saU fr kp) k) ((saU bk kp) k))).1) &&& (((fa (sdW ((saU fr kp) k) ((saU bk kp) k)) (onW ((saU fr kp) k) ((saU bk kp) k))).2) ^^^ ((-1) : Int64)))) (va_up (saU vw kp) j 0) ((fa (sdW ((saU fr kp) k) ((saU bk kp) k)) (onW ((saU fr kp) k) ((saU bk kp) k))).1) ((fa (sdW ((saU fr kp) k) ((saU bk kp) k)) (onW ((saU fr kp) k) ((saU bk kp) k))).2) fk fo (saK kp) sp lt ib rw cl nu tv tm ta ml tn R) (va_A (wC ad cy fr bk vw tk to fk fo kp sp lt ib rw cl nu tv tm ta ml tn R) s.heap.size) s H locs := g_wc (hw.trans (wC_set (k := j) (by omega) (va_up_s _ _) (va_up_s _ _) (va_up_s _ _))) G
    refine W.eq (g2 := F0 m 86 ls [.long (blW ((va_up (va_up (saU fr kp) j 0) j ((fa (sdW ((saU fr kp) k) ((saU bk kp) k)) (onW ((saU fr kp) k) ((saU bk kp) k))).2)) j) ((va_up (va_up (saU bk kp) j 0) j (((fa (sdW ((saU fr kp) k) ((saU bk kp) k)) (onW ((saU fr kp) k) ((saU bk kp) k))).1) &&& (((fa (sdW ((saU fr kp) k) ((saU bk kp) k)) (onW ((saU fr kp) k) ((saU bk kp) k))).2) ^^^ ((-1) : Int64)))) j))]) rfl ?_
    refine g_callS (As := [.long (blW ((va_up (va_up (saU fr kp) j 0) j ((fa (sdW ((saU fr kp) k) ((saU bk kp) k)) (onW ((saU fr kp) k) ((saU bk kp) k))).2)) j) ((va_up (va_up (saU bk kp) j 0) j (((fa (sdW ((saU fr kp) k) ((saU bk kp) k)) (onW ((saU fr kp) k) ((saU bk kp) k))).1) &&& (((fa (sdW ((saU fr kp) k) ((saU bk kp) k)) (onW ((saU fr kp) k) ((saU bk kp) k))).2) ^^^ ((-1) : Int64)))) j))]) (rest := []) C0 G (c_J13_bitCount_95d88 l D cy (W1 := wC ad cy (va_up (va_up (saU fr kp) j 0) j ((fa (sdW ((saU fr kp) k) ((saU bk kp) k)) (onW ((saU fr kp) k) ((saU bk kp) k))).2)) (va_up (va_up (saU bk kp) j 0) j (((fa (sdW ((saU fr kp) k) ((saU bk kp) k)) (onW ((saU fr kp) k) ((saU bk kp) k))).1) &&& (((fa (sdW ((saU fr kp) k) ((saU bk kp) k)) (onW ((saU fr kp) k) ((saU bk kp) k))).2) ^^^ ((-1) : Int64)))) (va_up (saU vw kp) j 0) ((fa (sdW ((saU fr kp) k) ((saU bk kp) k)) (onW ((saU fr kp) k) ((saU bk kp) k))).1) ((fa (sdW ((saU fr kp) k) ((saU bk kp) k)) (onW ((saU fr kp) k) ((saU bk kp) k))).2) fk fo (saK kp) sp lt ib rw cl nu tv tm ta ml tn R) (w := blW ((va_up (va_up (saU fr kp) j 0) j ((fa (sdW ((saU fr kp) k) ((saU bk kp) k)) (onW ((saU fr kp) k) ((saU bk kp) k))).2)) j) ((va_up (va_up (saU bk kp) j 0) j (((fa (sdW ((saU fr kp) k) ((saU bk kp) k)) (onW ((saU fr kp) k) ((saU bk kp) k))).1) &&& (((fa (sdW ((saU fr kp) k) ((saU bk kp) k)) (onW ((saU fr kp) k) ((saU bk kp) k))).2) ^^^ ((-1) : Int64)))) j)) ) k_J13_bitCount_95d88 ml_X4_93 dX4_copy_86 rfl rfl hl.1 (Nat.le_of_ble_eq_true rfl) ⟨Nat.le_of_ble_eq_true rfl, Nat.le_of_ble_eq_true rfl⟩ ⟨Nat.le_of_ble_eq_true rfl, Nat.le_of_ble_eq_true rfl⟩ (fun r W2 H locs hp G => ?_)
    obtain ⟨rfl, hw⟩ := hp
    have G := g_wc hw G
    refine W.eq (g2 := F0 m 89 ls [.int (nI (pc (blW ((va_up (va_up (saU fr kp) j 0) j ((fa (sdW ((saU fr kp) k) ((saU bk kp) k)) (onW ((saU fr kp) k) ((saU bk kp) k))).2)) j) ((va_up (va_up (saU bk kp) j 0) j (((fa (sdW ((saU fr kp) k) ((saU bk kp) k)) (onW ((saU fr kp) k) ((saU bk kp) k))).1) &&& (((fa (sdW ((saU fr kp) k) ((saU bk kp) k)) (onW ((saU fr kp) k) ((saU bk kp) k))).2) ^^^ ((-1) : Int64)))) j))))]) rfl ?_
    exact g_iret C0 G ⟨by first | rfl | (exfalso; omega) | (simp only [c_15, Bool.false_eq_true, ↓reduceIte, eq_self, decide_true, decide_false, not_true_eq_false, not_false_eq_true, Bool.true_and, Bool.false_and, Bool.and_true, Bool.and_false]; done) | (simp [c_15]; done) | (simp [c_15]; rfl) | (simp [c_15]; omega), by first | rfl | (exfalso; omega) | (simp only [c_15, Bool.false_eq_true, ↓reduceIte, eq_self, decide_true, decide_false, not_true_eq_false, not_false_eq_true, Bool.true_and, Bool.false_and, Bool.and_true, Bool.and_false]; done) | (simp [c_15]; done) | (simp [c_15]; rfl) | (simp [c_15]; omega)⟩ dX4_copy_89
  · skip
    have c_15 : k = j := (nI_eq (a := k) (b := j) (by omega) (by omega)).mp c_15
    exact absurd c_15 hne

set_option maxHeartbeats 4000000 in
set_option maxRecDepth 100000 in
theorem c_X4_wear (l : Launch) (D : va_G) (cy : Nat → ClassId) (ad : Nat → Nat) (fr : Nat → Int64) (bk : Nat → Int64) (vw : Nat → Nat) (tk : Int64) (to : Int64) (fk : Int64) (fo : Int64) (kp : Nat) (sp : Nat) (lt : Nat) (ib : Bool) (rw : Nat) (cl : Nat) (nu : Nat) (tv : Nat) (tm : Nat) (ta : Nat → Int32) (ml : Int32) (tn : Nat) (R : va_W) (k : Nat) (i : Nat) (j : Nat) (hk : k < 3) (hi : i < 8) (hj : j < 8) (hkp : kp ≤ 6) (hvw : vw k < 4) (hho : hoB (fr k) (bk k) (sbB (vw k)) (scN (vw k) i j) = false) : GE l D (gts cy) yX4_wear cX4_wear 6 (some .int) 3 0 0 [.ref (ad 0), .int (nI k), .int (nI i), .int (nI j)] (wC ad cy fr bk vw tk to fk fo kp sp lt ib rw cl nu tv tm ta ml tn R) (gF (some (.int (kdI ((va_up (saU fr kp) k (shF ((saU fr kp) k) (sbB ((saU vw kp) k)) (scN (vw k) i j) true)) k) ((va_up (saU bk kp) k (shB ((saU bk kp) k) (sbB ((saU vw kp) k)) (scN (vw k) i j) true)) k) (scN (vw k) i j)))) (wC ad cy (va_up (saU fr kp) k (shF ((saU fr kp) k) (sbB ((saU vw kp) k)) (scN (vw k) i j) true)) (va_up (saU bk kp) k (shB ((saU bk kp) k) (sbB ((saU vw kp) k)) (scN (vw k) i j) true)) (saU vw kp) tk to fk fo (saK kp) sp lt ib rw cl nu tv tm ta ml tn R)) := by
  refine g_intro (by decide +kernel) (lv := [(0, .ref (ad 0)), (1, .int (nI k)), (2, .int (nI i)), (3, .int (nI j))]) rfl (Nat.le_of_ble_eq_true rfl) ?_
  intro p e s m below meth c C0 G ls hl
  have hx := C0.1
  have hb := C0.2.1
  have hown := C0.2.2.2.2.2.1
  have hts := C0.2.2.2.2.2.2.1
  refine lv_aload_n hx hb dX4_wear_0 rfl (lv_at hl 0 rfl) ?_
  refine lv_iload_n hx hb dX4_wear_1 rfl (lv_at hl 1 rfl) ?_
  refine g_callV (As := [.int (nI k)]) (rest := []) (q0 := 0) C0 G (c_X4_cardAt l D cy (ad := ad) (fr := fr) (bk := bk) (vw := vw) (tk := tk) (to := to) (fk := fk) (fo := fo) (kp := kp) (sp := sp) (lt := lt) (ib := ib) (rw := rw) (cl := cl) (nu := nu) (tv := tv) (tm := tm) (ta := ta) (ml := ml) (tn := tn) (R := R) (k := k) (by omega)) k_X4_cardAt ml_X4_47 rfl rfl dX4_wear_2 rfl rfl hl.1 (Nat.le_of_ble_eq_true rfl) ⟨Nat.le_of_ble_eq_true rfl, Nat.le_of_ble_eq_true rfl⟩ ⟨Nat.le_of_ble_eq_true rfl, Nat.le_of_ble_eq_true rfl⟩ (fun r W2 H locs hp G => ?_)
  obtain ⟨rfl, hw⟩ := hp
  have G := g_wc hw G
  refine W.eq (g2 := F0 m 5 ls [.ref (ad (10 + k))]) rfl ?_
  refine lv_astore (lv' := [(4, .ref (ad (10 + k))), (0, .ref (ad 0)), (1, .int (nI k)), (2, .int (nI i)), (3, .int (nI j))]) hx hb dX4_wear_5 hl (by decide) rfl (fun ls hl => ?_)
  refine lv_iload_n hx hb dX4_wear_7 rfl (lv_at hl 3 rfl) ?_
  refine lv_iload_n hx hb dX4_wear_8 rfl (lv_at hl 4 rfl) ?_
  refine g_callS (As := [.int (nI i), .int (nI j)]) (rest := []) C0 G (c_X4_requireCell l D cy (W1 := wC ad cy fr bk vw tk to fk fo kp sp lt ib rw cl nu tv tm ta ml tn R) (i := i) (j := j) (by omega) (by omega)) k_X4_requireCell ml_X4_123 dX4_wear_9 rfl rfl hl.1 (Nat.le_of_ble_eq_true rfl) ⟨Nat.le_of_ble_eq_true rfl, Nat.le_of_ble_eq_true rfl⟩ ⟨Nat.le_of_ble_eq_true rfl, Nat.le_of_ble_eq_true rfl⟩ (fun r W2 H locs hp G => ?_)
  obtain ⟨rfl, hw⟩ := hp
  have G := g_wc hw G
  refine W.eq (g2 := F0 m 12 ls []) rfl ?_
  have hvs : saU vw kp k < 4 := by rw [saU_lo hk]; exact hvw
  have hsc := scN_lt (v := vw k) hi hj
  refine lv_aload hx hb dX4_wear_12 (lv_at hl 0 rfl) ?_
  refine lv_iload_n hx hb dX4_wear_14 rfl (lv_at hl 3 rfl) ?_
  refine lv_iload_n hx hb dX4_wear_15 rfl (lv_at hl 4 rfl) ?_
  refine g_callVN (As := [.int (nI i), .int (nI j)]) (rest := []) (q0 := k + 9) C0 G (GE.at (i := k + 9) (wC_at (k := k) (by omega)) (fun R => (c_X0_seenCell l D cy (R := R) (h := ad (10 + k)) (f := fr k) (b := bk k) (v := vw k) (row := i) (col := j) (by omega) (by omega) (by omega)))) k_X0_seenCell nm_X4_127 (wC_at (k := k) (by omega)) rfl dX4_wear_16 rfl rfl hl.1 (Nat.le_of_ble_eq_true rfl) ⟨Nat.le_of_ble_eq_true rfl, Nat.le_of_ble_eq_true rfl⟩ ⟨Nat.le_of_ble_eq_true rfl, Nat.le_of_ble_eq_true rfl⟩ (fun r W2 H locs hp G => ?_)
  obtain ⟨rfl, hw⟩ := hp
  have G : gW D (wC ad cy fr bk vw tk to fk fo kp sp lt ib rw cl nu tv tm ta ml tn R) (va_A (wC ad cy fr bk vw tk to fk fo kp sp lt ib rw cl nu tv tm ta ml tn R) s.heap.size) s H locs := g_wc (hw.trans (wC_set (k := k) (by omega) (va_up_s _ _) (va_up_s _ _) (va_up_s _ _))) G
  refine W.eq (g2 := F0 m 19 ls [.int (nI (scN (vw k) i j))]) rfl ?_
  refine lv_istore (lv' := [(5, .int (nI (scN (vw k) i j))), (4, .ref (ad (10 + k))), (0, .ref (ad 0)), (1, .int (nI k)), (2, .int (nI i)), (3, .int (nI j))]) hx hb dX4_wear_19 hl (by decide) rfl (fun ls hl => ?_)
  refine lv_aload hx hb dX4_wear_21 (lv_at hl 1 rfl) ?_
  refine lv_aload hx hb dX4_wear_23 (lv_at hl 1 rfl) ?_
  refine g_callVN (As := []) (rest := [.ref (ad (10 + k))]) (q0 := k + 9) C0 G (GE.at (i := k + 9) (wC_at (k := k) (by omega)) (fun R => (c_X0_showsBack l D cy (R := R) (h := ad (10 + k)) (f := fr k) (b := bk k) (v := vw k)  (by omega)))) k_X0_showsBack nm_X4_130 (wC_at (k := k) (by omega)) rfl dX4_wear_25 rfl rfl hl.1 (Nat.le_of_ble_eq_true rfl) ⟨Nat.le_of_ble_eq_true rfl, Nat.le_of_ble_eq_true rfl⟩ ⟨Nat.le_of_ble_eq_true rfl, Nat.le_of_ble_eq_true rfl⟩ (fun r W2 H locs hp G => ?_)
  obtain ⟨rfl, hw⟩ := hp
  have G : gW D (wC ad cy fr bk vw tk to fk fo kp sp lt ib rw cl nu tv tm ta ml tn R) (va_A (wC ad cy fr bk vw tk to fk fo kp sp lt ib rw cl nu tv tm ta ml tn R) s.heap.size) s H locs := g_wc (hw.trans (wC_set (k := k) (by omega) (va_up_s _ _) (va_up_s _ _) (va_up_s _ _))) G
  refine W.eq (g2 := F0 m 28 ls [.int (bI (sbB (vw k))), .ref (ad (10 + k))]) rfl ?_
  refine lv_iload hx hb dX4_wear_28 (lv_at hl 0 rfl) ?_
  refine g_callVN (As := [.int (bI (sbB (vw k))), .int (nI (scN (vw k) i j))]) (rest := []) (q0 := k + 9) C0 G (GE.at (i := k + 9) (wC_at (k := k) (by omega)) (fun R => (c_X0_hasHole l D cy (R := R) (h := ad (10 + k)) (f := fr k) (b := bk k) (v := vw k) (ib := sbB (vw k)) (k := scN (vw k) i j) (by omega)))) k_X0_hasHole nm_X4_133 (wC_at (k := k) (by omega)) rfl dX4_wear_30 rfl rfl hl.1 (Nat.le_of_ble_eq_true rfl) ⟨Nat.le_of_ble_eq_true rfl, Nat.le_of_ble_eq_true rfl⟩ ⟨Nat.le_of_ble_eq_true rfl, Nat.le_of_ble_eq_true rfl⟩ (fun r W2 H locs hp G => ?_)
  obtain ⟨rfl, hw⟩ := hp
  have G : gW D (wC ad cy fr bk vw tk to fk fo kp sp lt ib rw cl nu tv tm ta ml tn R) (va_A (wC ad cy fr bk vw tk to fk fo kp sp lt ib rw cl nu tv tm ta ml tn R) s.heap.size) s H locs := g_wc (hw.trans (wC_set (k := k) (by omega) (va_up_s _ _) (va_up_s _ _) (va_up_s _ _))) G
  refine W.eq (g2 := F0 m 33 ls [.int (bI (hoB (fr k) (bk k) (sbB (vw k)) (scN (vw k) i j)))]) rfl ?_
  refine lv_if_eq (tgt := 46) hx hb dX4_wear_33 (by decide) (fun c_33 => ?_) (fun c_33 => ?_)
  · skip
    have c_33 : (hoB (fr k) (bk k) (sbB (vw k)) (scN (vw k) i j)) = false := bI_f c_33
    refine lv_aload_n hx hb dX4_wear_46 rfl (lv_at hl 2 rfl) ?_
    refine g_get (q0 := 0) (v := .ref (ad 4)) C0 G in_X4 rfl rfl 3 (by decide) fl_X4_29 (fun _ h => h) rfl dX4_wear_47 ?_
    refine lv_aload_n hx hb dX4_wear_50 rfl (lv_at hl 2 rfl) ?_
    refine g_get (q0 := 0) (v := .ref (ad 1)) C0 G in_X4 rfl rfl 0 (by decide) fl_X4_11 (fun _ h => h) rfl dX4_wear_51 ?_
    refine g_callVN (As := [.ref (ad 1)]) (rest := []) (q0 := 4) C0 G (c_X1_save l D cy (ad := ad) (fr := fr) (bk := bk) (vw := vw) (tk := tk) (to := to) (fk := fk) (fo := fo) (kp := kp) (sp := sp) (lt := lt) (ib := ib) (rw := rw) (cl := cl) (nu := nu) (tv := tv) (tm := tm) (ta := ta) (ml := ml) (tn := tn) (R := R)  (by omega)) k_X1_save nm_X4_71 rfl rfl dX4_wear_54 rfl rfl hl.1 (Nat.le_of_ble_eq_true rfl) ⟨Nat.le_of_ble_eq_true rfl, Nat.le_of_ble_eq_true rfl⟩ ⟨Nat.le_of_ble_eq_true rfl, Nat.le_of_ble_eq_true rfl⟩ (fun r W2 H locs hp G => ?_)
    obtain ⟨rfl, hw⟩ := hp
    have G := g_wc hw G
    refine W.eq (g2 := F0 m 57 ls []) rfl ?_
    refine lv_aload hx hb dX4_wear_57 (lv_at hl 1 rfl) ?_
    refine lv_aload hx hb dX4_wear_59 (lv_at hl 1 rfl) ?_
    refine g_callVN (As := []) (rest := [.ref (ad (10 + k))]) (q0 := k + 9) C0 G (GE.at (i := k + 9) (wC_at (k := k) (by omega)) (fun R => (c_X0_showsBack l D cy (R := R) (h := ad (10 + k)) (f := (saU fr kp) k) (b := (saU bk kp) k) (v := (saU vw kp) k)  (by omega)))) k_X0_showsBack nm_X4_130 (wC_at (k := k) (by omega)) rfl dX4_wear_61 rfl rfl hl.1 (Nat.le_of_ble_eq_true rfl) ⟨Nat.le_of_ble_eq_true rfl, Nat.le_of_ble_eq_true rfl⟩ ⟨Nat.le_of_ble_eq_true rfl, Nat.le_of_ble_eq_true rfl⟩ (fun r W2 H locs hp G => ?_)
    obtain ⟨rfl, hw⟩ := hp
    have G : gW D (wC ad cy (saU fr kp) (saU bk kp) (saU vw kp) tk to fk fo (saK kp) sp lt ib rw cl nu tv tm ta ml tn R) (va_A (wC ad cy fr bk vw tk to fk fo kp sp lt ib rw cl nu tv tm ta ml tn R) s.heap.size) s H locs := g_wc (hw.trans (wC_set (k := k) (by omega) (va_up_s _ _) (va_up_s _ _) (va_up_s _ _))) G
    refine W.eq (g2 := F0 m 64 ls [.int (bI (sbB ((saU vw kp) k))), .ref (ad (10 + k))]) rfl ?_
    refine lv_iload hx hb dX4_wear_64 (lv_at hl 0 rfl) ?_
    refine lv_iconst (v := 1) hx hb dX4_wear_66 (by decide) ?_
    refine g_callVN (As := [.int (bI (sbB ((saU vw kp) k))), .int (nI (scN (vw k) i j)), .int 1]) (rest := []) (q0 := k + 9) C0 G (GE.at (i := k + 9) (wC_at (k := k) (by omega)) (fun R => (c_X0_setHole l D cy (R := R) (h := ad (10 + k)) (f := (saU fr kp) k) (b := (saU bk kp) k) (v := (saU vw kp) k) (ib := sbB ((saU vw kp) k)) (k := scN (vw k) i j) (ho := true) (by omega)))) k_X0_setHole nm_X4_139 (wC_at (k := k) (by omega)) rfl dX4_wear_67 rfl rfl hl.1 (Nat.le_of_ble_eq_true rfl) ⟨Nat.le_of_ble_eq_true rfl, Nat.le_of_ble_eq_true rfl⟩ ⟨Nat.le_of_ble_eq_true rfl, Nat.le_of_ble_eq_true rfl⟩ (fun r W2 H locs hp G => ?_)
    obtain ⟨rfl, hw⟩ := hp
    have G : gW D (wC ad cy (va_up (saU fr kp) k (shF ((saU fr kp) k) (sbB ((saU vw kp) k)) (scN (vw k) i j) true)) (va_up (saU bk kp) k (shB ((saU bk kp) k) (sbB ((saU vw kp) k)) (scN (vw k) i j) true)) (saU vw kp) tk to fk fo (saK kp) sp lt ib rw cl nu tv tm ta ml tn R) (va_A (wC ad cy fr bk vw tk to fk fo kp sp lt ib rw cl nu tv tm ta ml tn R) s.heap.size) s H locs := g_wc (hw.trans (wC_set (k := k) (by omega) rfl rfl (va_up_s _ _))) G
    refine W.eq (g2 := F0 m 70 ls []) rfl ?_
    refine lv_aload hx hb dX4_wear_70 (lv_at hl 1 rfl) ?_
    refine lv_iload hx hb dX4_wear_72 (lv_at hl 0 rfl) ?_
    refine g_callVN (As := [.int (nI (scN (vw k) i j))]) (rest := []) (q0 := k + 9) C0 G (GE.at (i := k + 9) (wC_at (k := k) (by omega)) (fun R => (c_X0_kindAt l D cy (R := R) (h := ad (10 + k)) (f := (va_up (saU fr kp) k (shF ((saU fr kp) k) (sbB ((saU vw kp) k)) (scN (vw k) i j) true)) k) (b := (va_up (saU bk kp) k (shB ((saU bk kp) k) (sbB ((saU vw kp) k)) (scN (vw k) i j) true)) k) (v := (saU vw kp) k) (k := scN (vw k) i j) (by omega)))) k_X0_kindAt nm_X4_143 (wC_at (k := k) (by omega)) rfl dX4_wear_74 rfl rfl hl.1 (Nat.le_of_ble_eq_true rfl) ⟨Nat.le_of_ble_eq_true rfl, Nat.le_of_ble_eq_true rfl⟩ ⟨Nat.le_of_ble_eq_true rfl, Nat.le_of_ble_eq_true rfl⟩ (fun r W2 H locs hp G => ?_)
    obtain ⟨rfl, hw⟩ := hp
    have G : gW D (wC ad cy (va_up (saU fr kp) k (shF ((saU fr kp) k) (sbB ((saU vw kp) k)) (scN (vw k) i j) true)) (va_up (saU bk kp) k (shB ((saU bk kp) k) (sbB ((saU vw kp) k)) (scN (vw k) i j) true)) (saU vw kp) tk to fk fo (saK kp) sp lt ib rw cl nu tv tm ta ml tn R) (va_A (wC ad cy fr bk vw tk to fk fo kp sp lt ib rw cl nu tv tm ta ml tn R) s.heap.size) s H locs := g_wc (hw.trans (wC_set (k := k) (by omega) (va_up_s _ _) (va_up_s _ _) (va_up_s _ _))) G
    refine W.eq (g2 := F0 m 77 ls [.int (kdI ((va_up (saU fr kp) k (shF ((saU fr kp) k) (sbB ((saU vw kp) k)) (scN (vw k) i j) true)) k) ((va_up (saU bk kp) k (shB ((saU bk kp) k) (sbB ((saU vw kp) k)) (scN (vw k) i j) true)) k) (scN (vw k) i j))]) rfl ?_
    exact g_iret C0 G ⟨by first | rfl | (exfalso; omega) | (simp only [c_33, Bool.false_eq_true, ↓reduceIte, eq_self, decide_true, decide_false, not_true_eq_false, not_false_eq_true, Bool.true_and, Bool.false_and, Bool.and_true, Bool.and_false]; done) | (simp [c_33]; done) | (simp [c_33]; rfl) | (simp [c_33]; omega), by first | rfl | (exfalso; omega) | (simp only [c_33, Bool.false_eq_true, ↓reduceIte, eq_self, decide_true, decide_false, not_true_eq_false, not_false_eq_true, Bool.true_and, Bool.false_and, Bool.and_true, Bool.and_false]; done) | (simp [c_33]; done) | (simp [c_33]; rfl) | (simp [c_33]; omega)⟩ dX4_wear_77
  · skip
    have c_33 : (hoB (fr k) (bk k) (sbB (vw k)) (scN (vw k) i j)) = true := bI_t c_33
    exact absurd (hho.symm.trans c_33) (by decide)

set_option maxHeartbeats 4000000 in
set_option maxRecDepth 100000 in
theorem c_X4_lose (l : Launch) (D : va_G) (cy : Nat → ClassId) (ad : Nat → Nat) (fr : Nat → Int64) (bk : Nat → Int64) (vw : Nat → Nat) (tk : Int64) (to : Int64) (fk : Int64) (fo : Int64) (kp : Nat) (sp : Nat) (lt : Nat) (ib : Bool) (rw : Nat) (cl : Nat) (nu : Nat) (tv : Nat) (tm : Nat) (ta : Nat → Int32) (ml : Int32) (tn : Nat) (R : va_W) (k : Nat) (i : Nat) (j : Nat) (hk : k < 3) (hi : i < 8) (hj : j < 8) (hkp : kp ≤ 6) (hvw : vw k < 4) (hho : hoB (fr k) (bk k) (sbB (vw k)) (scN (vw k) i j) = true) : GE l D (gts cy) yX4_lose cX4_lose 6 (some .int) 3 0 0 [.ref (ad 0), .int (nI k), .int (nI i), .int (nI j)] (wC ad cy fr bk vw tk to fk fo kp sp lt ib rw cl nu tv tm ta ml tn R) (gF (some (.int (kdI ((va_up (saU fr kp) k (shF ((saU fr kp) k) (sbB ((saU vw kp) k)) (scN (vw k) i j) false)) k) ((va_up (saU bk kp) k (shB ((saU bk kp) k) (sbB ((saU vw kp) k)) (scN (vw k) i j) false)) k) (scN (vw k) i j)))) (wC ad cy (va_up (saU fr kp) k (shF ((saU fr kp) k) (sbB ((saU vw kp) k)) (scN (vw k) i j) false)) (va_up (saU bk kp) k (shB ((saU bk kp) k) (sbB ((saU vw kp) k)) (scN (vw k) i j) false)) (saU vw kp) tk to fk fo (saK kp) sp lt ib rw cl nu tv tm ta ml tn R)) := by
  refine g_intro (by decide +kernel) (lv := [(0, .ref (ad 0)), (1, .int (nI k)), (2, .int (nI i)), (3, .int (nI j))]) rfl (Nat.le_of_ble_eq_true rfl) ?_
  intro p e s m below meth c C0 G ls hl
  have hx := C0.1
  have hb := C0.2.1
  have hown := C0.2.2.2.2.2.1
  have hts := C0.2.2.2.2.2.2.1
  refine lv_aload_n hx hb dX4_lose_0 rfl (lv_at hl 0 rfl) ?_
  refine lv_iload_n hx hb dX4_lose_1 rfl (lv_at hl 1 rfl) ?_
  refine g_callV (As := [.int (nI k)]) (rest := []) (q0 := 0) C0 G (c_X4_cardAt l D cy (ad := ad) (fr := fr) (bk := bk) (vw := vw) (tk := tk) (to := to) (fk := fk) (fo := fo) (kp := kp) (sp := sp) (lt := lt) (ib := ib) (rw := rw) (cl := cl) (nu := nu) (tv := tv) (tm := tm) (ta := ta) (ml := ml) (tn := tn) (R := R) (k := k) (by omega)) k_X4_cardAt ml_X4_47 rfl rfl dX4_lose_2 rfl rfl hl.1 (Nat.le_of_ble_eq_true rfl) ⟨Nat.le_of_ble_eq_true rfl, Nat.le_of_ble_eq_true rfl⟩ ⟨Nat.le_of_ble_eq_true rfl, Nat.le_of_ble_eq_true rfl⟩ (fun r W2 H locs hp G => ?_)
  obtain ⟨rfl, hw⟩ := hp
  have G := g_wc hw G
  refine W.eq (g2 := F0 m 5 ls [.ref (ad (10 + k))]) rfl ?_
  refine lv_astore (lv' := [(4, .ref (ad (10 + k))), (0, .ref (ad 0)), (1, .int (nI k)), (2, .int (nI i)), (3, .int (nI j))]) hx hb dX4_lose_5 hl (by decide) rfl (fun ls hl => ?_)
  refine lv_iload_n hx hb dX4_lose_7 rfl (lv_at hl 3 rfl) ?_
  refine lv_iload_n hx hb dX4_lose_8 rfl (lv_at hl 4 rfl) ?_
  refine g_callS (As := [.int (nI i), .int (nI j)]) (rest := []) C0 G (c_X4_requireCell l D cy (W1 := wC ad cy fr bk vw tk to fk fo kp sp lt ib rw cl nu tv tm ta ml tn R) (i := i) (j := j) (by omega) (by omega)) k_X4_requireCell ml_X4_123 dX4_lose_9 rfl rfl hl.1 (Nat.le_of_ble_eq_true rfl) ⟨Nat.le_of_ble_eq_true rfl, Nat.le_of_ble_eq_true rfl⟩ ⟨Nat.le_of_ble_eq_true rfl, Nat.le_of_ble_eq_true rfl⟩ (fun r W2 H locs hp G => ?_)
  obtain ⟨rfl, hw⟩ := hp
  have G := g_wc hw G
  refine W.eq (g2 := F0 m 12 ls []) rfl ?_
  have hvs : saU vw kp k < 4 := by rw [saU_lo hk]; exact hvw
  have hsc := scN_lt (v := vw k) hi hj
  refine lv_aload hx hb dX4_lose_12 (lv_at hl 0 rfl) ?_
  refine lv_iload_n hx hb dX4_lose_14 rfl (lv_at hl 3 rfl) ?_
  refine lv_iload_n hx hb dX4_lose_15 rfl (lv_at hl 4 rfl) ?_
  refine g_callVN (As := [.int (nI i), .int (nI j)]) (rest := []) (q0 := k + 9) C0 G (GE.at (i := k + 9) (wC_at (k := k) (by omega)) (fun R => (c_X0_seenCell l D cy (R := R) (h := ad (10 + k)) (f := fr k) (b := bk k) (v := vw k) (row := i) (col := j) (by omega) (by omega) (by omega)))) k_X0_seenCell nm_X4_127 (wC_at (k := k) (by omega)) rfl dX4_lose_16 rfl rfl hl.1 (Nat.le_of_ble_eq_true rfl) ⟨Nat.le_of_ble_eq_true rfl, Nat.le_of_ble_eq_true rfl⟩ ⟨Nat.le_of_ble_eq_true rfl, Nat.le_of_ble_eq_true rfl⟩ (fun r W2 H locs hp G => ?_)
  obtain ⟨rfl, hw⟩ := hp
  have G : gW D (wC ad cy fr bk vw tk to fk fo kp sp lt ib rw cl nu tv tm ta ml tn R) (va_A (wC ad cy fr bk vw tk to fk fo kp sp lt ib rw cl nu tv tm ta ml tn R) s.heap.size) s H locs := g_wc (hw.trans (wC_set (k := k) (by omega) (va_up_s _ _) (va_up_s _ _) (va_up_s _ _))) G
  refine W.eq (g2 := F0 m 19 ls [.int (nI (scN (vw k) i j))]) rfl ?_
  refine lv_istore (lv' := [(5, .int (nI (scN (vw k) i j))), (4, .ref (ad (10 + k))), (0, .ref (ad 0)), (1, .int (nI k)), (2, .int (nI i)), (3, .int (nI j))]) hx hb dX4_lose_19 hl (by decide) rfl (fun ls hl => ?_)
  refine lv_aload hx hb dX4_lose_21 (lv_at hl 1 rfl) ?_
  refine lv_aload hx hb dX4_lose_23 (lv_at hl 1 rfl) ?_
  refine g_callVN (As := []) (rest := [.ref (ad (10 + k))]) (q0 := k + 9) C0 G (GE.at (i := k + 9) (wC_at (k := k) (by omega)) (fun R => (c_X0_showsBack l D cy (R := R) (h := ad (10 + k)) (f := fr k) (b := bk k) (v := vw k)  (by omega)))) k_X0_showsBack nm_X4_130 (wC_at (k := k) (by omega)) rfl dX4_lose_25 rfl rfl hl.1 (Nat.le_of_ble_eq_true rfl) ⟨Nat.le_of_ble_eq_true rfl, Nat.le_of_ble_eq_true rfl⟩ ⟨Nat.le_of_ble_eq_true rfl, Nat.le_of_ble_eq_true rfl⟩ (fun r W2 H locs hp G => ?_)
  obtain ⟨rfl, hw⟩ := hp
  have G : gW D (wC ad cy fr bk vw tk to fk fo kp sp lt ib rw cl nu tv tm ta ml tn R) (va_A (wC ad cy fr bk vw tk to fk fo kp sp lt ib rw cl nu tv tm ta ml tn R) s.heap.size) s H locs := g_wc (hw.trans (wC_set (k := k) (by omega) (va_up_s _ _) (va_up_s _ _) (va_up_s _ _))) G
  refine W.eq (g2 := F0 m 28 ls [.int (bI (sbB (vw k))), .ref (ad (10 + k))]) rfl ?_
  refine lv_iload hx hb dX4_lose_28 (lv_at hl 0 rfl) ?_
  refine g_callVN (As := [.int (bI (sbB (vw k))), .int (nI (scN (vw k) i j))]) (rest := []) (q0 := k + 9) C0 G (GE.at (i := k + 9) (wC_at (k := k) (by omega)) (fun R => (c_X0_hasHole l D cy (R := R) (h := ad (10 + k)) (f := fr k) (b := bk k) (v := vw k) (ib := sbB (vw k)) (k := scN (vw k) i j) (by omega)))) k_X0_hasHole nm_X4_133 (wC_at (k := k) (by omega)) rfl dX4_lose_30 rfl rfl hl.1 (Nat.le_of_ble_eq_true rfl) ⟨Nat.le_of_ble_eq_true rfl, Nat.le_of_ble_eq_true rfl⟩ ⟨Nat.le_of_ble_eq_true rfl, Nat.le_of_ble_eq_true rfl⟩ (fun r W2 H locs hp G => ?_)
  obtain ⟨rfl, hw⟩ := hp
  have G : gW D (wC ad cy fr bk vw tk to fk fo kp sp lt ib rw cl nu tv tm ta ml tn R) (va_A (wC ad cy fr bk vw tk to fk fo kp sp lt ib rw cl nu tv tm ta ml tn R) s.heap.size) s H locs := g_wc (hw.trans (wC_set (k := k) (by omega) (va_up_s _ _) (va_up_s _ _) (va_up_s _ _))) G
  refine W.eq (g2 := F0 m 33 ls [.int (bI (hoB (fr k) (bk k) (sbB (vw k)) (scN (vw k) i j)))]) rfl ?_
  refine lv_if_ne (tgt := 46) hx hb dX4_lose_33 (by decide) (fun c_33 => ?_) (fun c_33 => ?_)
  · skip
    have c_33 : (hoB (fr k) (bk k) (sbB (vw k)) (scN (vw k) i j)) = true := bI_t c_33
    refine lv_aload_n hx hb dX4_lose_46 rfl (lv_at hl 2 rfl) ?_
    refine g_get (q0 := 0) (v := .ref (ad 4)) C0 G in_X4 rfl rfl 3 (by decide) fl_X4_29 (fun _ h => h) rfl dX4_lose_47 ?_
    refine lv_aload_n hx hb dX4_lose_50 rfl (lv_at hl 2 rfl) ?_
    refine g_get (q0 := 0) (v := .ref (ad 1)) C0 G in_X4 rfl rfl 0 (by decide) fl_X4_11 (fun _ h => h) rfl dX4_lose_51 ?_
    refine g_callVN (As := [.ref (ad 1)]) (rest := []) (q0 := 4) C0 G (c_X1_save l D cy (ad := ad) (fr := fr) (bk := bk) (vw := vw) (tk := tk) (to := to) (fk := fk) (fo := fo) (kp := kp) (sp := sp) (lt := lt) (ib := ib) (rw := rw) (cl := cl) (nu := nu) (tv := tv) (tm := tm) (ta := ta) (ml := ml) (tn := tn) (R := R)  (by omega)) k_X1_save nm_X4_71 rfl rfl dX4_lose_54 rfl rfl hl.1 (Nat.le_of_ble_eq_true rfl) ⟨Nat.le_of_ble_eq_true rfl, Nat.le_of_ble_eq_true rfl⟩ ⟨Nat.le_of_ble_eq_true rfl, Nat.le_of_ble_eq_true rfl⟩ (fun r W2 H locs hp G => ?_)
    obtain ⟨rfl, hw⟩ := hp
    have G := g_wc hw G
    refine W.eq (g2 := F0 m 57 ls []) rfl ?_
    refine lv_aload hx hb dX4_lose_57 (lv_at hl 1 rfl) ?_
    refine lv_aload hx hb dX4_lose_59 (lv_at hl 1 rfl) ?_
    refine g_callVN (As := []) (rest := [.ref (ad (10 + k))]) (q0 := k + 9) C0 G (GE.at (i := k + 9) (wC_at (k := k) (by omega)) (fun R => (c_X0_showsBack l D cy (R := R) (h := ad (10 + k)) (f := (saU fr kp) k) (b := (saU bk kp) k) (v := (saU vw kp) k)  (by omega)))) k_X0_showsBack nm_X4_130 (wC_at (k := k) (by omega)) rfl dX4_lose_61 rfl rfl hl.1 (Nat.le_of_ble_eq_true rfl) ⟨Nat.le_of_ble_eq_true rfl, Nat.le_of_ble_eq_true rfl⟩ ⟨Nat.le_of_ble_eq_true rfl, Nat.le_of_ble_eq_true rfl⟩ (fun r W2 H locs hp G => ?_)
    obtain ⟨rfl, hw⟩ := hp
    have G : gW D (wC ad cy (saU fr kp) (saU bk kp) (saU vw kp) tk to fk fo (saK kp) sp lt ib rw cl nu tv tm ta ml tn R) (va_A (wC ad cy fr bk vw tk to fk fo kp sp lt ib rw cl nu tv tm ta ml tn R) s.heap.size) s H locs := g_wc (hw.trans (wC_set (k := k) (by omega) (va_up_s _ _) (va_up_s _ _) (va_up_s _ _))) G
    refine W.eq (g2 := F0 m 64 ls [.int (bI (sbB ((saU vw kp) k))), .ref (ad (10 + k))]) rfl ?_
    refine lv_iload hx hb dX4_lose_64 (lv_at hl 0 rfl) ?_
    refine lv_iconst (v := 0) hx hb dX4_lose_66 (by decide) ?_
    refine g_callVN (As := [.int (bI (sbB ((saU vw kp) k))), .int (nI (scN (vw k) i j)), .int 0]) (rest := []) (q0 := k + 9) C0 G (GE.at (i := k + 9) (wC_at (k := k) (by omega)) (fun R => (c_X0_setHole l D cy (R := R) (h := ad (10 + k)) (f := (saU fr kp) k) (b := (saU bk kp) k) (v := (saU vw kp) k) (ib := sbB ((saU vw kp) k)) (k := scN (vw k) i j) (ho := false) (by omega)))) k_X0_setHole nm_X4_139 (wC_at (k := k) (by omega)) rfl dX4_lose_67 rfl rfl hl.1 (Nat.le_of_ble_eq_true rfl) ⟨Nat.le_of_ble_eq_true rfl, Nat.le_of_ble_eq_true rfl⟩ ⟨Nat.le_of_ble_eq_true rfl, Nat.le_of_ble_eq_true rfl⟩ (fun r W2 H locs hp G => ?_)
    obtain ⟨rfl, hw⟩ := hp
    have G : gW D (wC ad cy (va_up (saU fr kp) k (shF ((saU fr kp) k) (sbB ((saU vw kp) k)) (scN (vw k) i j) false)) (va_up (saU bk kp) k (shB ((saU bk kp) k) (sbB ((saU vw kp) k)) (scN (vw k) i j) false)) (saU vw kp) tk to fk fo (saK kp) sp lt ib rw cl nu tv tm ta ml tn R) (va_A (wC ad cy fr bk vw tk to fk fo kp sp lt ib rw cl nu tv tm ta ml tn R) s.heap.size) s H locs := g_wc (hw.trans (wC_set (k := k) (by omega) rfl rfl (va_up_s _ _))) G
    refine W.eq (g2 := F0 m 70 ls []) rfl ?_
    refine lv_aload hx hb dX4_lose_70 (lv_at hl 1 rfl) ?_
    refine lv_iload hx hb dX4_lose_72 (lv_at hl 0 rfl) ?_
    refine g_callVN (As := [.int (nI (scN (vw k) i j))]) (rest := []) (q0 := k + 9) C0 G (GE.at (i := k + 9) (wC_at (k := k) (by omega)) (fun R => (c_X0_kindAt l D cy (R := R) (h := ad (10 + k)) (f := (va_up (saU fr kp) k (shF ((saU fr kp) k) (sbB ((saU vw kp) k)) (scN (vw k) i j) false)) k) (b := (va_up (saU bk kp) k (shB ((saU bk kp) k) (sbB ((saU vw kp) k)) (scN (vw k) i j) false)) k) (v := (saU vw kp) k) (k := scN (vw k) i j) (by omega)))) k_X0_kindAt nm_X4_143 (wC_at (k := k) (by omega)) rfl dX4_lose_74 rfl rfl hl.1 (Nat.le_of_ble_eq_true rfl) ⟨Nat.le_of_ble_eq_true rfl, Nat.le_of_ble_eq_true rfl⟩ ⟨Nat.le_of_ble_eq_true rfl, Nat.le_of_ble_eq_true rfl⟩ (fun r W2 H locs hp G => ?_)
    obtain ⟨rfl, hw⟩ := hp
    have G : gW D (wC ad cy (va_up (saU fr kp) k (shF ((saU fr kp) k) (sbB ((saU vw kp) k)) (scN (vw k) i j) false)) (va_up (saU bk kp) k (shB ((saU bk kp) k) (sbB ((saU vw kp) k)) (scN (vw k) i j) false)) (saU vw kp) tk to fk fo (saK kp) sp lt ib rw cl nu tv tm ta ml tn R) (va_A (wC ad cy fr bk vw tk to fk fo kp sp lt ib rw cl nu tv tm ta ml tn R) s.heap.size) s H locs := g_wc (hw.trans (wC_set (k := k) (by omega) (va_up_s _ _) (va_up_s _ _) (va_up_s _ _))) G
    refine W.eq (g2 := F0 m 77 ls [.int (kdI ((va_up (saU fr kp) k (shF ((saU fr kp) k) (sbB ((saU vw kp) k)) (scN (vw k) i j) false)) k) ((va_up (saU bk kp) k (shB ((saU bk kp) k) (sbB ((saU vw kp) k)) (scN (vw k) i j) false)) k) (scN (vw k) i j))]) rfl ?_
    exact g_iret C0 G ⟨by first | rfl | (exfalso; omega) | (simp only [c_33, Bool.false_eq_true, ↓reduceIte, eq_self, decide_true, decide_false, not_true_eq_false, not_false_eq_true, Bool.true_and, Bool.false_and, Bool.and_true, Bool.and_false]; done) | (simp [c_33]; done) | (simp [c_33]; rfl) | (simp [c_33]; omega), by first | rfl | (exfalso; omega) | (simp only [c_33, Bool.false_eq_true, ↓reduceIte, eq_self, decide_true, decide_false, not_true_eq_false, not_false_eq_true, Bool.true_and, Bool.false_and, Bool.and_true, Bool.and_false]; done) | (simp [c_33]; done) | (simp [c_33]; rfl) | (simp [c_33]; omega)⟩ dX4_lose_77
  · skip
    have c_33 : (hoB (fr k) (bk k) (sbB (vw k)) (scN (vw k) i j)) = false := bI_f c_33
    exact absurd (hho.symm.trans c_33) (by decide)

set_option maxHeartbeats 4000000 in
set_option maxRecDepth 100000 in
theorem c_X4_turn (l : Launch) (D : va_G) (cy : Nat → ClassId) (ad : Nat → Nat) (fr : Nat → Int64) (bk : Nat → Int64) (vw : Nat → Nat) (tk : Int64) (to : Int64) (fk : Int64) (fo : Int64) (kp : Nat) (sp : Nat) (lt : Nat) (ib : Bool) (rw : Nat) (cl : Nat) (nu : Nat) (tv : Nat) (tm : Nat) (ta : Nat → Int32) (ml : Int32) (tn : Nat) (R : va_W) (k : Nat) (v : Nat) (hk : k < 3) (hv : v < 4) (hkp : kp ≤ 6) : GE l D (gts cy) yX4_turn cX4_turn 5 (some .int) 3 0 0 [.ref (ad 0), .int (nI k), .int (nI v)] (wC ad cy fr bk vw tk to fk fo kp sp lt ib rw cl nu tv tm ta ml tn R) (gF (some (.int (nI ((saU vw kp) k)))) (wC ad cy (saU fr kp) (saU bk kp) (va_up (saU vw kp) k v) tk to fk fo (saK kp) sp lt ib rw cl nu tv tm ta ml tn R)) := by
  refine g_intro (by decide +kernel) (lv := [(0, .ref (ad 0)), (1, .int (nI k)), (2, .int (nI v))]) rfl (Nat.le_of_ble_eq_true rfl) ?_
  intro p e s m below meth c C0 G ls hl
  have hx := C0.1
  have hb := C0.2.1
  have hown := C0.2.2.2.2.2.1
  have hts := C0.2.2.2.2.2.2.1
  refine lv_aload_n hx hb dX4_turn_0 rfl (lv_at hl 0 rfl) ?_
  refine lv_iload_n hx hb dX4_turn_1 rfl (lv_at hl 1 rfl) ?_
  refine g_callV (As := [.int (nI k)]) (rest := []) (q0 := 0) C0 G (c_X4_cardAt l D cy (ad := ad) (fr := fr) (bk := bk) (vw := vw) (tk := tk) (to := to) (fk := fk) (fo := fo) (kp := kp) (sp := sp) (lt := lt) (ib := ib) (rw := rw) (cl := cl) (nu := nu) (tv := tv) (tm := tm) (ta := ta) (ml := ml) (tn := tn) (R := R) (k := k) (by omega)) k_X4_cardAt ml_X4_47 rfl rfl dX4_turn_2 rfl rfl hl.1 (Nat.le_of_ble_eq_true rfl) ⟨Nat.le_of_ble_eq_true rfl, Nat.le_of_ble_eq_true rfl⟩ ⟨Nat.le_of_ble_eq_true rfl, Nat.le_of_ble_eq_true rfl⟩ (fun r W2 H locs hp G => ?_)
  obtain ⟨rfl, hw⟩ := hp
  have G := g_wc hw G
  refine W.eq (g2 := F0 m 5 ls [.ref (ad (10 + k))]) rfl ?_
  refine lv_astore_n (lv' := [(3, .ref (ad (10 + k))), (0, .ref (ad 0)), (1, .int (nI k)), (2, .int (nI v))]) hx hb dX4_turn_5 rfl hl (by decide) rfl (fun ls hl => ?_)
  refine lv_iload_n hx hb dX4_turn_6 rfl (lv_at hl 3 rfl) ?_
  refine lv_if_lt (tgt := 15) hx hb dX4_turn_7 (by decide) (fun c_7 => ?_) (fun c_7 => ?_)
  · skip
    have c_7 : v < 0 := (nI_ltI (a := v) (b := 0) (by omega) (by omega)).mp c_7
    exact absurd c_7 (by omega)
  · skip
    have c_7 : ¬ (v < 0) := fun h => c_7 ((nI_ltI (a := v) (b := 0) (by omega) (by omega)).mpr h)
    refine lv_iload_n hx hb dX4_turn_10 rfl (lv_at hl 3 rfl) ?_
    refine lv_iconst (v := 4) hx hb dX4_turn_11 (by decide) ?_
    refine lv_icmp_lt (tgt := 25) hx hb dX4_turn_12 (by decide) (fun c_12 => ?_) (fun c_12 => ?_)
    · skip
      have c_12 : v < 4 := (nI_ltI (a := v) (b := 4) (by omega) (by omega)).mp c_12
      refine lv_aload_n hx hb dX4_turn_25 rfl (lv_at hl 1 rfl) ?_
      refine g_get (q0 := 0) (v := .ref (ad 4)) C0 G in_X4 rfl rfl 3 (by decide) fl_X4_29 (fun _ h => h) rfl dX4_turn_26 ?_
      refine lv_aload_n hx hb dX4_turn_29 rfl (lv_at hl 1 rfl) ?_
      refine g_get (q0 := 0) (v := .ref (ad 1)) C0 G in_X4 rfl rfl 0 (by decide) fl_X4_11 (fun _ h => h) rfl dX4_turn_30 ?_
      refine g_callVN (As := [.ref (ad 1)]) (rest := []) (q0 := 4) C0 G (c_X1_save l D cy (ad := ad) (fr := fr) (bk := bk) (vw := vw) (tk := tk) (to := to) (fk := fk) (fo := fo) (kp := kp) (sp := sp) (lt := lt) (ib := ib) (rw := rw) (cl := cl) (nu := nu) (tv := tv) (tm := tm) (ta := ta) (ml := ml) (tn := tn) (R := R)  (by omega)) k_X1_save nm_X4_71 rfl rfl dX4_turn_33 rfl rfl hl.1 (Nat.le_of_ble_eq_true rfl) ⟨Nat.le_of_ble_eq_true rfl, Nat.le_of_ble_eq_true rfl⟩ ⟨Nat.le_of_ble_eq_true rfl, Nat.le_of_ble_eq_true rfl⟩ (fun r W2 H locs hp G => ?_)
      obtain ⟨rfl, hw⟩ := hp
      have G := g_wc hw G
      refine W.eq (g2 := F0 m 36 ls []) rfl ?_
      refine lv_aload_n hx hb dX4_turn_36 rfl (lv_at hl 0 rfl) ?_
      refine g_getN (q0 := k + 9) (v := .int (nI ((saU vw kp) k))) C0 G in_X0 (wC_at (k := k) (by omega)) rfl 2 (by decide) nf_X4_151 (fun _ h => h) rfl dX4_turn_37 ?_
      refine lv_istore (lv' := [(4, .int (nI ((saU vw kp) k))), (3, .ref (ad (10 + k))), (0, .ref (ad 0)), (1, .int (nI k)), (2, .int (nI v))]) hx hb dX4_turn_40 hl (by decide) rfl (fun ls hl => ?_)
      refine lv_aload_n hx hb dX4_turn_42 rfl (lv_at hl 1 rfl) ?_
      refine lv_iload_n hx hb dX4_turn_43 rfl (lv_at hl 4 rfl) ?_
      refine g_putN (q0 := k + 9) (W2 := wC ad cy (saU fr kp) (saU bk kp) (va_up (saU vw kp) k v) tk to fk fo (saK kp) sp lt ib rw cl nu tv tm ta ml tn R) C0 G ft_X0 in_X0 (wC_at (k := k) (by omega)) rfl 2 (by decide) nf_X4_151 (fun _ h => h) rfl rfl rfl (Nat.le_of_ble_eq_true rfl) (wC_set (k := k) (by omega) (va_up_s _ _) (va_up_s _ _) rfl) dX4_turn_44 (fun H locs G => ?_)
      refine lv_iload hx hb dX4_turn_47 (lv_at hl 0 rfl) ?_
      exact g_iret C0 G ⟨by first | rfl | (exfalso; omega) | (simp only [c_7, c_12, Bool.false_eq_true, ↓reduceIte, eq_self, decide_true, decide_false, not_true_eq_false, not_false_eq_true, Bool.true_and, Bool.false_and, Bool.and_true, Bool.and_false]; done) | (simp [c_7, c_12]; done) | (simp [c_7, c_12]; rfl) | (simp [c_7, c_12]; omega), by first | rfl | (exfalso; omega) | (simp only [c_7, c_12, Bool.false_eq_true, ↓reduceIte, eq_self, decide_true, decide_false, not_true_eq_false, not_false_eq_true, Bool.true_and, Bool.false_and, Bool.and_true, Bool.and_false]; done) | (simp [c_7, c_12]; done) | (simp [c_7, c_12]; rfl) | (simp [c_7, c_12]; omega)⟩ dX4_turn_49
    · skip
      have c_12 : ¬ (v < 4) := fun h => c_12 ((nI_ltI (a := v) (b := 4) (by omega) (by omega)).mpr h)
      exact absurd c_12 (by omega)

set_option maxHeartbeats 4000000 in
set_option maxRecDepth 100000 in
theorem c_X4_sees (l : Launch) (D : va_G) (cy : Nat → ClassId) (ad : Nat → Nat) (fr : Nat → Int64) (bk : Nat → Int64) (vw : Nat → Nat) (tk : Int64) (to : Int64) (fk : Int64) (fo : Int64) (kp : Nat) (sp : Nat) (lt : Nat) (ib : Bool) (rw : Nat) (cl : Nat) (nu : Nat) (tv : Nat) (tm : Nat) (ta : Nat → Int32) (ml : Int32) (tn : Nat) (R : va_W) (k : Nat) (i : Nat) (j : Nat) (hk : k < 3) (hi : i < 8) (hj : j < 8) (hvw : vw k < 4) : GE l D (gts cy) yX4_sees cX4_sees 5 (some .boolean) 3 0 0 [.ref (ad 0), .int (nI k), .int (nI i), .int (nI j)] (wC ad cy fr bk vw tk to fk fo kp sp lt ib rw cl nu tv tm ta ml tn R) (gF (some (.int (bI (shB1 (fr k) (bk k) (vw k) i j)))) (wC ad cy fr bk vw tk to fk fo kp sp lt ib rw cl nu tv tm ta ml tn R)) := by
  refine g_intro (by decide +kernel) (lv := [(0, .ref (ad 0)), (1, .int (nI k)), (2, .int (nI i)), (3, .int (nI j))]) rfl (Nat.le_of_ble_eq_true rfl) ?_
  intro p e s m below meth c C0 G ls hl
  have hx := C0.1
  have hb := C0.2.1
  have hown := C0.2.2.2.2.2.1
  have hts := C0.2.2.2.2.2.2.1
  refine lv_aload_n hx hb dX4_sees_0 rfl (lv_at hl 0 rfl) ?_
  refine lv_iload_n hx hb dX4_sees_1 rfl (lv_at hl 1 rfl) ?_
  refine g_callV (As := [.int (nI k)]) (rest := []) (q0 := 0) C0 G (c_X4_cardAt l D cy (ad := ad) (fr := fr) (bk := bk) (vw := vw) (tk := tk) (to := to) (fk := fk) (fo := fo) (kp := kp) (sp := sp) (lt := lt) (ib := ib) (rw := rw) (cl := cl) (nu := nu) (tv := tv) (tm := tm) (ta := ta) (ml := ml) (tn := tn) (R := R) (k := k) (by omega)) k_X4_cardAt ml_X4_47 rfl rfl dX4_sees_2 rfl rfl hl.1 (Nat.le_of_ble_eq_true rfl) ⟨Nat.le_of_ble_eq_true rfl, Nat.le_of_ble_eq_true rfl⟩ ⟨Nat.le_of_ble_eq_true rfl, Nat.le_of_ble_eq_true rfl⟩ (fun r W2 H locs hp G => ?_)
  obtain ⟨rfl, hw⟩ := hp
  have G := g_wc hw G
  refine W.eq (g2 := F0 m 5 ls [.ref (ad (10 + k))]) rfl ?_
  refine lv_astore (lv' := [(4, .ref (ad (10 + k))), (0, .ref (ad 0)), (1, .int (nI k)), (2, .int (nI i)), (3, .int (nI j))]) hx hb dX4_sees_5 hl (by decide) rfl (fun ls hl => ?_)
  refine lv_iload_n hx hb dX4_sees_7 rfl (lv_at hl 3 rfl) ?_
  refine lv_iload_n hx hb dX4_sees_8 rfl (lv_at hl 4 rfl) ?_
  refine g_callS (As := [.int (nI i), .int (nI j)]) (rest := []) C0 G (c_X4_requireCell l D cy (W1 := wC ad cy fr bk vw tk to fk fo kp sp lt ib rw cl nu tv tm ta ml tn R) (i := i) (j := j) (by omega) (by omega)) k_X4_requireCell ml_X4_123 dX4_sees_9 rfl rfl hl.1 (Nat.le_of_ble_eq_true rfl) ⟨Nat.le_of_ble_eq_true rfl, Nat.le_of_ble_eq_true rfl⟩ ⟨Nat.le_of_ble_eq_true rfl, Nat.le_of_ble_eq_true rfl⟩ (fun r W2 H locs hp G => ?_)
  obtain ⟨rfl, hw⟩ := hp
  have G := g_wc hw G
  refine W.eq (g2 := F0 m 12 ls []) rfl ?_
  refine lv_aload hx hb dX4_sees_12 (lv_at hl 0 rfl) ?_
  refine lv_iload_n hx hb dX4_sees_14 rfl (lv_at hl 3 rfl) ?_
  refine lv_iload_n hx hb dX4_sees_15 rfl (lv_at hl 4 rfl) ?_
  refine g_callVN (As := [.int (nI i), .int (nI j)]) (rest := []) (q0 := k + 9) C0 G (GE.at (i := k + 9) (wC_at (k := k) (by omega)) (fun R => (c_X0_showsHole l D cy (R := R) (h := ad (10 + k)) (f := fr k) (b := bk k) (v := vw k) (row := i) (col := j) (by omega) (by omega) (by omega)))) k_X0_showsHole nm_X4_155 (wC_at (k := k) (by omega)) rfl dX4_sees_16 rfl rfl hl.1 (Nat.le_of_ble_eq_true rfl) ⟨Nat.le_of_ble_eq_true rfl, Nat.le_of_ble_eq_true rfl⟩ ⟨Nat.le_of_ble_eq_true rfl, Nat.le_of_ble_eq_true rfl⟩ (fun r W2 H locs hp G => ?_)
  obtain ⟨rfl, hw⟩ := hp
  have G : gW D (wC ad cy fr bk vw tk to fk fo kp sp lt ib rw cl nu tv tm ta ml tn R) (va_A (wC ad cy fr bk vw tk to fk fo kp sp lt ib rw cl nu tv tm ta ml tn R) s.heap.size) s H locs := g_wc (hw.trans (wC_set (k := k) (by omega) (va_up_s _ _) (va_up_s _ _) (va_up_s _ _))) G
  refine W.eq (g2 := F0 m 19 ls [.int (bI (shB1 (fr k) (bk k) (vw k) i j))]) rfl ?_
  exact g_zret C0 G (g_nz _) ⟨by first | rfl | (exfalso; omega) | (simp only [Bool.false_eq_true, ↓reduceIte, eq_self, decide_true, decide_false, not_true_eq_false, not_false_eq_true, Bool.true_and, Bool.false_and, Bool.and_true, Bool.and_false]; done) | (simp []; done) | (simp []; rfl) | (simp []; omega), by first | rfl | (exfalso; omega) | (simp only [Bool.false_eq_true, ↓reduceIte, eq_self, decide_true, decide_false, not_true_eq_false, not_false_eq_true, Bool.true_and, Bool.false_and, Bool.and_true, Bool.and_false]; done) | (simp []; done) | (simp []; rfl) | (simp []; omega)⟩ dX4_sees_19

set_option maxHeartbeats 4000000 in
set_option maxRecDepth 100000 in
theorem c_X4_raw (l : Launch) (D : va_G) (cy : Nat → ClassId) (ad : Nat → Nat) (fr : Nat → Int64) (bk : Nat → Int64) (vw : Nat → Nat) (tk : Int64) (to : Int64) (fk : Int64) (fo : Int64) (kp : Nat) (sp : Nat) (lt : Nat) (ib : Bool) (rw : Nat) (cl : Nat) (nu : Nat) (tv : Nat) (tm : Nat) (ta : Nat → Int32) (ml : Int32) (tn : Nat) (R : va_W) (k : Nat) (i : Nat) (hk : k < 3) (hi : i < 8) (hvw : vw k < 4) : GE l D (gts cy) yX4_raw cX4_raw 4 (some .int) 4 0 0 [.ref (ad 0), .int (nI k), .int (nI i)] (wC ad cy fr bk vw tk to fk fo kp sp lt ib rw cl nu tv tm ta ml tn R) (gF (some (.int (nI (rwN (fr k) (bk k) (vw k) i 8)))) (wC ad cy fr bk vw tk to fk fo kp sp lt ib rw cl nu tv tm ta ml tn R)) := by
  refine g_intro (by decide +kernel) (lv := [(0, .ref (ad 0)), (1, .int (nI k)), (2, .int (nI i))]) rfl (Nat.le_of_ble_eq_true rfl) ?_
  intro p e s m below meth c C0 G ls hl
  have hx := C0.1
  have hb := C0.2.1
  have hown := C0.2.2.2.2.2.1
  have hts := C0.2.2.2.2.2.2.1
  refine lv_aload_n hx hb dX4_raw_0 rfl (lv_at hl 0 rfl) ?_
  refine lv_iload_n hx hb dX4_raw_1 rfl (lv_at hl 1 rfl) ?_
  refine g_callV (As := [.int (nI k)]) (rest := []) (q0 := 0) C0 G (c_X4_cardAt l D cy (ad := ad) (fr := fr) (bk := bk) (vw := vw) (tk := tk) (to := to) (fk := fk) (fo := fo) (kp := kp) (sp := sp) (lt := lt) (ib := ib) (rw := rw) (cl := cl) (nu := nu) (tv := tv) (tm := tm) (ta := ta) (ml := ml) (tn := tn) (R := R) (k := k) (by omega)) k_X4_cardAt ml_X4_47 rfl rfl dX4_raw_2 rfl rfl hl.1 (Nat.le_of_ble_eq_true rfl) ⟨Nat.le_of_ble_eq_true rfl, Nat.le_of_ble_eq_true rfl⟩ ⟨Nat.le_of_ble_eq_true rfl, Nat.le_of_ble_eq_true rfl⟩ (fun r W2 H locs hp G => ?_)
  obtain ⟨rfl, hw⟩ := hp
  have G := g_wc hw G
  refine W.eq (g2 := F0 m 5 ls [.ref (ad (10 + k))]) rfl ?_
  refine lv_astore_n (lv' := [(3, .ref (ad (10 + k))), (0, .ref (ad 0)), (1, .int (nI k)), (2, .int (nI i))]) hx hb dX4_raw_5 rfl hl (by decide) rfl (fun ls hl => ?_)
  refine lv_iload_n hx hb dX4_raw_6 rfl (lv_at hl 3 rfl) ?_
  refine g_callS (As := [.int (nI i)]) (rest := []) C0 G (c_X4_requireInSide l D cy (W1 := wC ad cy fr bk vw tk to fk fo kp sp lt ib rw cl nu tv tm ta ml tn R) (j := i) (by omega)) k_X4_requireInSide ml_X4_159 dX4_raw_7 rfl rfl hl.1 (Nat.le_of_ble_eq_true rfl) ⟨Nat.le_of_ble_eq_true rfl, Nat.le_of_ble_eq_true rfl⟩ ⟨Nat.le_of_ble_eq_true rfl, Nat.le_of_ble_eq_true rfl⟩ (fun r W2 H locs hp G => ?_)
  obtain ⟨rfl, hw⟩ := hp
  have G := g_wc hw G
  refine W.eq (g2 := F0 m 10 ls []) rfl ?_
  refine lv_aload_n hx hb dX4_raw_10 rfl (lv_at hl 0 rfl) ?_
  refine lv_iload_n hx hb dX4_raw_11 rfl (lv_at hl 3 rfl) ?_
  refine g_callVN (As := [.int (nI i)]) (rest := []) (q0 := k + 9) C0 G (GE.at (i := k + 9) (wC_at (k := k) (by omega)) (fun R => (c_X0_rawNumber l D cy (R := R) (h := ad (10 + k)) (f := fr k) (b := bk k) (v := vw k) (row := i) (by omega) (by omega)))) k_X0_rawNumber nm_X4_162 (wC_at (k := k) (by omega)) rfl dX4_raw_12 rfl rfl hl.1 (Nat.le_of_ble_eq_true rfl) ⟨Nat.le_of_ble_eq_true rfl, Nat.le_of_ble_eq_true rfl⟩ ⟨Nat.le_of_ble_eq_true rfl, Nat.le_of_ble_eq_true rfl⟩ (fun r W2 H locs hp G => ?_)
  obtain ⟨rfl, hw⟩ := hp
  have G : gW D (wC ad cy fr bk vw tk to fk fo kp sp lt ib rw cl nu tv tm ta ml tn R) (va_A (wC ad cy fr bk vw tk to fk fo kp sp lt ib rw cl nu tv tm ta ml tn R) s.heap.size) s H locs := g_wc (hw.trans (wC_set (k := k) (by omega) (va_up_s _ _) (va_up_s _ _) (va_up_s _ _))) G
  refine W.eq (g2 := F0 m 15 ls [.int (nI (rwN (fr k) (bk k) (vw k) i 8))]) rfl ?_
  exact g_iret C0 G ⟨by first | rfl | (exfalso; omega) | (simp only [Bool.false_eq_true, ↓reduceIte, eq_self, decide_true, decide_false, not_true_eq_false, not_false_eq_true, Bool.true_and, Bool.false_and, Bool.and_true, Bool.and_false]; done) | (simp []; done) | (simp []; rfl) | (simp []; omega), by first | rfl | (exfalso; omega) | (simp only [Bool.false_eq_true, ↓reduceIte, eq_self, decide_true, decide_false, not_true_eq_false, not_false_eq_true, Bool.true_and, Bool.false_and, Bool.and_true, Bool.and_false]; done) | (simp []; done) | (simp []; rfl) | (simp []; omega)⟩ dX4_raw_15

set_option maxHeartbeats 4000000 in
set_option maxRecDepth 100000 in
theorem c_X4_kind (l : Launch) (D : va_G) (cy : Nat → ClassId) (ad : Nat → Nat) (fr : Nat → Int64) (bk : Nat → Int64) (vw : Nat → Nat) (tk : Int64) (to : Int64) (fk : Int64) (fo : Int64) (kp : Nat) (sp : Nat) (lt : Nat) (ib : Bool) (rw : Nat) (cl : Nat) (nu : Nat) (tv : Nat) (tm : Nat) (ta : Nat → Int32) (ml : Int32) (tn : Nat) (R : va_W) (k : Nat) (i : Nat) (j : Nat) (hk : k < 3) (hi : i < 8) (hj : j < 8) : GE l D (gts cy) yX4_kind cX4_kind 5 (some .int) 2 0 0 [.ref (ad 0), .int (nI k), .int (nI i), .int (nI j)] (wC ad cy fr bk vw tk to fk fo kp sp lt ib rw cl nu tv tm ta ml tn R) (gF (some (.int (kdI (fr k) (bk k) (8 * i + j)))) (wC ad cy fr bk vw tk to fk fo kp sp lt ib rw cl nu tv tm ta ml tn R)) := by
  refine g_intro (by decide +kernel) (lv := [(0, .ref (ad 0)), (1, .int (nI k)), (2, .int (nI i)), (3, .int (nI j))]) rfl (Nat.le_of_ble_eq_true rfl) ?_
  intro p e s m below meth c C0 G ls hl
  have hx := C0.1
  have hb := C0.2.1
  have hown := C0.2.2.2.2.2.1
  have hts := C0.2.2.2.2.2.2.1
  refine lv_aload_n hx hb dX4_kind_0 rfl (lv_at hl 0 rfl) ?_
  refine lv_iload_n hx hb dX4_kind_1 rfl (lv_at hl 1 rfl) ?_
  refine g_callV (As := [.int (nI k)]) (rest := []) (q0 := 0) C0 G (c_X4_cardAt l D cy (ad := ad) (fr := fr) (bk := bk) (vw := vw) (tk := tk) (to := to) (fk := fk) (fo := fo) (kp := kp) (sp := sp) (lt := lt) (ib := ib) (rw := rw) (cl := cl) (nu := nu) (tv := tv) (tm := tm) (ta := ta) (ml := ml) (tn := tn) (R := R) (k := k) (by omega)) k_X4_cardAt ml_X4_47 rfl rfl dX4_kind_2 rfl rfl hl.1 (Nat.le_of_ble_eq_true rfl) ⟨Nat.le_of_ble_eq_true rfl, Nat.le_of_ble_eq_true rfl⟩ ⟨Nat.le_of_ble_eq_true rfl, Nat.le_of_ble_eq_true rfl⟩ (fun r W2 H locs hp G => ?_)
  obtain ⟨rfl, hw⟩ := hp
  have G := g_wc hw G
  refine W.eq (g2 := F0 m 5 ls [.ref (ad (10 + k))]) rfl ?_
  refine lv_astore (lv' := [(4, .ref (ad (10 + k))), (0, .ref (ad 0)), (1, .int (nI k)), (2, .int (nI i)), (3, .int (nI j))]) hx hb dX4_kind_5 hl (by decide) rfl (fun ls hl => ?_)
  refine lv_iload_n hx hb dX4_kind_7 rfl (lv_at hl 3 rfl) ?_
  refine lv_iload_n hx hb dX4_kind_8 rfl (lv_at hl 4 rfl) ?_
  refine g_callS (As := [.int (nI i), .int (nI j)]) (rest := []) C0 G (c_X4_requireCell l D cy (W1 := wC ad cy fr bk vw tk to fk fo kp sp lt ib rw cl nu tv tm ta ml tn R) (i := i) (j := j) (by omega) (by omega)) k_X4_requireCell ml_X4_123 dX4_kind_9 rfl rfl hl.1 (Nat.le_of_ble_eq_true rfl) ⟨Nat.le_of_ble_eq_true rfl, Nat.le_of_ble_eq_true rfl⟩ ⟨Nat.le_of_ble_eq_true rfl, Nat.le_of_ble_eq_true rfl⟩ (fun r W2 H locs hp G => ?_)
  obtain ⟨rfl, hw⟩ := hp
  have G := g_wc hw G
  refine W.eq (g2 := F0 m 12 ls []) rfl ?_
  refine lv_aload hx hb dX4_kind_12 (lv_at hl 0 rfl) ?_
  refine lv_iload_n hx hb dX4_kind_14 rfl (lv_at hl 3 rfl) ?_
  refine lv_iload_n hx hb dX4_kind_15 rfl (lv_at hl 4 rfl) ?_
  refine g_callS (As := [.int (nI i), .int (nI j)]) (rest := [.ref (ad (10 + k))]) C0 G (c_X4_cellNumber l D cy (W1 := wC ad cy fr bk vw tk to fk fo kp sp lt ib rw cl nu tv tm ta ml tn R) (row := i) (col := j) ) k_X4_cellNumber ml_X4_165 dX4_kind_16 rfl rfl hl.1 (Nat.le_of_ble_eq_true rfl) ⟨Nat.le_of_ble_eq_true rfl, Nat.le_of_ble_eq_true rfl⟩ ⟨Nat.le_of_ble_eq_true rfl, Nat.le_of_ble_eq_true rfl⟩ (fun r W2 H locs hp G => ?_)
  obtain ⟨rfl, hw⟩ := hp
  have G := g_wc hw G
  refine W.eq (g2 := F0 m 19 ls [.int (nI (8 * i + j)), .ref (ad (10 + k))]) rfl ?_
  refine g_callVN (As := [.int (nI (8 * i + j))]) (rest := []) (q0 := k + 9) C0 G (GE.at (i := k + 9) (wC_at (k := k) (by omega)) (fun R => (c_X0_kindAt l D cy (R := R) (h := ad (10 + k)) (f := fr k) (b := bk k) (v := vw k) (k := 8 * i + j) (by omega)))) k_X0_kindAt nm_X4_143 (wC_at (k := k) (by omega)) rfl dX4_kind_19 rfl rfl hl.1 (Nat.le_of_ble_eq_true rfl) ⟨Nat.le_of_ble_eq_true rfl, Nat.le_of_ble_eq_true rfl⟩ ⟨Nat.le_of_ble_eq_true rfl, Nat.le_of_ble_eq_true rfl⟩ (fun r W2 H locs hp G => ?_)
  obtain ⟨rfl, hw⟩ := hp
  have G : gW D (wC ad cy fr bk vw tk to fk fo kp sp lt ib rw cl nu tv tm ta ml tn R) (va_A (wC ad cy fr bk vw tk to fk fo kp sp lt ib rw cl nu tv tm ta ml tn R) s.heap.size) s H locs := g_wc (hw.trans (wC_set (k := k) (by omega) (va_up_s _ _) (va_up_s _ _) (va_up_s _ _))) G
  refine W.eq (g2 := F0 m 22 ls [.int (kdI (fr k) (bk k) (8 * i + j))]) rfl ?_
  exact g_iret C0 G ⟨by first | rfl | (exfalso; omega) | (simp only [Bool.false_eq_true, ↓reduceIte, eq_self, decide_true, decide_false, not_true_eq_false, not_false_eq_true, Bool.true_and, Bool.false_and, Bool.and_true, Bool.and_false]; done) | (simp []; done) | (simp []; rfl) | (simp []; omega), by first | rfl | (exfalso; omega) | (simp only [Bool.false_eq_true, ↓reduceIte, eq_self, decide_true, decide_false, not_true_eq_false, not_false_eq_true, Bool.true_and, Bool.false_and, Bool.and_true, Bool.and_false]; done) | (simp []; done) | (simp []; rfl) | (simp []; omega)⟩ dX4_kind_22

set_option maxHeartbeats 4000000 in
set_option maxRecDepth 100000 in
theorem c_X4_told (l : Launch) (D : va_G) (cy : Nat → ClassId) (ad : Nat → Nat) (fr : Nat → Int64) (bk : Nat → Int64) (vw : Nat → Nat) (tk : Int64) (to : Int64) (fk : Int64) (fo : Int64) (kp : Nat) (sp : Nat) (lt : Nat) (ib : Bool) (rw : Nat) (cl : Nat) (nu : Nat) (tv : Nat) (tm : Nat) (ta : Nat → Int32) (ml : Int32) (tn : Nat) (R : va_W) (k : Nat) (i : Nat) (j : Nat) (hk : k < 3) (hi : i < 8) (hj : j < 8) : GE l D (gts cy) yX4_told cX4_told 5 (some .int) 5 0 0 [.ref (ad 0), .int (nI k), .int (nI i), .int (nI j)] (wC ad cy fr bk vw tk to fk fo kp sp lt ib rw cl nu tv tm ta ml tn R) (gF (some (.int (biI ((fa (sdW (fr k) (bk k)) (onW (fr k) (bk k))).1) ((fa (sdW (fr k) (bk k)) (onW (fr k) (bk k))).2) (8 * i + j)))) (wC ad cy fr bk vw ((fa (sdW (fr k) (bk k)) (onW (fr k) (bk k))).1) ((fa (sdW (fr k) (bk k)) (onW (fr k) (bk k))).2) fk fo kp sp lt ib rw cl nu tv tm ta ml tn R)) := by
  refine g_intro (by decide +kernel) (lv := [(0, .ref (ad 0)), (1, .int (nI k)), (2, .int (nI i)), (3, .int (nI j))]) rfl (Nat.le_of_ble_eq_true rfl) ?_
  intro p e s m below meth c C0 G ls hl
  have hx := C0.1
  have hb := C0.2.1
  have hown := C0.2.2.2.2.2.1
  have hts := C0.2.2.2.2.2.2.1
  refine lv_aload_n hx hb dX4_told_0 rfl (lv_at hl 0 rfl) ?_
  refine lv_iload_n hx hb dX4_told_1 rfl (lv_at hl 1 rfl) ?_
  refine g_callV (As := [.int (nI k)]) (rest := []) (q0 := 0) C0 G (c_X4_cardAt l D cy (ad := ad) (fr := fr) (bk := bk) (vw := vw) (tk := tk) (to := to) (fk := fk) (fo := fo) (kp := kp) (sp := sp) (lt := lt) (ib := ib) (rw := rw) (cl := cl) (nu := nu) (tv := tv) (tm := tm) (ta := ta) (ml := ml) (tn := tn) (R := R) (k := k) (by omega)) k_X4_cardAt ml_X4_47 rfl rfl dX4_told_2 rfl rfl hl.1 (Nat.le_of_ble_eq_true rfl) ⟨Nat.le_of_ble_eq_true rfl, Nat.le_of_ble_eq_true rfl⟩ ⟨Nat.le_of_ble_eq_true rfl, Nat.le_of_ble_eq_true rfl⟩ (fun r W2 H locs hp G => ?_)
  obtain ⟨rfl, hw⟩ := hp
  have G := g_wc hw G
  refine W.eq (g2 := F0 m 5 ls [.ref (ad (10 + k))]) rfl ?_
  refine lv_astore (lv' := [(4, .ref (ad (10 + k))), (0, .ref (ad 0)), (1, .int (nI k)), (2, .int (nI i)), (3, .int (nI j))]) hx hb dX4_told_5 hl (by decide) rfl (fun ls hl => ?_)
  refine lv_iload_n hx hb dX4_told_7 rfl (lv_at hl 3 rfl) ?_
  refine lv_iload_n hx hb dX4_told_8 rfl (lv_at hl 4 rfl) ?_
  refine g_callS (As := [.int (nI i), .int (nI j)]) (rest := []) C0 G (c_X4_requireCell l D cy (W1 := wC ad cy fr bk vw tk to fk fo kp sp lt ib rw cl nu tv tm ta ml tn R) (i := i) (j := j) (by omega) (by omega)) k_X4_requireCell ml_X4_123 dX4_told_9 rfl rfl hl.1 (Nat.le_of_ble_eq_true rfl) ⟨Nat.le_of_ble_eq_true rfl, Nat.le_of_ble_eq_true rfl⟩ ⟨Nat.le_of_ble_eq_true rfl, Nat.le_of_ble_eq_true rfl⟩ (fun r W2 H locs hp G => ?_)
  obtain ⟨rfl, hw⟩ := hp
  have G := g_wc hw G
  refine W.eq (g2 := F0 m 12 ls []) rfl ?_
  refine lv_aload_n hx hb dX4_told_12 rfl (lv_at hl 1 rfl) ?_
  refine lv_aload hx hb dX4_told_13 (lv_at hl 0 rfl) ?_
  refine g_callV (As := [.ref (ad (10 + k))]) (rest := []) (q0 := 0) C0 G (c_X4_tellingOf l D cy (ad := ad) (fr := fr) (bk := bk) (vw := vw) (tk := tk) (to := to) (fk := fk) (fo := fo) (kp := kp) (sp := sp) (lt := lt) (ib := ib) (rw := rw) (cl := cl) (nu := nu) (tv := tv) (tm := tm) (ta := ta) (ml := ml) (tn := tn) (R := R) (k := k) (by omega)) k_X4_tellingOf ml_X4_107 rfl rfl dX4_told_15 rfl rfl hl.1 (Nat.le_of_ble_eq_true rfl) ⟨Nat.le_of_ble_eq_true rfl, Nat.le_of_ble_eq_true rfl⟩ ⟨Nat.le_of_ble_eq_true rfl, Nat.le_of_ble_eq_true rfl⟩ (fun r W2 H locs hp G => ?_)
  obtain ⟨rfl, hw⟩ := hp
  have G := g_wc hw G
  refine W.eq (g2 := F0 m 18 ls [.ref (ad 2)]) rfl ?_
  refine lv_iload_n hx hb dX4_told_18 rfl (lv_at hl 3 rfl) ?_
  refine lv_iload_n hx hb dX4_told_19 rfl (lv_at hl 4 rfl) ?_
  refine g_callS (As := [.int (nI i), .int (nI j)]) (rest := [.ref (ad 2)]) C0 G (c_X4_cellNumber l D cy (W1 := wC ad cy fr bk vw ((fa (sdW (fr k) (bk k)) (onW (fr k) (bk k))).1) ((fa (sdW (fr k) (bk k)) (onW (fr k) (bk k))).2) fk fo kp sp lt ib rw cl nu tv tm ta ml tn R) (row := i) (col := j) ) k_X4_cellNumber ml_X4_165 dX4_told_20 rfl rfl hl.1 (Nat.le_of_ble_eq_true rfl) ⟨Nat.le_of_ble_eq_true rfl, Nat.le_of_ble_eq_true rfl⟩ ⟨Nat.le_of_ble_eq_true rfl, Nat.le_of_ble_eq_true rfl⟩ (fun r W2 H locs hp G => ?_)
  obtain ⟨rfl, hw⟩ := hp
  have G := g_wc hw G
  refine W.eq (g2 := F0 m 23 ls [.int (nI (8 * i + j)), .ref (ad 2)]) rfl ?_
  refine g_callVN (As := [.int (nI (8 * i + j))]) (rest := []) (q0 := 2) C0 G (GE.at (i := 2) rfl (fun R => (c_X3_bitAt l D cy (R := R) (h := ad 2) (kn := (fa (sdW (fr k) (bk k)) (onW (fr k) (bk k))).1) (on := (fa (sdW (fr k) (bk k)) (onW (fr k) (bk k))).2) (k := 8 * i + j) (by omega)))) k_X3_bitAt nm_X4_168 rfl rfl dX4_told_23 rfl rfl hl.1 (Nat.le_of_ble_eq_true rfl) ⟨Nat.le_of_ble_eq_true rfl, Nat.le_of_ble_eq_true rfl⟩ ⟨Nat.le_of_ble_eq_true rfl, Nat.le_of_ble_eq_true rfl⟩ (fun r W2 H locs hp G => ?_)
  obtain ⟨rfl, hw⟩ := hp
  have G : gW D (wC ad cy fr bk vw ((fa (sdW (fr k) (bk k)) (onW (fr k) (bk k))).1) ((fa (sdW (fr k) (bk k)) (onW (fr k) (bk k))).2) fk fo kp sp lt ib rw cl nu tv tm ta ml tn R) (va_A (wC ad cy fr bk vw tk to fk fo kp sp lt ib rw cl nu tv tm ta ml tn R) s.heap.size) s H locs := g_wc (hw.trans (by rfl)) G
  refine W.eq (g2 := F0 m 26 ls [.int (biI ((fa (sdW (fr k) (bk k)) (onW (fr k) (bk k))).1) ((fa (sdW (fr k) (bk k)) (onW (fr k) (bk k))).2) (8 * i + j))]) rfl ?_
  exact g_iret C0 G ⟨by first | rfl | (exfalso; omega) | (simp only [Bool.false_eq_true, ↓reduceIte, eq_self, decide_true, decide_false, not_true_eq_false, not_false_eq_true, Bool.true_and, Bool.false_and, Bool.and_true, Bool.and_false]; done) | (simp []; done) | (simp []; rfl) | (simp []; omega), by first | rfl | (exfalso; omega) | (simp only [Bool.false_eq_true, ↓reduceIte, eq_self, decide_true, decide_false, not_true_eq_false, not_false_eq_true, Bool.true_and, Bool.false_and, Bool.and_true, Bool.and_false]; done) | (simp []; done) | (simp []; rfl) | (simp []; omega)⟩ dX4_told_26

set_option maxHeartbeats 4000000 in
set_option maxRecDepth 100000 in
theorem c_X4_count (l : Launch) (D : va_G) (cy : Nat → ClassId) (ad : Nat → Nat) (fr : Nat → Int64) (bk : Nat → Int64) (vw : Nat → Nat) (tk : Int64) (to : Int64) (fk : Int64) (fo : Int64) (kp : Nat) (sp : Nat) (lt : Nat) (ib : Bool) (rw : Nat) (cl : Nat) (nu : Nat) (tv : Nat) (tm : Nat) (ta : Nat → Int32) (ml : Int32) (tn : Nat) (R : va_W) (k : Nat) (u : Nat) (hk : k < 3) (hu : u < 4) : GE l D (gts cy) yX4_count cX4_count 4 (some .int) 2 0 0 [.ref (ad 0), .int (nI k), .int (nI u)] (wC ad cy fr bk vw tk to fk fo kp sp lt ib rw cl nu tv tm ta ml tn R) (gF (some (.int (nI (pc (kdW (fr k) (bk k) u))))) (wC ad cy fr bk vw tk to fk fo kp sp lt ib rw cl nu tv tm ta ml tn R)) := by
  refine g_intro (by decide +kernel) (lv := [(0, .ref (ad 0)), (1, .int (nI k)), (2, .int (nI u))]) rfl (Nat.le_of_ble_eq_true rfl) ?_
  intro p e s m below meth c C0 G ls hl
  have hx := C0.1
  have hb := C0.2.1
  have hown := C0.2.2.2.2.2.1
  have hts := C0.2.2.2.2.2.2.1
  refine lv_aload_n hx hb dX4_count_0 rfl (lv_at hl 0 rfl) ?_
  refine lv_iload_n hx hb dX4_count_1 rfl (lv_at hl 1 rfl) ?_
  refine g_callV (As := [.int (nI k)]) (rest := []) (q0 := 0) C0 G (c_X4_cardAt l D cy (ad := ad) (fr := fr) (bk := bk) (vw := vw) (tk := tk) (to := to) (fk := fk) (fo := fo) (kp := kp) (sp := sp) (lt := lt) (ib := ib) (rw := rw) (cl := cl) (nu := nu) (tv := tv) (tm := tm) (ta := ta) (ml := ml) (tn := tn) (R := R) (k := k) (by omega)) k_X4_cardAt ml_X4_47 rfl rfl dX4_count_2 rfl rfl hl.1 (Nat.le_of_ble_eq_true rfl) ⟨Nat.le_of_ble_eq_true rfl, Nat.le_of_ble_eq_true rfl⟩ ⟨Nat.le_of_ble_eq_true rfl, Nat.le_of_ble_eq_true rfl⟩ (fun r W2 H locs hp G => ?_)
  obtain ⟨rfl, hw⟩ := hp
  have G := g_wc hw G
  refine W.eq (g2 := F0 m 5 ls [.ref (ad (10 + k))]) rfl ?_
  refine lv_astore_n (lv' := [(3, .ref (ad (10 + k))), (0, .ref (ad 0)), (1, .int (nI k)), (2, .int (nI u))]) hx hb dX4_count_5 rfl hl (by decide) rfl (fun ls hl => ?_)
  refine lv_iload_n hx hb dX4_count_6 rfl (lv_at hl 3 rfl) ?_
  refine lv_if_lt (tgt := 15) hx hb dX4_count_7 (by decide) (fun c_7 => ?_) (fun c_7 => ?_)
  · skip
    have c_7 : u < 0 := (nI_ltI (a := u) (b := 0) (by omega) (by omega)).mp c_7
    exact absurd c_7 (by omega)
  · skip
    have c_7 : ¬ (u < 0) := fun h => c_7 ((nI_ltI (a := u) (b := 0) (by omega) (by omega)).mpr h)
    refine lv_iload_n hx hb dX4_count_10 rfl (lv_at hl 3 rfl) ?_
    refine lv_iconst (v := 4) hx hb dX4_count_11 (by decide) ?_
    refine lv_icmp_lt (tgt := 25) hx hb dX4_count_12 (by decide) (fun c_12 => ?_) (fun c_12 => ?_)
    · skip
      have c_12 : u < 4 := (nI_ltI (a := u) (b := 4) (by omega) (by omega)).mp c_12
      refine lv_aload_n hx hb dX4_count_25 rfl (lv_at hl 0 rfl) ?_
      refine lv_iload_n hx hb dX4_count_26 rfl (lv_at hl 3 rfl) ?_
      refine g_callVN (As := [.int (nI u)]) (rest := []) (q0 := k + 9) C0 G (GE.at (i := k + 9) (wC_at (k := k) (by omega)) (fun R => (c_X0_cellsOfKind l D cy (R := R) (h := ad (10 + k)) (f := fr k) (b := bk k) (v := vw k) (k := u) (by omega)))) k_X0_cellsOfKind nm_X4_176 (wC_at (k := k) (by omega)) rfl dX4_count_27 rfl rfl hl.1 (Nat.le_of_ble_eq_true rfl) ⟨Nat.le_of_ble_eq_true rfl, Nat.le_of_ble_eq_true rfl⟩ ⟨Nat.le_of_ble_eq_true rfl, Nat.le_of_ble_eq_true rfl⟩ (fun r W2 H locs hp G => ?_)
      obtain ⟨rfl, hw⟩ := hp
      have G : gW D (wC ad cy fr bk vw tk to fk fo kp sp lt ib rw cl nu tv tm ta ml tn R) (va_A (wC ad cy fr bk vw tk to fk fo kp sp lt ib rw cl nu tv tm ta ml tn R) s.heap.size) s H locs := g_wc (hw.trans (wC_set (k := k) (by omega) (va_up_s _ _) (va_up_s _ _) (va_up_s _ _))) G
      refine W.eq (g2 := F0 m 30 ls [.long (kdW (fr k) (bk k) u)]) rfl ?_
      refine g_callS (As := [.long (kdW (fr k) (bk k) u)]) (rest := []) C0 G (c_J13_bitCount_95d88 l D cy (W1 := wC ad cy fr bk vw tk to fk fo kp sp lt ib rw cl nu tv tm ta ml tn R) (w := kdW (fr k) (bk k) u) ) k_J13_bitCount_95d88 ml_X4_93 dX4_count_30 rfl rfl hl.1 (Nat.le_of_ble_eq_true rfl) ⟨Nat.le_of_ble_eq_true rfl, Nat.le_of_ble_eq_true rfl⟩ ⟨Nat.le_of_ble_eq_true rfl, Nat.le_of_ble_eq_true rfl⟩ (fun r W2 H locs hp G => ?_)
      obtain ⟨rfl, hw⟩ := hp
      have G := g_wc hw G
      refine W.eq (g2 := F0 m 33 ls [.int (nI (pc (kdW (fr k) (bk k) u)))]) rfl ?_
      exact g_iret C0 G ⟨by first | rfl | (exfalso; omega) | (simp only [c_7, c_12, Bool.false_eq_true, ↓reduceIte, eq_self, decide_true, decide_false, not_true_eq_false, not_false_eq_true, Bool.true_and, Bool.false_and, Bool.and_true, Bool.and_false]; done) | (simp [c_7, c_12]; done) | (simp [c_7, c_12]; rfl) | (simp [c_7, c_12]; omega), by first | rfl | (exfalso; omega) | (simp only [c_7, c_12, Bool.false_eq_true, ↓reduceIte, eq_self, decide_true, decide_false, not_true_eq_false, not_false_eq_true, Bool.true_and, Bool.false_and, Bool.and_true, Bool.and_false]; done) | (simp [c_7, c_12]; done) | (simp [c_7, c_12]; rfl) | (simp [c_7, c_12]; omega)⟩ dX4_count_33
    · skip
      have c_12 : ¬ (u < 4) := fun h => c_12 ((nI_ltI (a := u) (b := 4) (by omega) (by omega)).mpr h)
      exact absurd c_12 (by omega)

set_option maxHeartbeats 4000000 in
set_option maxRecDepth 100000 in
theorem c_X4_read (l : Launch) (D : va_G) (cy : Nat → ClassId) (ad : Nat → Nat) (fr : Nat → Int64) (bk : Nat → Int64) (vw : Nat → Nat) (tk : Int64) (to : Int64) (fk : Int64) (fo : Int64) (kp : Nat) (sp : Nat) (lt : Nat) (ib : Bool) (rw : Nat) (cl : Nat) (nu : Nat) (tv : Nat) (tm : Nat) (ta : Nat → Int32) (ml : Int32) (tn : Nat) (R : va_W) (k : Nat) (i : Nat) (hk : k < 3) (hi : i < 7) : GE l D (gts cy) yX4_read cX4_read 4 (some .int) 2 0 0 [.ref (ad 0), .int (nI k), .int (nI i)] (wC ad cy fr bk vw tk to fk fo kp sp lt ib rw cl nu tv tm ta ml tn R) (gF (some (.int (rvI (sdW (fr k) (bk k)) (onW (fr k) (bk k)) i))) (wC ad cy fr bk vw tk to fk fo kp sp lt ib rw cl nu tv tm ta ml tn R)) := by
  refine g_intro (by decide +kernel) (lv := [(0, .ref (ad 0)), (1, .int (nI k)), (2, .int (nI i))]) rfl (Nat.le_of_ble_eq_true rfl) ?_
  intro p e s m below meth c C0 G ls hl
  have hx := C0.1
  have hb := C0.2.1
  have hown := C0.2.2.2.2.2.1
  have hts := C0.2.2.2.2.2.2.1
  refine lv_aload_n hx hb dX4_read_0 rfl (lv_at hl 0 rfl) ?_
  refine lv_iload_n hx hb dX4_read_1 rfl (lv_at hl 1 rfl) ?_
  refine g_callV (As := [.int (nI k)]) (rest := []) (q0 := 0) C0 G (c_X4_cardAt l D cy (ad := ad) (fr := fr) (bk := bk) (vw := vw) (tk := tk) (to := to) (fk := fk) (fo := fo) (kp := kp) (sp := sp) (lt := lt) (ib := ib) (rw := rw) (cl := cl) (nu := nu) (tv := tv) (tm := tm) (ta := ta) (ml := ml) (tn := tn) (R := R) (k := k) (by omega)) k_X4_cardAt ml_X4_47 rfl rfl dX4_read_2 rfl rfl hl.1 (Nat.le_of_ble_eq_true rfl) ⟨Nat.le_of_ble_eq_true rfl, Nat.le_of_ble_eq_true rfl⟩ ⟨Nat.le_of_ble_eq_true rfl, Nat.le_of_ble_eq_true rfl⟩ (fun r W2 H locs hp G => ?_)
  obtain ⟨rfl, hw⟩ := hp
  have G := g_wc hw G
  refine W.eq (g2 := F0 m 5 ls [.ref (ad (10 + k))]) rfl ?_
  refine lv_astore_n (lv' := [(3, .ref (ad (10 + k))), (0, .ref (ad 0)), (1, .int (nI k)), (2, .int (nI i))]) hx hb dX4_read_5 rfl hl (by decide) rfl (fun ls hl => ?_)
  refine lv_iload_n hx hb dX4_read_6 rfl (lv_at hl 3 rfl) ?_
  refine g_callS (As := [.int (nI i)]) (rest := []) C0 G (c_X4_requireRowWithValue l D cy (W1 := wC ad cy fr bk vw tk to fk fo kp sp lt ib rw cl nu tv tm ta ml tn R) (j := i) (by omega)) k_X4_requireRowWithValue ml_X4_51 dX4_read_7 rfl rfl hl.1 (Nat.le_of_ble_eq_true rfl) ⟨Nat.le_of_ble_eq_true rfl, Nat.le_of_ble_eq_true rfl⟩ ⟨Nat.le_of_ble_eq_true rfl, Nat.le_of_ble_eq_true rfl⟩ (fun r W2 H locs hp G => ?_)
  obtain ⟨rfl, hw⟩ := hp
  have G := g_wc hw G
  refine W.eq (g2 := F0 m 10 ls []) rfl ?_
  refine lv_aload_n hx hb dX4_read_10 rfl (lv_at hl 0 rfl) ?_
  refine g_callVN (As := []) (rest := []) (q0 := k + 9) C0 G (GE.at (i := k + 9) (wC_at (k := k) (by omega)) (fun R => (c_X0_sound l D cy (R := R) (h := ad (10 + k)) (f := fr k) (b := bk k) (v := vw k)  ))) k_X0_sound nm_X4_180 (wC_at (k := k) (by omega)) rfl dX4_read_11 rfl rfl hl.1 (Nat.le_of_ble_eq_true rfl) ⟨Nat.le_of_ble_eq_true rfl, Nat.le_of_ble_eq_true rfl⟩ ⟨Nat.le_of_ble_eq_true rfl, Nat.le_of_ble_eq_true rfl⟩ (fun r W2 H locs hp G => ?_)
  obtain ⟨rfl, hw⟩ := hp
  have G : gW D (wC ad cy fr bk vw tk to fk fo kp sp lt ib rw cl nu tv tm ta ml tn R) (va_A (wC ad cy fr bk vw tk to fk fo kp sp lt ib rw cl nu tv tm ta ml tn R) s.heap.size) s H locs := g_wc (hw.trans (wC_set (k := k) (by omega) (va_up_s _ _) (va_up_s _ _) (va_up_s _ _))) G
  refine W.eq (g2 := F0 m 14 ls [.long (sdW (fr k) (bk k))]) rfl ?_
  refine lv_aload_n hx hb dX4_read_14 rfl (lv_at hl 0 rfl) ?_
  refine g_callVN (As := []) (rest := [.long (sdW (fr k) (bk k))]) (q0 := k + 9) C0 G (GE.at (i := k + 9) (wC_at (k := k) (by omega)) (fun R => (c_X0_ones l D cy (R := R) (h := ad (10 + k)) (f := fr k) (b := bk k) (v := vw k)  ))) k_X0_ones nm_X4_183 (wC_at (k := k) (by omega)) rfl dX4_read_15 rfl rfl hl.1 (Nat.le_of_ble_eq_true rfl) ⟨Nat.le_of_ble_eq_true rfl, Nat.le_of_ble_eq_true rfl⟩ ⟨Nat.le_of_ble_eq_true rfl, Nat.le_of_ble_eq_true rfl⟩ (fun r W2 H locs hp G => ?_)
  obtain ⟨rfl, hw⟩ := hp
  have G : gW D (wC ad cy fr bk vw tk to fk fo kp sp lt ib rw cl nu tv tm ta ml tn R) (va_A (wC ad cy fr bk vw tk to fk fo kp sp lt ib rw cl nu tv tm ta ml tn R) s.heap.size) s H locs := g_wc (hw.trans (wC_set (k := k) (by omega) (va_up_s _ _) (va_up_s _ _) (va_up_s _ _))) G
  refine W.eq (g2 := F0 m 18 ls [.long (onW (fr k) (bk k)), .long (sdW (fr k) (bk k))]) rfl ?_
  refine lv_iload_n hx hb dX4_read_18 rfl (lv_at hl 3 rfl) ?_
  refine g_callS (As := [.long (sdW (fr k) (bk k)), .long (onW (fr k) (bk k)), .int (nI i)]) (rest := []) C0 G (c_X4_rowValue l D cy (W1 := wC ad cy fr bk vw tk to fk fo kp sp lt ib rw cl nu tv tm ta ml tn R) (kn := sdW (fr k) (bk k)) (on := onW (fr k) (bk k)) (row := i) (by omega)) k_X4_rowValue ml_X4_185 dX4_read_19 rfl rfl hl.1 (Nat.le_of_ble_eq_true rfl) ⟨Nat.le_of_ble_eq_true rfl, Nat.le_of_ble_eq_true rfl⟩ ⟨Nat.le_of_ble_eq_true rfl, Nat.le_of_ble_eq_true rfl⟩ (fun r W2 H locs hp G => ?_)
  obtain ⟨rfl, hw⟩ := hp
  have G := g_wc hw G
  refine W.eq (g2 := F0 m 22 ls [.int (rvI (sdW (fr k) (bk k)) (onW (fr k) (bk k)) i)]) rfl ?_
  exact g_iret C0 G ⟨by first | rfl | (exfalso; omega) | (simp only [Bool.false_eq_true, ↓reduceIte, eq_self, decide_true, decide_false, not_true_eq_false, not_false_eq_true, Bool.true_and, Bool.false_and, Bool.and_true, Bool.and_false]; done) | (simp []; done) | (simp []; rfl) | (simp []; omega), by first | rfl | (exfalso; omega) | (simp only [Bool.false_eq_true, ↓reduceIte, eq_self, decide_true, decide_false, not_true_eq_false, not_false_eq_true, Bool.true_and, Bool.false_and, Bool.and_true, Bool.and_false]; done) | (simp []; done) | (simp []; rfl) | (simp []; omega)⟩ dX4_read_22

set_option maxHeartbeats 4000000 in
set_option maxRecDepth 100000 in
theorem c_X4_value (l : Launch) (D : va_G) (cy : Nat → ClassId) (ad : Nat → Nat) (fr : Nat → Int64) (bk : Nat → Int64) (vw : Nat → Nat) (tk : Int64) (to : Int64) (fk : Int64) (fo : Int64) (kp : Nat) (sp : Nat) (lt : Nat) (ib : Bool) (rw : Nat) (cl : Nat) (nu : Nat) (tv : Nat) (tm : Nat) (ta : Nat → Int32) (ml : Int32) (tn : Nat) (R : va_W) (k : Nat) (i : Nat) (hk : k < 3) (hi : i < 7) : GE l D (gts cy) yX4_value cX4_value 5 (some .int) 5 0 0 [.ref (ad 0), .int (nI k), .int (nI i)] (wC ad cy fr bk vw tk to fk fo kp sp lt ib rw cl nu tv tm ta ml tn R) (gF (some (.int (rvI ((fa (sdW (fr k) (bk k)) (onW (fr k) (bk k))).1) ((fa (sdW (fr k) (bk k)) (onW (fr k) (bk k))).2) i))) (wC ad cy fr bk vw ((fa (sdW (fr k) (bk k)) (onW (fr k) (bk k))).1) ((fa (sdW (fr k) (bk k)) (onW (fr k) (bk k))).2) fk fo kp sp lt ib rw cl nu tv tm ta ml tn R)) := by
  refine g_intro (by decide +kernel) (lv := [(0, .ref (ad 0)), (1, .int (nI k)), (2, .int (nI i))]) rfl (Nat.le_of_ble_eq_true rfl) ?_
  intro p e s m below meth c C0 G ls hl
  have hx := C0.1
  have hb := C0.2.1
  have hown := C0.2.2.2.2.2.1
  have hts := C0.2.2.2.2.2.2.1
  refine lv_aload_n hx hb dX4_value_0 rfl (lv_at hl 0 rfl) ?_
  refine lv_iload_n hx hb dX4_value_1 rfl (lv_at hl 1 rfl) ?_
  refine g_callV (As := [.int (nI k)]) (rest := []) (q0 := 0) C0 G (c_X4_cardAt l D cy (ad := ad) (fr := fr) (bk := bk) (vw := vw) (tk := tk) (to := to) (fk := fk) (fo := fo) (kp := kp) (sp := sp) (lt := lt) (ib := ib) (rw := rw) (cl := cl) (nu := nu) (tv := tv) (tm := tm) (ta := ta) (ml := ml) (tn := tn) (R := R) (k := k) (by omega)) k_X4_cardAt ml_X4_47 rfl rfl dX4_value_2 rfl rfl hl.1 (Nat.le_of_ble_eq_true rfl) ⟨Nat.le_of_ble_eq_true rfl, Nat.le_of_ble_eq_true rfl⟩ ⟨Nat.le_of_ble_eq_true rfl, Nat.le_of_ble_eq_true rfl⟩ (fun r W2 H locs hp G => ?_)
  obtain ⟨rfl, hw⟩ := hp
  have G := g_wc hw G
  refine W.eq (g2 := F0 m 5 ls [.ref (ad (10 + k))]) rfl ?_
  refine lv_astore_n (lv' := [(3, .ref (ad (10 + k))), (0, .ref (ad 0)), (1, .int (nI k)), (2, .int (nI i))]) hx hb dX4_value_5 rfl hl (by decide) rfl (fun ls hl => ?_)
  refine lv_iload_n hx hb dX4_value_6 rfl (lv_at hl 3 rfl) ?_
  refine g_callS (As := [.int (nI i)]) (rest := []) C0 G (c_X4_requireRowWithValue l D cy (W1 := wC ad cy fr bk vw tk to fk fo kp sp lt ib rw cl nu tv tm ta ml tn R) (j := i) (by omega)) k_X4_requireRowWithValue ml_X4_51 dX4_value_7 rfl rfl hl.1 (Nat.le_of_ble_eq_true rfl) ⟨Nat.le_of_ble_eq_true rfl, Nat.le_of_ble_eq_true rfl⟩ ⟨Nat.le_of_ble_eq_true rfl, Nat.le_of_ble_eq_true rfl⟩ (fun r W2 H locs hp G => ?_)
  obtain ⟨rfl, hw⟩ := hp
  have G := g_wc hw G
  refine W.eq (g2 := F0 m 10 ls []) rfl ?_
  refine lv_aload_n hx hb dX4_value_10 rfl (lv_at hl 1 rfl) ?_
  refine lv_aload_n hx hb dX4_value_11 rfl (lv_at hl 0 rfl) ?_
  refine g_callV (As := [.ref (ad (10 + k))]) (rest := []) (q0 := 0) C0 G (c_X4_tellingOf l D cy (ad := ad) (fr := fr) (bk := bk) (vw := vw) (tk := tk) (to := to) (fk := fk) (fo := fo) (kp := kp) (sp := sp) (lt := lt) (ib := ib) (rw := rw) (cl := cl) (nu := nu) (tv := tv) (tm := tm) (ta := ta) (ml := ml) (tn := tn) (R := R) (k := k) (by omega)) k_X4_tellingOf ml_X4_107 rfl rfl dX4_value_12 rfl rfl hl.1 (Nat.le_of_ble_eq_true rfl) ⟨Nat.le_of_ble_eq_true rfl, Nat.le_of_ble_eq_true rfl⟩ ⟨Nat.le_of_ble_eq_true rfl, Nat.le_of_ble_eq_true rfl⟩ (fun r W2 H locs hp G => ?_)
  obtain ⟨rfl, hw⟩ := hp
  have G := g_wc hw G
  refine W.eq (g2 := F0 m 15 ls [.ref (ad 2)]) rfl ?_
  refine lv_astore (lv' := [(4, .ref (ad 2)), (3, .ref (ad (10 + k))), (0, .ref (ad 0)), (1, .int (nI k)), (2, .int (nI i))]) hx hb dX4_value_15 hl (by decide) rfl (fun ls hl => ?_)
  refine lv_aload hx hb dX4_value_17 (lv_at hl 0 rfl) ?_
  refine g_getN (q0 := 2) (v := .long ((fa (sdW (fr k) (bk k)) (onW (fr k) (bk k))).1)) C0 G in_X3 rfl rfl 0 (by decide) nf_X4_114 (fun _ h => h) rfl dX4_value_19 ?_
  refine lv_aload hx hb dX4_value_22 (lv_at hl 0 rfl) ?_
  refine g_getN (q0 := 2) (v := .long ((fa (sdW (fr k) (bk k)) (onW (fr k) (bk k))).2)) C0 G in_X3 rfl rfl 1 (by decide) nf_X4_111 (fun _ h => h) rfl dX4_value_24 ?_
  refine lv_iload_n hx hb dX4_value_27 rfl (lv_at hl 4 rfl) ?_
  refine g_callS (As := [.long ((fa (sdW (fr k) (bk k)) (onW (fr k) (bk k))).1), .long ((fa (sdW (fr k) (bk k)) (onW (fr k) (bk k))).2), .int (nI i)]) (rest := []) C0 G (c_X4_rowValue l D cy (W1 := wC ad cy fr bk vw ((fa (sdW (fr k) (bk k)) (onW (fr k) (bk k))).1) ((fa (sdW (fr k) (bk k)) (onW (fr k) (bk k))).2) fk fo kp sp lt ib rw cl nu tv tm ta ml tn R) (kn := (fa (sdW (fr k) (bk k)) (onW (fr k) (bk k))).1) (on := (fa (sdW (fr k) (bk k)) (onW (fr k) (bk k))).2) (row := i) (by omega)) k_X4_rowValue ml_X4_185 dX4_value_28 rfl rfl hl.1 (Nat.le_of_ble_eq_true rfl) ⟨Nat.le_of_ble_eq_true rfl, Nat.le_of_ble_eq_true rfl⟩ ⟨Nat.le_of_ble_eq_true rfl, Nat.le_of_ble_eq_true rfl⟩ (fun r W2 H locs hp G => ?_)
  obtain ⟨rfl, hw⟩ := hp
  have G := g_wc hw G
  refine W.eq (g2 := F0 m 31 ls [.int (rvI ((fa (sdW (fr k) (bk k)) (onW (fr k) (bk k))).1) ((fa (sdW (fr k) (bk k)) (onW (fr k) (bk k))).2) i)]) rfl ?_
  exact g_iret C0 G ⟨by first | rfl | (exfalso; omega) | (simp only [Bool.false_eq_true, ↓reduceIte, eq_self, decide_true, decide_false, not_true_eq_false, not_false_eq_true, Bool.true_and, Bool.false_and, Bool.and_true, Bool.and_false]; done) | (simp []; done) | (simp []; rfl) | (simp []; omega), by first | rfl | (exfalso; omega) | (simp only [Bool.false_eq_true, ↓reduceIte, eq_self, decide_true, decide_false, not_true_eq_false, not_false_eq_true, Bool.true_and, Bool.false_and, Bool.and_true, Bool.and_false]; done) | (simp []; done) | (simp []; rfl) | (simp []; omega)⟩ dX4_value_31

set_option maxHeartbeats 4000000 in
set_option maxRecDepth 100000 in
theorem c_X4_disagreement (l : Launch) (D : va_G) (cy : Nat → ClassId) (ad : Nat → Nat) (fr : Nat → Int64) (bk : Nat → Int64) (vw : Nat → Nat) (tk : Int64) (to : Int64) (fk : Int64) (fo : Int64) (kp : Nat) (sp : Nat) (lt : Nat) (ib : Bool) (rw : Nat) (cl : Nat) (nu : Nat) (tv : Nat) (tm : Nat) (ta : Nat → Int32) (ml : Int32) (tn : Nat) (R : va_W) (k : Nat) (i : Nat) (hk : k < 3) (hi : i < 2147483648) : GE l D (gts cy) yX4_disagreement cX4_disagreement 4 (some .int) 5 0 0 [.ref (ad 0), .int (nI k), .int (nI i)] (wC ad cy fr bk vw tk to fk fo kp sp lt ib rw cl nu tv tm ta ml tn R) (gF (some (.int (dlI (dgB ((fa (sdW (fr k) (bk k)) (onW (fr k) (bk k))).1) ((fa (sdW (fr k) (bk k)) (onW (fr k) (bk k))).2)) i))) (wC ad cy fr bk vw ((fa (sdW (fr k) (bk k)) (onW (fr k) (bk k))).1) ((fa (sdW (fr k) (bk k)) (onW (fr k) (bk k))).2) fk fo kp sp lt ib rw cl nu tv tm ta ml tn R)) := by
  refine g_intro (by decide +kernel) (lv := [(0, .ref (ad 0)), (1, .int (nI k)), (2, .int (nI i))]) rfl (Nat.le_of_ble_eq_true rfl) ?_
  intro p e s m below meth c C0 G ls hl
  have hx := C0.1
  have hb := C0.2.1
  have hown := C0.2.2.2.2.2.1
  have hts := C0.2.2.2.2.2.2.1
  refine lv_aload_n hx hb dX4_disagreement_0 rfl (lv_at hl 0 rfl) ?_
  refine lv_iload_n hx hb dX4_disagreement_1 rfl (lv_at hl 1 rfl) ?_
  refine g_callV (As := [.int (nI k)]) (rest := []) (q0 := 0) C0 G (c_X4_cardAt l D cy (ad := ad) (fr := fr) (bk := bk) (vw := vw) (tk := tk) (to := to) (fk := fk) (fo := fo) (kp := kp) (sp := sp) (lt := lt) (ib := ib) (rw := rw) (cl := cl) (nu := nu) (tv := tv) (tm := tm) (ta := ta) (ml := ml) (tn := tn) (R := R) (k := k) (by omega)) k_X4_cardAt ml_X4_47 rfl rfl dX4_disagreement_2 rfl rfl hl.1 (Nat.le_of_ble_eq_true rfl) ⟨Nat.le_of_ble_eq_true rfl, Nat.le_of_ble_eq_true rfl⟩ ⟨Nat.le_of_ble_eq_true rfl, Nat.le_of_ble_eq_true rfl⟩ (fun r W2 H locs hp G => ?_)
  obtain ⟨rfl, hw⟩ := hp
  have G := g_wc hw G
  refine W.eq (g2 := F0 m 5 ls [.ref (ad (10 + k))]) rfl ?_
  refine lv_astore_n (lv' := [(3, .ref (ad (10 + k))), (0, .ref (ad 0)), (1, .int (nI k)), (2, .int (nI i))]) hx hb dX4_disagreement_5 rfl hl (by decide) rfl (fun ls hl => ?_)
  refine lv_iload_n hx hb dX4_disagreement_6 rfl (lv_at hl 3 rfl) ?_
  refine lv_if_ge (tgt := 20) hx hb dX4_disagreement_7 (by decide) (fun c_7 => ?_) (fun c_7 => ?_)
  · skip
    have c_7 : 0 ≤ i := (nI_leI (a := 0) (b := i) (by omega) (by omega)).mp c_7
    refine lv_aload_n hx hb dX4_disagreement_20 rfl (lv_at hl 1 rfl) ?_
    refine lv_aload_n hx hb dX4_disagreement_21 rfl (lv_at hl 0 rfl) ?_
    refine g_callV (As := [.ref (ad (10 + k))]) (rest := []) (q0 := 0) C0 G (c_X4_tellingOf l D cy (ad := ad) (fr := fr) (bk := bk) (vw := vw) (tk := tk) (to := to) (fk := fk) (fo := fo) (kp := kp) (sp := sp) (lt := lt) (ib := ib) (rw := rw) (cl := cl) (nu := nu) (tv := tv) (tm := tm) (ta := ta) (ml := ml) (tn := tn) (R := R) (k := k) (by omega)) k_X4_tellingOf ml_X4_107 rfl rfl dX4_disagreement_22 rfl rfl hl.1 (Nat.le_of_ble_eq_true rfl) ⟨Nat.le_of_ble_eq_true rfl, Nat.le_of_ble_eq_true rfl⟩ ⟨Nat.le_of_ble_eq_true rfl, Nat.le_of_ble_eq_true rfl⟩ (fun r W2 H locs hp G => ?_)
    obtain ⟨rfl, hw⟩ := hp
    have G := g_wc hw G
    refine W.eq (g2 := F0 m 25 ls [.ref (ad 2)]) rfl ?_
    refine lv_iload_n hx hb dX4_disagreement_25 rfl (lv_at hl 3 rfl) ?_
    refine g_callVN (As := [.int (nI i)]) (rest := []) (q0 := 2) C0 G (GE.at (i := 2) rfl (fun R => (c_X3_disagreeingLine l D cy (R := R) (h := ad 2) (kn := (fa (sdW (fr k) (bk k)) (onW (fr k) (bk k))).1) (on := (fa (sdW (fr k) (bk k)) (onW (fr k) (bk k))).2) (idx := i) (by omega)))) k_X3_disagreeingLine nm_X4_197 rfl rfl dX4_disagreement_26 rfl rfl hl.1 (Nat.le_of_ble_eq_true rfl) ⟨Nat.le_of_ble_eq_true rfl, Nat.le_of_ble_eq_true rfl⟩ ⟨Nat.le_of_ble_eq_true rfl, Nat.le_of_ble_eq_true rfl⟩ (fun r W2 H locs hp G => ?_)
    obtain ⟨rfl, hw⟩ := hp
    have G : gW D (wC ad cy fr bk vw ((fa (sdW (fr k) (bk k)) (onW (fr k) (bk k))).1) ((fa (sdW (fr k) (bk k)) (onW (fr k) (bk k))).2) fk fo kp sp lt ib rw cl nu tv tm ta ml tn R) (va_A (wC ad cy fr bk vw tk to fk fo kp sp lt ib rw cl nu tv tm ta ml tn R) s.heap.size) s H locs := g_wc (hw.trans (by rfl)) G
    refine W.eq (g2 := F0 m 29 ls [.int (dlI (dgB ((fa (sdW (fr k) (bk k)) (onW (fr k) (bk k))).1) ((fa (sdW (fr k) (bk k)) (onW (fr k) (bk k))).2)) i)]) rfl ?_
    exact g_iret C0 G ⟨by first | rfl | (exfalso; omega) | (simp only [c_7, Bool.false_eq_true, ↓reduceIte, eq_self, decide_true, decide_false, not_true_eq_false, not_false_eq_true, Bool.true_and, Bool.false_and, Bool.and_true, Bool.and_false]; done) | (simp [c_7]; done) | (simp [c_7]; rfl) | (simp [c_7]; omega), by first | rfl | (exfalso; omega) | (simp only [c_7, Bool.false_eq_true, ↓reduceIte, eq_self, decide_true, decide_false, not_true_eq_false, not_false_eq_true, Bool.true_and, Bool.false_and, Bool.and_true, Bool.and_false]; done) | (simp [c_7]; done) | (simp [c_7]; rfl) | (simp [c_7]; omega)⟩ dX4_disagreement_29
  · skip
    have c_7 : ¬ (0 ≤ i) := fun h => c_7 ((nI_leI (a := 0) (b := i) (by omega) (by omega)).mpr h)
    exact absurd c_7 (by omega)

set_option maxHeartbeats 4000000 in
set_option maxRecDepth 100000 in
theorem c_X4_soundShare (l : Launch) (D : va_G) (cy : Nat → ClassId) (ad : Nat → Nat) (fr : Nat → Int64) (bk : Nat → Int64) (vw : Nat → Nat) (tk : Int64) (to : Int64) (fk : Int64) (fo : Int64) (kp : Nat) (sp : Nat) (lt : Nat) (ib : Bool) (rw : Nat) (cl : Nat) (nu : Nat) (tv : Nat) (tm : Nat) (ta : Nat → Int32) (ml : Int32) (tn : Nat) (R : va_W) (k : Nat) (hk : k < 3) : GE l D (gts cy) yX4_soundShare cX4_soundShare 3 (some .double) 1 0 0 [.ref (ad 0), .int (nI k)] (wC ad cy fr bk vw tk to fk fo kp sp lt ib rw cl nu tv tm ta ml tn R) (gF (some (.double (n64 (pc (sdW (fr k) (bk k)))))) (wC ad cy fr bk vw tk to fk fo kp sp lt ib rw cl nu tv tm ta ml tn R)) := by
  refine g_intro (by decide +kernel) (lv := [(0, .ref (ad 0)), (1, .int (nI k))]) rfl (Nat.le_of_ble_eq_true rfl) ?_
  intro p e s m below meth c C0 G ls hl
  have hx := C0.1
  have hb := C0.2.1
  have hown := C0.2.2.2.2.2.1
  have hts := C0.2.2.2.2.2.2.1
  refine lv_aload_n hx hb dX4_soundShare_0 rfl (lv_at hl 0 rfl) ?_
  refine lv_iload_n hx hb dX4_soundShare_1 rfl (lv_at hl 1 rfl) ?_
  refine g_callV (As := [.int (nI k)]) (rest := []) (q0 := 0) C0 G (c_X4_cardAt l D cy (ad := ad) (fr := fr) (bk := bk) (vw := vw) (tk := tk) (to := to) (fk := fk) (fo := fo) (kp := kp) (sp := sp) (lt := lt) (ib := ib) (rw := rw) (cl := cl) (nu := nu) (tv := tv) (tm := tm) (ta := ta) (ml := ml) (tn := tn) (R := R) (k := k) (by omega)) k_X4_cardAt ml_X4_47 rfl rfl dX4_soundShare_2 rfl rfl hl.1 (Nat.le_of_ble_eq_true rfl) ⟨Nat.le_of_ble_eq_true rfl, Nat.le_of_ble_eq_true rfl⟩ ⟨Nat.le_of_ble_eq_true rfl, Nat.le_of_ble_eq_true rfl⟩ (fun r W2 H locs hp G => ?_)
  obtain ⟨rfl, hw⟩ := hp
  have G := g_wc hw G
  refine W.eq (g2 := F0 m 5 ls [.ref (ad (10 + k))]) rfl ?_
  refine lv_astore_n (lv' := [(2, .ref (ad (10 + k))), (0, .ref (ad 0)), (1, .int (nI k))]) hx hb dX4_soundShare_5 rfl hl (by decide) rfl (fun ls hl => ?_)
  refine lv_aload_n hx hb dX4_soundShare_6 rfl (lv_at hl 0 rfl) ?_
  refine g_callVN (As := []) (rest := []) (q0 := k + 9) C0 G (GE.at (i := k + 9) (wC_at (k := k) (by omega)) (fun R => (c_X0_sound l D cy (R := R) (h := ad (10 + k)) (f := fr k) (b := bk k) (v := vw k)  ))) k_X0_sound nm_X4_180 (wC_at (k := k) (by omega)) rfl dX4_soundShare_7 rfl rfl hl.1 (Nat.le_of_ble_eq_true rfl) ⟨Nat.le_of_ble_eq_true rfl, Nat.le_of_ble_eq_true rfl⟩ ⟨Nat.le_of_ble_eq_true rfl, Nat.le_of_ble_eq_true rfl⟩ (fun r W2 H locs hp G => ?_)
  obtain ⟨rfl, hw⟩ := hp
  have G : gW D (wC ad cy fr bk vw tk to fk fo kp sp lt ib rw cl nu tv tm ta ml tn R) (va_A (wC ad cy fr bk vw tk to fk fo kp sp lt ib rw cl nu tv tm ta ml tn R) s.heap.size) s H locs := g_wc (hw.trans (wC_set (k := k) (by omega) (va_up_s _ _) (va_up_s _ _) (va_up_s _ _))) G
  refine W.eq (g2 := F0 m 10 ls [.long (sdW (fr k) (bk k))]) rfl ?_
  refine g_callS (As := [.long (sdW (fr k) (bk k))]) (rest := []) C0 G (c_J13_bitCount_95d88 l D cy (W1 := wC ad cy fr bk vw tk to fk fo kp sp lt ib rw cl nu tv tm ta ml tn R) (w := sdW (fr k) (bk k)) ) k_J13_bitCount_95d88 ml_X4_93 dX4_soundShare_10 rfl rfl hl.1 (Nat.le_of_ble_eq_true rfl) ⟨Nat.le_of_ble_eq_true rfl, Nat.le_of_ble_eq_true rfl⟩ ⟨Nat.le_of_ble_eq_true rfl, Nat.le_of_ble_eq_true rfl⟩ (fun r W2 H locs hp G => ?_)
  obtain ⟨rfl, hw⟩ := hp
  have G := g_wc hw G
  refine W.eq (g2 := F0 m 13 ls [.int (nI (pc (sdW (fr k) (bk k))))]) rfl ?_
  refine lv_i2d hx hb dX4_soundShare_13 ?_
  refine lv_ldc2d (v := (4634204016564240384)) hx hb hown (hts _ kd_X4_200) dX4_soundShare_14 ?_
  refine lv_ddiv hx hb dX4_soundShare_17 (n64_n (pc_le _)) ?_
  exact g_dret C0 G ⟨by first | rfl | (exfalso; omega) | (simp only [Bool.false_eq_true, ↓reduceIte, eq_self, decide_true, decide_false, not_true_eq_false, not_false_eq_true, Bool.true_and, Bool.false_and, Bool.and_true, Bool.and_false]; done) | (simp []; done) | (simp []; rfl) | (simp []; omega), by first | rfl | (exfalso; omega) | (simp only [Bool.false_eq_true, ↓reduceIte, eq_self, decide_true, decide_false, not_true_eq_false, not_false_eq_true, Bool.true_and, Bool.false_and, Bool.and_true, Bool.and_false]; done) | (simp []; done) | (simp []; rfl) | (simp []; omega)⟩ dX4_soundShare_18

set_option maxHeartbeats 4000000 in
set_option maxRecDepth 100000 in
theorem c_X4_untoldIf (l : Launch) (D : va_G) (cy : Nat → ClassId) (ad : Nat → Nat) (fr : Nat → Int64) (bk : Nat → Int64) (vw : Nat → Nat) (tk : Int64) (to : Int64) (fk : Int64) (fo : Int64) (kp : Nat) (sp : Nat) (lt : Nat) (ib : Bool) (rw : Nat) (cl : Nat) (nu : Nat) (tv : Nat) (tm : Nat) (ta : Nat → Int32) (ml : Int32) (tn : Nat) (R : va_W) (k : Nat) (i : Nat) (j : Nat) (hk : k < 3) (hi : i < 8) (hj : j < 8) : GE l D (gts cy) yX4_untoldIf cX4_untoldIf 5 (some .int) 5 0 0 [.ref (ad 0), .int (nI k), .int (nI i), .int (nI j)] (wC ad cy fr bk vw tk to fk fo kp sp lt ib rw cl nu tv tm ta ml tn R) (gF (some (.int (uwI (fr k) (bk k) (8 * i + j)))) (wC ad cy fr bk vw tk to ((uwF (fr k) (bk k) (8 * i + j) (fk, fo)).1) ((uwF (fr k) (bk k) (8 * i + j) (fk, fo)).2) kp sp lt ib rw cl nu tv tm ta ml tn R)) := by
  refine g_intro (by decide +kernel) (lv := [(0, .ref (ad 0)), (1, .int (nI k)), (2, .int (nI i)), (3, .int (nI j))]) rfl (Nat.le_of_ble_eq_true rfl) ?_
  intro p e s m below meth c C0 G ls hl
  have hx := C0.1
  have hb := C0.2.1
  have hown := C0.2.2.2.2.2.1
  have hts := C0.2.2.2.2.2.2.1
  refine lv_aload_n hx hb dX4_untoldIf_0 rfl (lv_at hl 0 rfl) ?_
  refine lv_iload_n hx hb dX4_untoldIf_1 rfl (lv_at hl 1 rfl) ?_
  refine g_callV (As := [.int (nI k)]) (rest := []) (q0 := 0) C0 G (c_X4_cardAt l D cy (ad := ad) (fr := fr) (bk := bk) (vw := vw) (tk := tk) (to := to) (fk := fk) (fo := fo) (kp := kp) (sp := sp) (lt := lt) (ib := ib) (rw := rw) (cl := cl) (nu := nu) (tv := tv) (tm := tm) (ta := ta) (ml := ml) (tn := tn) (R := R) (k := k) (by omega)) k_X4_cardAt ml_X4_47 rfl rfl dX4_untoldIf_2 rfl rfl hl.1 (Nat.le_of_ble_eq_true rfl) ⟨Nat.le_of_ble_eq_true rfl, Nat.le_of_ble_eq_true rfl⟩ ⟨Nat.le_of_ble_eq_true rfl, Nat.le_of_ble_eq_true rfl⟩ (fun r W2 H locs hp G => ?_)
  obtain ⟨rfl, hw⟩ := hp
  have G := g_wc hw G
  refine W.eq (g2 := F0 m 5 ls [.ref (ad (10 + k))]) rfl ?_
  refine lv_astore (lv' := [(4, .ref (ad (10 + k))), (0, .ref (ad 0)), (1, .int (nI k)), (2, .int (nI i)), (3, .int (nI j))]) hx hb dX4_untoldIf_5 hl (by decide) rfl (fun ls hl => ?_)
  refine lv_iload_n hx hb dX4_untoldIf_7 rfl (lv_at hl 3 rfl) ?_
  refine lv_iload_n hx hb dX4_untoldIf_8 rfl (lv_at hl 4 rfl) ?_
  refine g_callS (As := [.int (nI i), .int (nI j)]) (rest := []) C0 G (c_X4_requireCell l D cy (W1 := wC ad cy fr bk vw tk to fk fo kp sp lt ib rw cl nu tv tm ta ml tn R) (i := i) (j := j) (by omega) (by omega)) k_X4_requireCell ml_X4_123 dX4_untoldIf_9 rfl rfl hl.1 (Nat.le_of_ble_eq_true rfl) ⟨Nat.le_of_ble_eq_true rfl, Nat.le_of_ble_eq_true rfl⟩ ⟨Nat.le_of_ble_eq_true rfl, Nat.le_of_ble_eq_true rfl⟩ (fun r W2 H locs hp G => ?_)
  obtain ⟨rfl, hw⟩ := hp
  have G := g_wc hw G
  refine W.eq (g2 := F0 m 12 ls []) rfl ?_
  refine lv_aload_n hx hb dX4_untoldIf_12 rfl (lv_at hl 1 rfl) ?_
  refine lv_aload hx hb dX4_untoldIf_13 (lv_at hl 0 rfl) ?_
  refine lv_iload_n hx hb dX4_untoldIf_15 rfl (lv_at hl 3 rfl) ?_
  refine lv_iload_n hx hb dX4_untoldIf_16 rfl (lv_at hl 4 rfl) ?_
  refine g_callS (As := [.int (nI i), .int (nI j)]) (rest := [.ref (ad (10 + k)), .ref (ad 0)]) C0 G (c_X4_cellNumber l D cy (W1 := wC ad cy fr bk vw tk to fk fo kp sp lt ib rw cl nu tv tm ta ml tn R) (row := i) (col := j) ) k_X4_cellNumber ml_X4_165 dX4_untoldIf_17 rfl rfl hl.1 (Nat.le_of_ble_eq_true rfl) ⟨Nat.le_of_ble_eq_true rfl, Nat.le_of_ble_eq_true rfl⟩ ⟨Nat.le_of_ble_eq_true rfl, Nat.le_of_ble_eq_true rfl⟩ (fun r W2 H locs hp G => ?_)
  obtain ⟨rfl, hw⟩ := hp
  have G := g_wc hw G
  refine W.eq (g2 := F0 m 20 ls [.int (nI (8 * i + j)), .ref (ad (10 + k)), .ref (ad 0)]) rfl ?_
  refine g_callV (As := [.ref (ad (10 + k)), .int (nI (8 * i + j))]) (rest := []) (q0 := 0) C0 G (c_X4_untoldWithout l D cy (ad := ad) (fr := fr) (bk := bk) (vw := vw) (tk := tk) (to := to) (fk := fk) (fo := fo) (kp := kp) (sp := sp) (lt := lt) (ib := ib) (rw := rw) (cl := cl) (nu := nu) (tv := tv) (tm := tm) (ta := ta) (ml := ml) (tn := tn) (R := R) (k := k) (j := 8 * i + j) (by omega) (by omega)) k_X4_untoldWithout ml_X4_202 rfl rfl dX4_untoldIf_20 rfl rfl hl.1 (Nat.le_of_ble_eq_true rfl) ⟨Nat.le_of_ble_eq_true rfl, Nat.le_of_ble_eq_true rfl⟩ ⟨Nat.le_of_ble_eq_true rfl, Nat.le_of_ble_eq_true rfl⟩ (fun r W2 H locs hp G => ?_)
  obtain ⟨rfl, hw⟩ := hp
  have G := g_wc hw G
  refine W.eq (g2 := F0 m 23 ls [.int (uwI (fr k) (bk k) (8 * i + j))]) rfl ?_
  exact g_iret C0 G ⟨by first | rfl | (exfalso; omega) | (simp only [Bool.false_eq_true, ↓reduceIte, eq_self, decide_true, decide_false, not_true_eq_false, not_false_eq_true, Bool.true_and, Bool.false_and, Bool.and_true, Bool.and_false]; done) | (simp []; done) | (simp []; rfl) | (simp []; omega), by first | rfl | (exfalso; omega) | (simp only [Bool.false_eq_true, ↓reduceIte, eq_self, decide_true, decide_false, not_true_eq_false, not_false_eq_true, Bool.true_and, Bool.false_and, Bool.and_true, Bool.and_false]; done) | (simp []; done) | (simp []; rfl) | (simp []; omega)⟩ dX4_untoldIf_23

set_option maxHeartbeats 4000000 in
set_option maxRecDepth 100000 in
theorem c_X4_difference (l : Launch) (D : va_G) (cy : Nat → ClassId) (ad : Nat → Nat) (fr : Nat → Int64) (bk : Nat → Int64) (vw : Nat → Nat) (tk : Int64) (to : Int64) (fk : Int64) (fo : Int64) (kp : Nat) (sp : Nat) (lt : Nat) (ib : Bool) (rw : Nat) (cl : Nat) (nu : Nat) (tv : Nat) (tm : Nat) (ta : Nat → Int32) (ml : Int32) (tn : Nat) (R : va_W) (k : Nat) (j : Nat) (hk : k < 3) (hj3 : j < 3) : GE l D (gts cy) yX4_difference cX4_difference 10 (some .int) 5 0 0 [.ref (ad 0), .int (nI k), .int (nI j)] (wC ad cy fr bk vw tk to fk fo kp sp lt ib rw cl nu tv tm ta ml tn R) (gF (some (.int (nI (pc ((((fa (sdW (fr k) (bk k)) (onW (fr k) (bk k))).1) &&& ((fa (sdW (fr j) (bk j)) (onW (fr j) (bk j))).1)) &&& (((fa (sdW (fr k) (bk k)) (onW (fr k) (bk k))).2) ^^^ ((fa (sdW (fr j) (bk j)) (onW (fr j) (bk j))).2))))))) (wC ad cy fr bk vw ((fa (sdW (fr j) (bk j)) (onW (fr j) (bk j))).1) ((fa (sdW (fr j) (bk j)) (onW (fr j) (bk j))).2) fk fo kp sp lt ib rw cl nu tv tm ta ml tn R)) := by
  refine g_intro (by decide +kernel) (lv := [(0, .ref (ad 0)), (1, .int (nI k)), (2, .int (nI j))]) rfl (Nat.le_of_ble_eq_true rfl) ?_
  intro p e s m below meth c C0 G ls hl
  have hx := C0.1
  have hb := C0.2.1
  have hown := C0.2.2.2.2.2.1
  have hts := C0.2.2.2.2.2.2.1
  refine lv_aload_n hx hb dX4_difference_0 rfl (lv_at hl 0 rfl) ?_
  refine lv_iload_n hx hb dX4_difference_1 rfl (lv_at hl 1 rfl) ?_
  refine g_callV (As := [.int (nI k)]) (rest := []) (q0 := 0) C0 G (c_X4_cardAt l D cy (ad := ad) (fr := fr) (bk := bk) (vw := vw) (tk := tk) (to := to) (fk := fk) (fo := fo) (kp := kp) (sp := sp) (lt := lt) (ib := ib) (rw := rw) (cl := cl) (nu := nu) (tv := tv) (tm := tm) (ta := ta) (ml := ml) (tn := tn) (R := R) (k := k) (by omega)) k_X4_cardAt ml_X4_47 rfl rfl dX4_difference_2 rfl rfl hl.1 (Nat.le_of_ble_eq_true rfl) ⟨Nat.le_of_ble_eq_true rfl, Nat.le_of_ble_eq_true rfl⟩ ⟨Nat.le_of_ble_eq_true rfl, Nat.le_of_ble_eq_true rfl⟩ (fun r W2 H locs hp G => ?_)
  obtain ⟨rfl, hw⟩ := hp
  have G := g_wc hw G
  refine W.eq (g2 := F0 m 5 ls [.ref (ad (10 + k))]) rfl ?_
  refine lv_astore_n (lv' := [(3, .ref (ad (10 + k))), (0, .ref (ad 0)), (1, .int (nI k)), (2, .int (nI j))]) hx hb dX4_difference_5 rfl hl (by decide) rfl (fun ls hl => ?_)
  refine lv_aload_n hx hb dX4_difference_6 rfl (lv_at hl 1 rfl) ?_
  refine lv_iload_n hx hb dX4_difference_7 rfl (lv_at hl 3 rfl) ?_
  refine g_callV (As := [.int (nI j)]) (rest := []) (q0 := 0) C0 G (c_X4_cardAt l D cy (ad := ad) (fr := fr) (bk := bk) (vw := vw) (tk := tk) (to := to) (fk := fk) (fo := fo) (kp := kp) (sp := sp) (lt := lt) (ib := ib) (rw := rw) (cl := cl) (nu := nu) (tv := tv) (tm := tm) (ta := ta) (ml := ml) (tn := tn) (R := R) (k := j) (by omega)) k_X4_cardAt ml_X4_47 rfl rfl dX4_difference_8 rfl rfl hl.1 (Nat.le_of_ble_eq_true rfl) ⟨Nat.le_of_ble_eq_true rfl, Nat.le_of_ble_eq_true rfl⟩ ⟨Nat.le_of_ble_eq_true rfl, Nat.le_of_ble_eq_true rfl⟩ (fun r W2 H locs hp G => ?_)
  obtain ⟨rfl, hw⟩ := hp
  have G := g_wc hw G
  refine W.eq (g2 := F0 m 11 ls [.ref (ad (10 + j))]) rfl ?_
  refine lv_astore (lv' := [(4, .ref (ad (10 + j))), (3, .ref (ad (10 + k))), (0, .ref (ad 0)), (1, .int (nI k)), (2, .int (nI j))]) hx hb dX4_difference_11 hl (by decide) rfl (fun ls hl => ?_)
  refine lv_aload_n hx hb dX4_difference_13 rfl (lv_at hl 2 rfl) ?_
  refine lv_aload_n hx hb dX4_difference_14 rfl (lv_at hl 1 rfl) ?_
  refine g_callV (As := [.ref (ad (10 + k))]) (rest := []) (q0 := 0) C0 G (c_X4_tellingOf l D cy (ad := ad) (fr := fr) (bk := bk) (vw := vw) (tk := tk) (to := to) (fk := fk) (fo := fo) (kp := kp) (sp := sp) (lt := lt) (ib := ib) (rw := rw) (cl := cl) (nu := nu) (tv := tv) (tm := tm) (ta := ta) (ml := ml) (tn := tn) (R := R) (k := k) (by omega)) k_X4_tellingOf ml_X4_107 rfl rfl dX4_difference_15 rfl rfl hl.1 (Nat.le_of_ble_eq_true rfl) ⟨Nat.le_of_ble_eq_true rfl, Nat.le_of_ble_eq_true rfl⟩ ⟨Nat.le_of_ble_eq_true rfl, Nat.le_of_ble_eq_true rfl⟩ (fun r W2 H locs hp G => ?_)
  obtain ⟨rfl, hw⟩ := hp
  have G := g_wc hw G
  refine W.eq (g2 := F0 m 18 ls [.ref (ad 2)]) rfl ?_
  refine lv_astore (lv' := [(5, .ref (ad 2)), (4, .ref (ad (10 + j))), (3, .ref (ad (10 + k))), (0, .ref (ad 0)), (1, .int (nI k)), (2, .int (nI j))]) hx hb dX4_difference_18 hl (by decide) rfl (fun ls hl => ?_)
  refine lv_aload hx hb dX4_difference_20 (lv_at hl 0 rfl) ?_
  refine g_getN (q0 := 2) (v := .long ((fa (sdW (fr k) (bk k)) (onW (fr k) (bk k))).1)) C0 G in_X3 rfl rfl 0 (by decide) nf_X4_114 (fun _ h => h) rfl dX4_difference_22 ?_
  refine lv_lstore (lv' := [(6, .long ((fa (sdW (fr k) (bk k)) (onW (fr k) (bk k))).1)), (5, .ref (ad 2)), (4, .ref (ad (10 + j))), (3, .ref (ad (10 + k))), (0, .ref (ad 0)), (1, .int (nI k)), (2, .int (nI j))]) hx hb dX4_difference_25 hl (by decide) rfl (fun ls hl => ?_)
  refine lv_aload hx hb dX4_difference_27 (lv_at hl 1 rfl) ?_
  refine g_getN (q0 := 2) (v := .long ((fa (sdW (fr k) (bk k)) (onW (fr k) (bk k))).2)) C0 G in_X3 rfl rfl 1 (by decide) nf_X4_111 (fun _ h => h) rfl dX4_difference_29 ?_
  refine lv_lstore (lv' := [(8, .long ((fa (sdW (fr k) (bk k)) (onW (fr k) (bk k))).2)), (6, .long ((fa (sdW (fr k) (bk k)) (onW (fr k) (bk k))).1)), (5, .ref (ad 2)), (4, .ref (ad (10 + j))), (3, .ref (ad (10 + k))), (0, .ref (ad 0)), (1, .int (nI k)), (2, .int (nI j))]) hx hb dX4_difference_32 hl (by decide) rfl (fun ls hl => ?_)
  refine lv_aload_n hx hb dX4_difference_34 rfl (lv_at hl 5 rfl) ?_
  refine lv_aload hx hb dX4_difference_35 (lv_at hl 3 rfl) ?_
  refine g_callV (As := [.ref (ad (10 + j))]) (rest := []) (q0 := 0) C0 G (c_X4_tellingOf l D cy (ad := ad) (fr := fr) (bk := bk) (vw := vw) (tk := (fa (sdW (fr k) (bk k)) (onW (fr k) (bk k))).1) (to := (fa (sdW (fr k) (bk k)) (onW (fr k) (bk k))).2) (fk := fk) (fo := fo) (kp := kp) (sp := sp) (lt := lt) (ib := ib) (rw := rw) (cl := cl) (nu := nu) (tv := tv) (tm := tm) (ta := ta) (ml := ml) (tn := tn) (R := R) (k := j) (by omega)) k_X4_tellingOf ml_X4_107 rfl rfl dX4_difference_37 rfl rfl hl.1 (Nat.le_of_ble_eq_true rfl) ⟨Nat.le_of_ble_eq_true rfl, Nat.le_of_ble_eq_true rfl⟩ ⟨Nat.le_of_ble_eq_true rfl, Nat.le_of_ble_eq_true rfl⟩ (fun r W2 H locs hp G => ?_)
  obtain ⟨rfl, hw⟩ := hp
  have G := g_wc hw G
  refine W.eq (g2 := F0 m 40 ls [.ref (ad 2)]) rfl ?_
  refine lv_astore (lv' := [(5, .ref (ad 2)), (8, .long ((fa (sdW (fr k) (bk k)) (onW (fr k) (bk k))).2)), (6, .long ((fa (sdW (fr k) (bk k)) (onW (fr k) (bk k))).1)), (4, .ref (ad (10 + j))), (3, .ref (ad (10 + k))), (0, .ref (ad 0)), (1, .int (nI k)), (2, .int (nI j))]) hx hb dX4_difference_40 hl (by decide) rfl (fun ls hl => ?_)
  refine lv_lload hx hb dX4_difference_42 (lv_at hl 2 rfl) ?_
  refine lv_aload hx hb dX4_difference_44 (lv_at hl 0 rfl) ?_
  refine g_getN (q0 := 2) (v := .long ((fa (sdW (fr j) (bk j)) (onW (fr j) (bk j))).1)) C0 G in_X3 rfl rfl 0 (by decide) nf_X4_114 (fun _ h => h) rfl dX4_difference_46 ?_
  refine lv_land hx hb dX4_difference_49 ?_
  refine lv_lload hx hb dX4_difference_50 (lv_at hl 1 rfl) ?_
  refine lv_aload hx hb dX4_difference_52 (lv_at hl 0 rfl) ?_
  refine g_getN (q0 := 2) (v := .long ((fa (sdW (fr j) (bk j)) (onW (fr j) (bk j))).2)) C0 G in_X3 rfl rfl 1 (by decide) nf_X4_111 (fun _ h => h) rfl dX4_difference_54 ?_
  refine lv_lxor hx hb dX4_difference_57 ?_
  refine lv_land hx hb dX4_difference_58 ?_
  refine g_callS (As := [.long ((((fa (sdW (fr k) (bk k)) (onW (fr k) (bk k))).1) &&& ((fa (sdW (fr j) (bk j)) (onW (fr j) (bk j))).1)) &&& (((fa (sdW (fr k) (bk k)) (onW (fr k) (bk k))).2) ^^^ ((fa (sdW (fr j) (bk j)) (onW (fr j) (bk j))).2)))]) (rest := []) C0 G (c_J13_bitCount_95d88 l D cy (W1 := wC ad cy fr bk vw ((fa (sdW (fr j) (bk j)) (onW (fr j) (bk j))).1) ((fa (sdW (fr j) (bk j)) (onW (fr j) (bk j))).2) fk fo kp sp lt ib rw cl nu tv tm ta ml tn R) (w := (((fa (sdW (fr k) (bk k)) (onW (fr k) (bk k))).1) &&& ((fa (sdW (fr j) (bk j)) (onW (fr j) (bk j))).1)) &&& (((fa (sdW (fr k) (bk k)) (onW (fr k) (bk k))).2) ^^^ ((fa (sdW (fr j) (bk j)) (onW (fr j) (bk j))).2))) ) k_J13_bitCount_95d88 ml_X4_93 dX4_difference_59 rfl rfl hl.1 (Nat.le_of_ble_eq_true rfl) ⟨Nat.le_of_ble_eq_true rfl, Nat.le_of_ble_eq_true rfl⟩ ⟨Nat.le_of_ble_eq_true rfl, Nat.le_of_ble_eq_true rfl⟩ (fun r W2 H locs hp G => ?_)
  obtain ⟨rfl, hw⟩ := hp
  have G := g_wc hw G
  refine W.eq (g2 := F0 m 62 ls [.int (nI (pc ((((fa (sdW (fr k) (bk k)) (onW (fr k) (bk k))).1) &&& ((fa (sdW (fr j) (bk j)) (onW (fr j) (bk j))).1)) &&& (((fa (sdW (fr k) (bk k)) (onW (fr k) (bk k))).2) ^^^ ((fa (sdW (fr j) (bk j)) (onW (fr j) (bk j))).2)))))]) rfl ?_
  exact g_iret C0 G ⟨by first | rfl | (exfalso; omega) | (simp only [Bool.false_eq_true, ↓reduceIte, eq_self, decide_true, decide_false, not_true_eq_false, not_false_eq_true, Bool.true_and, Bool.false_and, Bool.and_true, Bool.and_false]; done) | (simp []; done) | (simp []; rfl) | (simp []; omega), by first | rfl | (exfalso; omega) | (simp only [Bool.false_eq_true, ↓reduceIte, eq_self, decide_true, decide_false, not_true_eq_false, not_false_eq_true, Bool.true_and, Bool.false_and, Bool.and_true, Bool.and_false]; done) | (simp []; done) | (simp []; rfl) | (simp []; omega)⟩ dX4_difference_62

set_option maxHeartbeats 4000000 in
set_option maxRecDepth 100000 in
theorem c_X4_undo (l : Launch) (D : va_G) (cy : Nat → ClassId) (ad : Nat → Nat) (fr : Nat → Int64) (bk : Nat → Int64) (vw : Nat → Nat) (tk : Int64) (to : Int64) (fk : Int64) (fo : Int64) (kp : Nat) (sp : Nat) (lt : Nat) (ib : Bool) (rw : Nat) (cl : Nat) (nu : Nat) (tv : Nat) (tm : Nat) (ta : Nat → Int32) (ml : Int32) (tn : Nat) (R : va_W)  (hkp : kp ≤ 6) (h0 : 0 < kp) : GE l D (gts cy) yX4_undo cX4_undo 1 (some .int) 2 0 0 [.ref (ad 0)] (wC ad cy fr bk vw tk to fk fo kp sp lt ib rw cl nu tv tm ta ml tn R) (gF (some (.int (nI (kp - 1)))) (wC ad cy (if 0 < kp then rsU fr ((kp - 1) * 3) 3 else fr) (if 0 < kp then rsU bk ((kp - 1) * 3) 3 else bk) (if 0 < kp then rsU vw ((kp - 1) * 3) 3 else vw) tk to fk fo (kp - 1) sp lt ib rw cl nu tv tm ta ml tn R)) := by
  refine g_intro (by decide +kernel) (lv := [(0, .ref (ad 0))]) rfl (Nat.le_of_ble_eq_true rfl) ?_
  intro p e s m below meth c C0 G ls hl
  have hx := C0.1
  have hb := C0.2.1
  have hown := C0.2.2.2.2.2.1
  have hts := C0.2.2.2.2.2.2.1
  refine lv_aload_n hx hb dX4_undo_0 rfl (lv_at hl 0 rfl) ?_
  refine g_get (q0 := 0) (v := .ref (ad 4)) C0 G in_X4 rfl rfl 3 (by decide) fl_X4_29 (fun _ h => h) rfl dX4_undo_1 ?_
  refine lv_aload_n hx hb dX4_undo_4 rfl (lv_at hl 0 rfl) ?_
  refine g_get (q0 := 0) (v := .ref (ad 1)) C0 G in_X4 rfl rfl 0 (by decide) fl_X4_11 (fun _ h => h) rfl dX4_undo_5 ?_
  refine g_callVN (As := [.ref (ad 1)]) (rest := []) (q0 := 4) C0 G (c_X1_restores l D cy (ad := ad) (fr := fr) (bk := bk) (vw := vw) (tk := tk) (to := to) (fk := fk) (fo := fo) (kp := kp) (sp := sp) (lt := lt) (ib := ib) (rw := rw) (cl := cl) (nu := nu) (tv := tv) (tm := tm) (ta := ta) (ml := ml) (tn := tn) (R := R)  (by omega)) k_X1_restores nm_X4_235 rfl rfl dX4_undo_8 rfl rfl hl.1 (Nat.le_of_ble_eq_true rfl) ⟨Nat.le_of_ble_eq_true rfl, Nat.le_of_ble_eq_true rfl⟩ ⟨Nat.le_of_ble_eq_true rfl, Nat.le_of_ble_eq_true rfl⟩ (fun r W2 H locs hp G => ?_)
  obtain ⟨rfl, hw⟩ := hp
  have G := g_wc hw G
  refine W.eq (g2 := F0 m 11 ls [.int (bI (decide (0 < kp)))]) rfl ?_
  refine lv_if_ne (tgt := 24) hx hb dX4_undo_11 (by decide) (fun c_11 => ?_) (fun c_11 => ?_)
  · skip
    have c_11 : (decide (0 < kp)) = true := bI_t c_11
    refine lv_aload_n hx hb dX4_undo_24 rfl (lv_at hl 0 rfl) ?_
    refine g_get (q0 := 0) (v := .ref (ad 4)) C0 G in_X4 rfl rfl 3 (by decide) fl_X4_29 (fun _ h => h) rfl dX4_undo_25 ?_
    refine g_getN (q0 := 4) (v := .int (nI (kp - 1))) C0 G in_X1 rfl rfl 1 (by decide) nf_X4_241 (fun _ h => h) rfl dX4_undo_28 ?_
    exact g_iret C0 G ⟨by first | rfl | (exfalso; omega) | (simp only [c_11, Bool.false_eq_true, ↓reduceIte, eq_self, decide_true, decide_false, not_true_eq_false, not_false_eq_true, Bool.true_and, Bool.false_and, Bool.and_true, Bool.and_false]; done) | (simp [c_11]; done) | (simp [c_11]; rfl) | (simp [c_11]; omega), by first | rfl | (exfalso; omega) | (simp only [c_11, Bool.false_eq_true, ↓reduceIte, eq_self, decide_true, decide_false, not_true_eq_false, not_false_eq_true, Bool.true_and, Bool.false_and, Bool.and_true, Bool.and_false]; done) | (simp [c_11]; done) | (simp [c_11]; rfl) | (simp [c_11]; omega)⟩ dX4_undo_31
  · skip
    have c_11 : (decide (0 < kp)) = false := bI_f c_11
    exact absurd (of_decide_eq_false c_11) (by omega)

set_option maxHeartbeats 4000000 in
set_option maxRecDepth 100000 in
theorem c_X4_savedStates (l : Launch) (D : va_G) (cy : Nat → ClassId) (ad : Nat → Nat) (fr : Nat → Int64) (bk : Nat → Int64) (vw : Nat → Nat) (tk : Int64) (to : Int64) (fk : Int64) (fo : Int64) (kp : Nat) (sp : Nat) (lt : Nat) (ib : Bool) (rw : Nat) (cl : Nat) (nu : Nat) (tv : Nat) (tm : Nat) (ta : Nat → Int32) (ml : Int32) (tn : Nat) (R : va_W)   : GE l D (gts cy) yX4_savedStates cX4_savedStates 1 (some .int) 0 0 0 [.ref (ad 0)] (wC ad cy fr bk vw tk to fk fo kp sp lt ib rw cl nu tv tm ta ml tn R) (gF (some (.int (nI kp))) (wC ad cy fr bk vw tk to fk fo kp sp lt ib rw cl nu tv tm ta ml tn R)) := by
  refine g_intro (by decide +kernel) (lv := [(0, .ref (ad 0))]) rfl (Nat.le_of_ble_eq_true rfl) ?_
  intro p e s m below meth c C0 G ls hl
  have hx := C0.1
  have hb := C0.2.1
  have hown := C0.2.2.2.2.2.1
  have hts := C0.2.2.2.2.2.2.1
  refine lv_aload_n hx hb dX4_savedStates_0 rfl (lv_at hl 0 rfl) ?_
  refine g_get (q0 := 0) (v := .ref (ad 4)) C0 G in_X4 rfl rfl 3 (by decide) fl_X4_29 (fun _ h => h) rfl dX4_savedStates_1 ?_
  refine g_getN (q0 := 4) (v := .int (nI kp)) C0 G in_X1 rfl rfl 1 (by decide) nf_X4_241 (fun _ h => h) rfl dX4_savedStates_4 ?_
  exact g_iret C0 G ⟨by first | rfl | (exfalso; omega) | (simp only [Bool.false_eq_true, ↓reduceIte, eq_self, decide_true, decide_false, not_true_eq_false, not_false_eq_true, Bool.true_and, Bool.false_and, Bool.and_true, Bool.and_false]; done) | (simp []; done) | (simp []; rfl) | (simp []; omega), by first | rfl | (exfalso; omega) | (simp only [Bool.false_eq_true, ↓reduceIte, eq_self, decide_true, decide_false, not_true_eq_false, not_false_eq_true, Bool.true_and, Bool.false_and, Bool.and_true, Bool.and_false]; done) | (simp []; done) | (simp []; rfl) | (simp []; omega)⟩ dX4_savedStates_7

set_option maxHeartbeats 4000000 in
set_option maxRecDepth 100000 in
theorem c_X4_digest (l : Launch) (D : va_G) (cy : Nat → ClassId) (ad : Nat → Nat) (fr : Nat → Int64) (bk : Nat → Int64) (vw : Nat → Nat) (tk : Int64) (to : Int64) (fk : Int64) (fo : Int64) (kp : Nat) (sp : Nat) (lt : Nat) (ib : Bool) (rw : Nat) (cl : Nat) (nu : Nat) (tv : Nat) (tm : Nat) (ta : Nat → Int32) (ml : Int32) (tn : Nat) (R : va_W)  (hva : ∀ k, k < 3 → vw k < 4) : GE l D (gts cy) yX4_digest cX4_digest 6 (some .long) 6 0 0 [.ref (ad 0)] (wC ad cy fr bk vw tk to fk fo kp sp lt ib rw cl nu tv tm ta ml tn R) (gF (some (.long (dgH fr bk vw 3))) (wC ad cy fr bk vw ((dgT fr bk (tk, to) 3).1) ((dgT fr bk (tk, to) 3).2) ((dgF fr bk (fk, fo) 3).1) ((dgF fr bk (fk, fo) 3).2) kp sp lt ib rw cl nu tv tm ta ml tn R)) := by
  refine g_intro (by decide +kernel) (lv := [(0, .ref (ad 0))]) rfl (Nat.le_of_ble_eq_true rfl) ?_
  intro p e s m below meth c C0 G ls hl
  have hx := C0.1
  have hb := C0.2.1
  have hown := C0.2.2.2.2.2.1
  have hts := C0.2.2.2.2.2.2.1
  refine lv_ldc2 (v := (4876)) hx hb hown (hts _ kl_X4_244) dX4_digest_0 ?_
  refine lv_lstore_n (lv' := [(1, .long ((4876) : Int64)), (0, .ref (ad 0))]) hx hb dX4_digest_3 rfl hl (by decide) rfl (fun ls hl => ?_)
  refine lv_iconst (v := 0) hx hb dX4_digest_4 (by decide) ?_
  refine lv_istore_n (lv' := [(3, .int 0), (1, .long ((4876) : Int64)), (0, .ref (ad 0))]) hx hb dX4_digest_5 rfl hl (by decide) rfl (fun ls hl => ?_)
  have hl := lv_sub hl (l' := [(0, .ref (ad 0)), (1, .long ((4876) : Int64)), (3, .int 0)]) [2, 1, 0] rfl
  refine g_loop (σ := Nat) (fun i => 3 - i) (fun i => wC ad cy fr bk vw ((dgT fr bk (tk, to) i).1) ((dgT fr bk (tk, to) i).2) ((dgF fr bk (fk, fo) i).1) ((dgF fr bk (fk, fo) i).2) kp sp lt ib rw cl nu tv tm ta ml tn R) (fun i => [(0, .ref (ad 0)), (1, .long (dgH fr bk vw i)), (3, .int (nI i))]) (fun i => i ≤ 3) ?_ 0 (by show _ ≤ _; omega) G hl
  intro i hi_6 ih_6 H locs ls G hl
  have G : gW D (wC ad cy fr bk vw ((dgT fr bk (tk, to) i).1) ((dgT fr bk (tk, to) i).2) ((dgF fr bk (fk, fo) i).1) ((dgF fr bk (fk, fo) i).2) kp sp lt ib rw cl nu tv tm ta ml tn R) (va_A (wC ad cy fr bk vw tk to fk fo kp sp lt ib rw cl nu tv tm ta ml tn R) s.heap.size) s H locs := G
  have hl : lv_has ls 6 [(0, .ref (ad 0)), (1, .long (dgH fr bk vw i)), (3, .int (nI i))] := hl
  refine lv_iload_n hx hb dX4_digest_6 rfl (lv_at hl 2 rfl) ?_
  refine lv_aload_n hx hb dX4_digest_7 rfl (lv_at hl 0 rfl) ?_
  refine g_get (q0 := 0) (v := .ref (ad 1)) C0 G in_X4 rfl rfl 0 (by decide) fl_X4_11 (fun _ h => h) rfl dX4_digest_8 ?_
  refine g_alen (q0 := 1) (v := 3) C0 G rfl 1 rfl rfl dX4_digest_11 ?_
  refine lv_icmp_ge (tgt := 103) hx hb dX4_digest_12 (by decide) (fun c_12 => ?_) (fun c_12 => ?_)
  · skip
    have c_12 : 3 ≤ i := (nI_leI (a := 3) (b := i) (by omega) (by omega)).mp c_12
    obtain rfl : i = 3 := by omega
    have G : gW D (wC ad cy fr bk vw ((dgT fr bk (tk, to) 3).1) ((dgT fr bk (tk, to) 3).2) ((dgF fr bk (fk, fo) 3).1) ((dgF fr bk (fk, fo) 3).2) kp sp lt ib rw cl nu tv tm ta ml tn R) (va_A (wC ad cy fr bk vw tk to fk fo kp sp lt ib rw cl nu tv tm ta ml tn R) s.heap.size) s _ _ := G
    have hl : lv_has ls 6 [(0, .ref (ad 0)), (1, .long (dgH fr bk vw 3)), (3, .int (nI 3))] := hl
    refine lv_lload_n hx hb dX4_digest_103 rfl (lv_at hl 1 rfl) ?_
    exact g_lret C0 G ⟨by first | rfl | (exfalso; omega) | (simp only [c_12, Bool.false_eq_true, ↓reduceIte, eq_self, decide_true, decide_false, not_true_eq_false, not_false_eq_true, Bool.true_and, Bool.false_and, Bool.and_true, Bool.and_false]; done) | (simp [c_12]; done) | (simp [c_12]; rfl) | (simp [c_12]; omega), by first | rfl | (exfalso; omega) | (simp only [c_12, Bool.false_eq_true, ↓reduceIte, eq_self, decide_true, decide_false, not_true_eq_false, not_false_eq_true, Bool.true_and, Bool.false_and, Bool.and_true, Bool.and_false]; done) | (simp [c_12]; done) | (simp [c_12]; rfl) | (simp [c_12]; omega)⟩ dX4_digest_104
  · skip
    have c_12 : ¬ (3 ≤ i) := fun h => c_12 ((nI_leI (a := 3) (b := i) (by omega) (by omega)).mpr h)
    have hvi : vw i < 4 := hva i (by omega)
    refine lv_aload_n hx hb dX4_digest_15 rfl (lv_at hl 0 rfl) ?_
    refine g_get (q0 := 0) (v := .ref (ad 1)) C0 G in_X4 rfl rfl 0 (by decide) fl_X4_11 (fun _ h => h) rfl dX4_digest_16 ?_
    refine lv_iload_n hx hb dX4_digest_19 rfl (lv_at hl 2 rfl) ?_
    refine g_aldq (q0 := 1) (n := 3) C0 G rfl 1 rfl (vp_in_nI (n := i) (by omega) (by decide)) dX4_digest_20 ?_
    refine g_topv (x' := .ref (ad (10 + i))) (congrArg (fun z => va_rf ((fun j => some (ad (10 + j))) z)) (nI_clamp (n := i) (by omega))) ?_
    refine lv_astore (lv' := [(4, .ref (ad (10 + i))), (0, .ref (ad 0)), (1, .long (dgH fr bk vw i)), (3, .int (nI i))]) hx hb dX4_digest_21 hl (by decide) rfl (fun ls hl => ?_)
    refine lv_aload_n hx hb dX4_digest_23 rfl (lv_at hl 1 rfl) ?_
    refine lv_aload hx hb dX4_digest_24 (lv_at hl 0 rfl) ?_
    refine g_callV (As := [.ref (ad (10 + i))]) (rest := []) (q0 := 0) C0 G (c_X4_tellingOf l D cy (ad := ad) (fr := fr) (bk := bk) (vw := vw) (tk := (dgT fr bk (tk, to) i).1) (to := (dgT fr bk (tk, to) i).2) (fk := (dgF fr bk (fk, fo) i).1) (fo := (dgF fr bk (fk, fo) i).2) (kp := kp) (sp := sp) (lt := lt) (ib := ib) (rw := rw) (cl := cl) (nu := nu) (tv := tv) (tm := tm) (ta := ta) (ml := ml) (tn := tn) (R := R) (k := i) (by omega)) k_X4_tellingOf ml_X4_107 rfl rfl dX4_digest_26 rfl rfl hl.1 (Nat.le_of_ble_eq_true rfl) ⟨Nat.le_of_ble_eq_true rfl, Nat.le_of_ble_eq_true rfl⟩ ⟨Nat.le_of_ble_eq_true rfl, Nat.le_of_ble_eq_true rfl⟩ (fun r W2 H locs hp G => ?_)
    obtain ⟨rfl, hw⟩ := hp
    have G := g_wc hw G
    refine W.eq (g2 := F0 m 29 ls [.ref (ad 2)]) rfl ?_
    refine lv_astore (lv' := [(5, .ref (ad 2)), (4, .ref (ad (10 + i))), (0, .ref (ad 0)), (1, .long (dgH fr bk vw i)), (3, .int (nI i))]) hx hb dX4_digest_29 hl (by decide) rfl (fun ls hl => ?_)
    refine lv_lload_n hx hb dX4_digest_31 rfl (lv_at hl 3 rfl) ?_
    refine lv_aload hx hb dX4_digest_32 (lv_at hl 1 rfl) ?_
    refine g_getN (q0 := i + 9) (v := .int (nI (vw i))) C0 G in_X0 (wC_at (k := i) (by omega)) rfl 2 (by decide) nf_X4_151 (fun _ h => h) rfl dX4_digest_34 ?_
    refine g_callS (As := [.long (dgH fr bk vw i), .int (nI (vw i))]) (rest := []) C0 G (c_X4_mixed l D cy (W1 := wC ad cy fr bk vw ((fa (sdW (fr i) (bk i)) (onW (fr i) (bk i))).1) ((fa (sdW (fr i) (bk i)) (onW (fr i) (bk i))).2) ((dgF fr bk (fk, fo) i).1) ((dgF fr bk (fk, fo) i).2) kp sp lt ib rw cl nu tv tm ta ml tn R) (ha := dgH fr bk vw i) (x := nI (vw i)) ) k_X4_mixed ml_X4_246 dX4_digest_37 rfl rfl hl.1 (Nat.le_of_ble_eq_true rfl) ⟨Nat.le_of_ble_eq_true rfl, Nat.le_of_ble_eq_true rfl⟩ ⟨Nat.le_of_ble_eq_true rfl, Nat.le_of_ble_eq_true rfl⟩ (fun r W2 H locs hp G => ?_)
    obtain ⟨rfl, hw⟩ := hp
    have G := g_wc hw G
    refine W.eq (g2 := F0 m 40 ls [.long (mxL (dgH fr bk vw i) (nI (vw i)))]) rfl ?_
    refine lv_lstore_n (lv' := [(1, .long (mxL (dgH fr bk vw i) (nI (vw i)))), (5, .ref (ad 2)), (4, .ref (ad (10 + i))), (0, .ref (ad 0)), (3, .int (nI i))]) hx hb dX4_digest_40 rfl hl (by decide) rfl (fun ls hl => ?_)
    refine lv_lload_n hx hb dX4_digest_41 rfl (lv_at hl 0 rfl) ?_
    refine lv_aload hx hb dX4_digest_42 (lv_at hl 2 rfl) ?_
    refine g_callS (As := [.long (mxL (dgH fr bk vw i) (nI (vw i))), .ref (ad (10 + i))]) (rest := []) C0 G (GE.at (i := i + 9) (wC_at (k := i) (by omega)) (fun R => (c_X4_mixedWithCounts l D cy (R := R) (h := ad (10 + i)) (f := fr i) (b := bk i) (v := vw i) (ha := mxL (dgH fr bk vw i) (nI (vw i))) ))) k_X4_mixedWithCounts ml_X4_250 dX4_digest_44 rfl rfl hl.1 (Nat.le_of_ble_eq_true rfl) ⟨Nat.le_of_ble_eq_true rfl, Nat.le_of_ble_eq_true rfl⟩ ⟨Nat.le_of_ble_eq_true rfl, Nat.le_of_ble_eq_true rfl⟩ (fun r W2 H locs hp G => ?_)
    obtain ⟨rfl, hw⟩ := hp
    have G : gW D (wC ad cy fr bk vw ((fa (sdW (fr i) (bk i)) (onW (fr i) (bk i))).1) ((fa (sdW (fr i) (bk i)) (onW (fr i) (bk i))).2) ((dgF fr bk (fk, fo) i).1) ((dgF fr bk (fk, fo) i).2) kp sp lt ib rw cl nu tv tm ta ml tn R) (va_A (wC ad cy fr bk vw tk to fk fo kp sp lt ib rw cl nu tv tm ta ml tn R) s.heap.size) s H locs := g_wc (hw.trans (wC_set (k := i) (by omega) (va_up_s _ _) (va_up_s _ _) (va_up_s _ _))) G
    refine W.eq (g2 := F0 m 47 ls [.long (mcL (fr i) (bk i) (mxL (dgH fr bk vw i) (nI (vw i))) 4)]) rfl ?_
    refine lv_lstore_n (lv' := [(1, .long (mcL (fr i) (bk i) (mxL (dgH fr bk vw i) (nI (vw i))) 4)), (5, .ref (ad 2)), (4, .ref (ad (10 + i))), (0, .ref (ad 0)), (3, .int (nI i))]) hx hb dX4_digest_47 rfl hl (by decide) rfl (fun ls hl => ?_)
    refine lv_lload_n hx hb dX4_digest_48 rfl (lv_at hl 0 rfl) ?_
    refine lv_aload hx hb dX4_digest_49 (lv_at hl 1 rfl) ?_
    refine g_callVN (As := []) (rest := [.long (mcL (fr i) (bk i) (mxL (dgH fr bk vw i) (nI (vw i))) 4)]) (q0 := 2) C0 G (GE.at (i := 2) rfl (fun R => (c_X3_unknownCells l D cy (R := R) (h := ad 2) (kn := (fa (sdW (fr i) (bk i)) (onW (fr i) (bk i))).1) (on := (fa (sdW (fr i) (bk i)) (onW (fr i) (bk i))).2)  ))) k_X3_unknownCells nm_X4_189 rfl rfl dX4_digest_51 rfl rfl hl.1 (Nat.le_of_ble_eq_true rfl) ⟨Nat.le_of_ble_eq_true rfl, Nat.le_of_ble_eq_true rfl⟩ ⟨Nat.le_of_ble_eq_true rfl, Nat.le_of_ble_eq_true rfl⟩ (fun r W2 H locs hp G => ?_)
    obtain ⟨rfl, hw⟩ := hp
    have G : gW D (wC ad cy fr bk vw ((fa (sdW (fr i) (bk i)) (onW (fr i) (bk i))).1) ((fa (sdW (fr i) (bk i)) (onW (fr i) (bk i))).2) ((dgF fr bk (fk, fo) i).1) ((dgF fr bk (fk, fo) i).2) kp sp lt ib rw cl nu tv tm ta ml tn R) (va_A (wC ad cy fr bk vw tk to fk fo kp sp lt ib rw cl nu tv tm ta ml tn R) s.heap.size) s H locs := g_wc (hw.trans (by rfl)) G
    refine W.eq (g2 := F0 m 54 ls [.int (nI (pc (((fa (sdW (fr i) (bk i)) (onW (fr i) (bk i))).1) ^^^ (-1)))), .long (mcL (fr i) (bk i) (mxL (dgH fr bk vw i) (nI (vw i))) 4)]) rfl ?_
    refine g_callS (As := [.long (mcL (fr i) (bk i) (mxL (dgH fr bk vw i) (nI (vw i))) 4), .int (nI (pc (((fa (sdW (fr i) (bk i)) (onW (fr i) (bk i))).1) ^^^ (-1))))]) (rest := []) C0 G (c_X4_mixed l D cy (W1 := wC ad cy fr bk vw ((fa (sdW (fr i) (bk i)) (onW (fr i) (bk i))).1) ((fa (sdW (fr i) (bk i)) (onW (fr i) (bk i))).2) ((dgF fr bk (fk, fo) i).1) ((dgF fr bk (fk, fo) i).2) kp sp lt ib rw cl nu tv tm ta ml tn R) (ha := mcL (fr i) (bk i) (mxL (dgH fr bk vw i) (nI (vw i))) 4) (x := nI (pc (((fa (sdW (fr i) (bk i)) (onW (fr i) (bk i))).1) ^^^ (-1)))) ) k_X4_mixed ml_X4_246 dX4_digest_54 rfl rfl hl.1 (Nat.le_of_ble_eq_true rfl) ⟨Nat.le_of_ble_eq_true rfl, Nat.le_of_ble_eq_true rfl⟩ ⟨Nat.le_of_ble_eq_true rfl, Nat.le_of_ble_eq_true rfl⟩ (fun r W2 H locs hp G => ?_)
    obtain ⟨rfl, hw⟩ := hp
    have G := g_wc hw G
    refine W.eq (g2 := F0 m 57 ls [.long (mxL (mcL (fr i) (bk i) (mxL (dgH fr bk vw i) (nI (vw i))) 4) (nI (pc (((fa (sdW (fr i) (bk i)) (onW (fr i) (bk i))).1) ^^^ (-1)))))]) rfl ?_
    refine lv_lstore_n (lv' := [(1, .long (mxL (mcL (fr i) (bk i) (mxL (dgH fr bk vw i) (nI (vw i))) 4) (nI (pc (((fa (sdW (fr i) (bk i)) (onW (fr i) (bk i))).1) ^^^ (-1)))))), (5, .ref (ad 2)), (4, .ref (ad (10 + i))), (0, .ref (ad 0)), (3, .int (nI i))]) hx hb dX4_digest_57 rfl hl (by decide) rfl (fun ls hl => ?_)
    refine lv_lload_n hx hb dX4_digest_58 rfl (lv_at hl 0 rfl) ?_
    refine lv_aload hx hb dX4_digest_59 (lv_at hl 1 rfl) ?_
    refine g_callVN (As := []) (rest := [.long (mxL (mcL (fr i) (bk i) (mxL (dgH fr bk vw i) (nI (vw i))) 4) (nI (pc (((fa (sdW (fr i) (bk i)) (onW (fr i) (bk i))).1) ^^^ (-1)))))]) (q0 := 2) C0 G (GE.at (i := 2) rfl (fun R => (c_X3_disagreeingLines l D cy (R := R) (h := ad 2) (kn := (fa (sdW (fr i) (bk i)) (onW (fr i) (bk i))).1) (on := (fa (sdW (fr i) (bk i)) (onW (fr i) (bk i))).2)  ))) k_X3_disagreeingLines nm_X4_192 rfl rfl dX4_digest_61 rfl rfl hl.1 (Nat.le_of_ble_eq_true rfl) ⟨Nat.le_of_ble_eq_true rfl, Nat.le_of_ble_eq_true rfl⟩ ⟨Nat.le_of_ble_eq_true rfl, Nat.le_of_ble_eq_true rfl⟩ (fun r W2 H locs hp G => ?_)
    obtain ⟨rfl, hw⟩ := hp
    have G : gW D (wC ad cy fr bk vw ((fa (sdW (fr i) (bk i)) (onW (fr i) (bk i))).1) ((fa (sdW (fr i) (bk i)) (onW (fr i) (bk i))).2) ((dgF fr bk (fk, fo) i).1) ((dgF fr bk (fk, fo) i).2) kp sp lt ib rw cl nu tv tm ta ml tn R) (va_A (wC ad cy fr bk vw tk to fk fo kp sp lt ib rw cl nu tv tm ta ml tn R) s.heap.size) s H locs := g_wc (hw.trans (by rfl)) G
    refine W.eq (g2 := F0 m 64 ls [.int (nI (cnt (dgB ((fa (sdW (fr i) (bk i)) (onW (fr i) (bk i))).1) ((fa (sdW (fr i) (bk i)) (onW (fr i) (bk i))).2)) 16)), .long (mxL (mcL (fr i) (bk i) (mxL (dgH fr bk vw i) (nI (vw i))) 4) (nI (pc (((fa (sdW (fr i) (bk i)) (onW (fr i) (bk i))).1) ^^^ (-1)))))]) rfl ?_
    refine g_callS (As := [.long (mxL (mcL (fr i) (bk i) (mxL (dgH fr bk vw i) (nI (vw i))) 4) (nI (pc (((fa (sdW (fr i) (bk i)) (onW (fr i) (bk i))).1) ^^^ (-1))))), .int (nI (cnt (dgB ((fa (sdW (fr i) (bk i)) (onW (fr i) (bk i))).1) ((fa (sdW (fr i) (bk i)) (onW (fr i) (bk i))).2)) 16))]) (rest := []) C0 G (c_X4_mixed l D cy (W1 := wC ad cy fr bk vw ((fa (sdW (fr i) (bk i)) (onW (fr i) (bk i))).1) ((fa (sdW (fr i) (bk i)) (onW (fr i) (bk i))).2) ((dgF fr bk (fk, fo) i).1) ((dgF fr bk (fk, fo) i).2) kp sp lt ib rw cl nu tv tm ta ml tn R) (ha := mxL (mcL (fr i) (bk i) (mxL (dgH fr bk vw i) (nI (vw i))) 4) (nI (pc (((fa (sdW (fr i) (bk i)) (onW (fr i) (bk i))).1) ^^^ (-1))))) (x := nI (cnt (dgB ((fa (sdW (fr i) (bk i)) (onW (fr i) (bk i))).1) ((fa (sdW (fr i) (bk i)) (onW (fr i) (bk i))).2)) 16)) ) k_X4_mixed ml_X4_246 dX4_digest_64 rfl rfl hl.1 (Nat.le_of_ble_eq_true rfl) ⟨Nat.le_of_ble_eq_true rfl, Nat.le_of_ble_eq_true rfl⟩ ⟨Nat.le_of_ble_eq_true rfl, Nat.le_of_ble_eq_true rfl⟩ (fun r W2 H locs hp G => ?_)
    obtain ⟨rfl, hw⟩ := hp
    have G := g_wc hw G
    refine W.eq (g2 := F0 m 67 ls [.long (mxL (mxL (mcL (fr i) (bk i) (mxL (dgH fr bk vw i) (nI (vw i))) 4) (nI (pc (((fa (sdW (fr i) (bk i)) (onW (fr i) (bk i))).1) ^^^ (-1))))) (nI (cnt (dgB ((fa (sdW (fr i) (bk i)) (onW (fr i) (bk i))).1) ((fa (sdW (fr i) (bk i)) (onW (fr i) (bk i))).2)) 16)))]) rfl ?_
    refine lv_lstore_n (lv' := [(1, .long (mxL (mxL (mcL (fr i) (bk i) (mxL (dgH fr bk vw i) (nI (vw i))) 4) (nI (pc (((fa (sdW (fr i) (bk i)) (onW (fr i) (bk i))).1) ^^^ (-1))))) (nI (cnt (dgB ((fa (sdW (fr i) (bk i)) (onW (fr i) (bk i))).1) ((fa (sdW (fr i) (bk i)) (onW (fr i) (bk i))).2)) 16)))), (5, .ref (ad 2)), (4, .ref (ad (10 + i))), (0, .ref (ad 0)), (3, .int (nI i))]) hx hb dX4_digest_67 rfl hl (by decide) rfl (fun ls hl => ?_)
    refine lv_lload_n hx hb dX4_digest_68 rfl (lv_at hl 0 rfl) ?_
    refine lv_aload_n hx hb dX4_digest_69 rfl (lv_at hl 3 rfl) ?_
    refine lv_aload hx hb dX4_digest_70 (lv_at hl 2 rfl) ?_
    refine g_callV (As := [.ref (ad (10 + i))]) (rest := [.long (mxL (mxL (mcL (fr i) (bk i) (mxL (dgH fr bk vw i) (nI (vw i))) 4) (nI (pc (((fa (sdW (fr i) (bk i)) (onW (fr i) (bk i))).1) ^^^ (-1))))) (nI (cnt (dgB ((fa (sdW (fr i) (bk i)) (onW (fr i) (bk i))).1) ((fa (sdW (fr i) (bk i)) (onW (fr i) (bk i))).2)) 16)))]) (q0 := 0) C0 G (c_X4_worstCell l D cy (ad := ad) (fr := fr) (bk := bk) (vw := vw) (tk := (fa (sdW (fr i) (bk i)) (onW (fr i) (bk i))).1) (to := (fa (sdW (fr i) (bk i)) (onW (fr i) (bk i))).2) (fk := (dgF fr bk (fk, fo) i).1) (fo := (dgF fr bk (fk, fo) i).2) (kp := kp) (sp := sp) (lt := lt) (ib := ib) (rw := rw) (cl := cl) (nu := nu) (tv := tv) (tm := tm) (ta := ta) (ml := ml) (tn := tn) (R := R) (k := i) (by omega)) k_X4_worstCell ml_X4_206 rfl rfl dX4_digest_72 rfl rfl hl.1 (Nat.le_of_ble_eq_true rfl) ⟨Nat.le_of_ble_eq_true rfl, Nat.le_of_ble_eq_true rfl⟩ ⟨Nat.le_of_ble_eq_true rfl, Nat.le_of_ble_eq_true rfl⟩ (fun r W2 H locs hp G => ?_)
    obtain ⟨rfl, hw⟩ := hp
    have G := g_wc hw G
    refine W.eq (g2 := F0 m 75 ls [.int ((wcS (fr i) (bk i) 64).1), .long (mxL (mxL (mcL (fr i) (bk i) (mxL (dgH fr bk vw i) (nI (vw i))) 4) (nI (pc (((fa (sdW (fr i) (bk i)) (onW (fr i) (bk i))).1) ^^^ (-1))))) (nI (cnt (dgB ((fa (sdW (fr i) (bk i)) (onW (fr i) (bk i))).1) ((fa (sdW (fr i) (bk i)) (onW (fr i) (bk i))).2)) 16)))]) rfl ?_
    refine g_callS (As := [.long (mxL (mxL (mcL (fr i) (bk i) (mxL (dgH fr bk vw i) (nI (vw i))) 4) (nI (pc (((fa (sdW (fr i) (bk i)) (onW (fr i) (bk i))).1) ^^^ (-1))))) (nI (cnt (dgB ((fa (sdW (fr i) (bk i)) (onW (fr i) (bk i))).1) ((fa (sdW (fr i) (bk i)) (onW (fr i) (bk i))).2)) 16))), .int ((wcS (fr i) (bk i) 64).1)]) (rest := []) C0 G (c_X4_mixed l D cy (W1 := wC ad cy fr bk vw ((fa (sdW (fr i) (bk i)) (onW (fr i) (bk i))).1) ((fa (sdW (fr i) (bk i)) (onW (fr i) (bk i))).2) ((wcF (fr i) (bk i) (((dgF fr bk (fk, fo) i).1), ((dgF fr bk (fk, fo) i).2)) 64).1) ((wcF (fr i) (bk i) (((dgF fr bk (fk, fo) i).1), ((dgF fr bk (fk, fo) i).2)) 64).2) kp sp lt ib rw cl nu tv tm ta ml tn R) (ha := mxL (mxL (mcL (fr i) (bk i) (mxL (dgH fr bk vw i) (nI (vw i))) 4) (nI (pc (((fa (sdW (fr i) (bk i)) (onW (fr i) (bk i))).1) ^^^ (-1))))) (nI (cnt (dgB ((fa (sdW (fr i) (bk i)) (onW (fr i) (bk i))).1) ((fa (sdW (fr i) (bk i)) (onW (fr i) (bk i))).2)) 16))) (x := (wcS (fr i) (bk i) 64).1) ) k_X4_mixed ml_X4_246 dX4_digest_75 rfl rfl hl.1 (Nat.le_of_ble_eq_true rfl) ⟨Nat.le_of_ble_eq_true rfl, Nat.le_of_ble_eq_true rfl⟩ ⟨Nat.le_of_ble_eq_true rfl, Nat.le_of_ble_eq_true rfl⟩ (fun r W2 H locs hp G => ?_)
    obtain ⟨rfl, hw⟩ := hp
    have G := g_wc hw G
    refine W.eq (g2 := F0 m 78 ls [.long (mxL (mxL (mxL (mcL (fr i) (bk i) (mxL (dgH fr bk vw i) (nI (vw i))) 4) (nI (pc (((fa (sdW (fr i) (bk i)) (onW (fr i) (bk i))).1) ^^^ (-1))))) (nI (cnt (dgB ((fa (sdW (fr i) (bk i)) (onW (fr i) (bk i))).1) ((fa (sdW (fr i) (bk i)) (onW (fr i) (bk i))).2)) 16))) ((wcS (fr i) (bk i) 64).1))]) rfl ?_
    refine lv_lstore_n (lv' := [(1, .long (mxL (mxL (mxL (mcL (fr i) (bk i) (mxL (dgH fr bk vw i) (nI (vw i))) 4) (nI (pc (((fa (sdW (fr i) (bk i)) (onW (fr i) (bk i))).1) ^^^ (-1))))) (nI (cnt (dgB ((fa (sdW (fr i) (bk i)) (onW (fr i) (bk i))).1) ((fa (sdW (fr i) (bk i)) (onW (fr i) (bk i))).2)) 16))) ((wcS (fr i) (bk i) 64).1))), (5, .ref (ad 2)), (4, .ref (ad (10 + i))), (0, .ref (ad 0)), (3, .int (nI i))]) hx hb dX4_digest_78 rfl hl (by decide) rfl (fun ls hl => ?_)
    refine lv_lload_n hx hb dX4_digest_79 rfl (lv_at hl 0 rfl) ?_
    refine lv_aload hx hb dX4_digest_80 (lv_at hl 2 rfl) ?_
    refine lv_aload hx hb dX4_digest_82 (lv_at hl 1 rfl) ?_
    refine g_callS (As := [.long (mxL (mxL (mxL (mcL (fr i) (bk i) (mxL (dgH fr bk vw i) (nI (vw i))) 4) (nI (pc (((fa (sdW (fr i) (bk i)) (onW (fr i) (bk i))).1) ^^^ (-1))))) (nI (cnt (dgB ((fa (sdW (fr i) (bk i)) (onW (fr i) (bk i))).1) ((fa (sdW (fr i) (bk i)) (onW (fr i) (bk i))).2)) 16))) ((wcS (fr i) (bk i) 64).1)), .ref (ad (10 + i)), .ref (ad 2)]) (rest := []) C0 G (c_X4_mixedWithRows l D cy (ad := ad) (fr := fr) (bk := bk) (vw := vw) (tk := (fa (sdW (fr i) (bk i)) (onW (fr i) (bk i))).1) (to := (fa (sdW (fr i) (bk i)) (onW (fr i) (bk i))).2) (fk := (wcF (fr i) (bk i) (((dgF fr bk (fk, fo) i).1), ((dgF fr bk (fk, fo) i).2)) 64).1) (fo := (wcF (fr i) (bk i) (((dgF fr bk (fk, fo) i).1), ((dgF fr bk (fk, fo) i).2)) 64).2) (kp := kp) (sp := sp) (lt := lt) (ib := ib) (rw := rw) (cl := cl) (nu := nu) (tv := tv) (tm := tm) (ta := ta) (ml := ml) (tn := tn) (R := R) (ha := mxL (mxL (mxL (mcL (fr i) (bk i) (mxL (dgH fr bk vw i) (nI (vw i))) 4) (nI (pc (((fa (sdW (fr i) (bk i)) (onW (fr i) (bk i))).1) ^^^ (-1))))) (nI (cnt (dgB ((fa (sdW (fr i) (bk i)) (onW (fr i) (bk i))).1) ((fa (sdW (fr i) (bk i)) (onW (fr i) (bk i))).2)) 16))) ((wcS (fr i) (bk i) 64).1)) (k := i) (by omega) (by omega)) k_X4_mixedWithRows ml_X4_254 dX4_digest_84 rfl rfl hl.1 (Nat.le_of_ble_eq_true rfl) ⟨Nat.le_of_ble_eq_true rfl, Nat.le_of_ble_eq_true rfl⟩ ⟨Nat.le_of_ble_eq_true rfl, Nat.le_of_ble_eq_true rfl⟩ (fun r W2 H locs hp G => ?_)
    obtain ⟨rfl, hw⟩ := hp
    have G := g_wc hw G
    refine W.eq (g2 := F0 m 87 ls [.long (mrB (fr i) (bk i) ((fa (sdW (fr i) (bk i)) (onW (fr i) (bk i))).1) ((fa (sdW (fr i) (bk i)) (onW (fr i) (bk i))).2) (mrA (fr i) (bk i) (vw i) (mxL (mxL (mxL (mcL (fr i) (bk i) (mxL (dgH fr bk vw i) (nI (vw i))) 4) (nI (pc (((fa (sdW (fr i) (bk i)) (onW (fr i) (bk i))).1) ^^^ (-1))))) (nI (cnt (dgB ((fa (sdW (fr i) (bk i)) (onW (fr i) (bk i))).1) ((fa (sdW (fr i) (bk i)) (onW (fr i) (bk i))).2)) 16))) ((wcS (fr i) (bk i) 64).1)) 8) 7)]) rfl ?_
    refine lv_lstore_n (lv' := [(1, .long (mrB (fr i) (bk i) ((fa (sdW (fr i) (bk i)) (onW (fr i) (bk i))).1) ((fa (sdW (fr i) (bk i)) (onW (fr i) (bk i))).2) (mrA (fr i) (bk i) (vw i) (mxL (mxL (mxL (mcL (fr i) (bk i) (mxL (dgH fr bk vw i) (nI (vw i))) 4) (nI (pc (((fa (sdW (fr i) (bk i)) (onW (fr i) (bk i))).1) ^^^ (-1))))) (nI (cnt (dgB ((fa (sdW (fr i) (bk i)) (onW (fr i) (bk i))).1) ((fa (sdW (fr i) (bk i)) (onW (fr i) (bk i))).2)) 16))) ((wcS (fr i) (bk i) 64).1)) 8) 7)), (5, .ref (ad 2)), (4, .ref (ad (10 + i))), (0, .ref (ad 0)), (3, .int (nI i))]) hx hb dX4_digest_87 rfl hl (by decide) rfl (fun ls hl => ?_)
    refine lv_lload_n hx hb dX4_digest_88 rfl (lv_at hl 0 rfl) ?_
    refine lv_aload hx hb dX4_digest_89 (lv_at hl 2 rfl) ?_
    refine lv_aload hx hb dX4_digest_91 (lv_at hl 1 rfl) ?_
    refine g_callS (As := [.long (mrB (fr i) (bk i) ((fa (sdW (fr i) (bk i)) (onW (fr i) (bk i))).1) ((fa (sdW (fr i) (bk i)) (onW (fr i) (bk i))).2) (mrA (fr i) (bk i) (vw i) (mxL (mxL (mxL (mcL (fr i) (bk i) (mxL (dgH fr bk vw i) (nI (vw i))) 4) (nI (pc (((fa (sdW (fr i) (bk i)) (onW (fr i) (bk i))).1) ^^^ (-1))))) (nI (cnt (dgB ((fa (sdW (fr i) (bk i)) (onW (fr i) (bk i))).1) ((fa (sdW (fr i) (bk i)) (onW (fr i) (bk i))).2)) 16))) ((wcS (fr i) (bk i) 64).1)) 8) 7), .ref (ad (10 + i)), .ref (ad 2)]) (rest := []) C0 G (c_X4_mixedWithCells l D cy (ad := ad) (fr := fr) (bk := bk) (vw := vw) (tk := (fa (sdW (fr i) (bk i)) (onW (fr i) (bk i))).1) (to := (fa (sdW (fr i) (bk i)) (onW (fr i) (bk i))).2) (fk := (wcF (fr i) (bk i) (((dgF fr bk (fk, fo) i).1), ((dgF fr bk (fk, fo) i).2)) 64).1) (fo := (wcF (fr i) (bk i) (((dgF fr bk (fk, fo) i).1), ((dgF fr bk (fk, fo) i).2)) 64).2) (kp := kp) (sp := sp) (lt := lt) (ib := ib) (rw := rw) (cl := cl) (nu := nu) (tv := tv) (tm := tm) (ta := ta) (ml := ml) (tn := tn) (R := R) (ha := mrB (fr i) (bk i) ((fa (sdW (fr i) (bk i)) (onW (fr i) (bk i))).1) ((fa (sdW (fr i) (bk i)) (onW (fr i) (bk i))).2) (mrA (fr i) (bk i) (vw i) (mxL (mxL (mxL (mcL (fr i) (bk i) (mxL (dgH fr bk vw i) (nI (vw i))) 4) (nI (pc (((fa (sdW (fr i) (bk i)) (onW (fr i) (bk i))).1) ^^^ (-1))))) (nI (cnt (dgB ((fa (sdW (fr i) (bk i)) (onW (fr i) (bk i))).1) ((fa (sdW (fr i) (bk i)) (onW (fr i) (bk i))).2)) 16))) ((wcS (fr i) (bk i) 64).1)) 8) 7) (k := i) (by omega)) k_X4_mixedWithCells ml_X4_258 dX4_digest_93 rfl rfl hl.1 (Nat.le_of_ble_eq_true rfl) ⟨Nat.le_of_ble_eq_true rfl, Nat.le_of_ble_eq_true rfl⟩ ⟨Nat.le_of_ble_eq_true rfl, Nat.le_of_ble_eq_true rfl⟩ (fun r W2 H locs hp G => ?_)
    obtain ⟨rfl, hw⟩ := hp
    have G := g_wc hw G
    refine W.eq (g2 := F0 m 96 ls [.long (mlL (fr i) (bk i) ((fa (sdW (fr i) (bk i)) (onW (fr i) (bk i))).1) ((fa (sdW (fr i) (bk i)) (onW (fr i) (bk i))).2) (mrB (fr i) (bk i) ((fa (sdW (fr i) (bk i)) (onW (fr i) (bk i))).1) ((fa (sdW (fr i) (bk i)) (onW (fr i) (bk i))).2) (mrA (fr i) (bk i) (vw i) (mxL (mxL (mxL (mcL (fr i) (bk i) (mxL (dgH fr bk vw i) (nI (vw i))) 4) (nI (pc (((fa (sdW (fr i) (bk i)) (onW (fr i) (bk i))).1) ^^^ (-1))))) (nI (cnt (dgB ((fa (sdW (fr i) (bk i)) (onW (fr i) (bk i))).1) ((fa (sdW (fr i) (bk i)) (onW (fr i) (bk i))).2)) 16))) ((wcS (fr i) (bk i) 64).1)) 8) 7) 64)]) rfl ?_
    refine lv_lstore_n (lv' := [(1, .long (mlL (fr i) (bk i) ((fa (sdW (fr i) (bk i)) (onW (fr i) (bk i))).1) ((fa (sdW (fr i) (bk i)) (onW (fr i) (bk i))).2) (mrB (fr i) (bk i) ((fa (sdW (fr i) (bk i)) (onW (fr i) (bk i))).1) ((fa (sdW (fr i) (bk i)) (onW (fr i) (bk i))).2) (mrA (fr i) (bk i) (vw i) (mxL (mxL (mxL (mcL (fr i) (bk i) (mxL (dgH fr bk vw i) (nI (vw i))) 4) (nI (pc (((fa (sdW (fr i) (bk i)) (onW (fr i) (bk i))).1) ^^^ (-1))))) (nI (cnt (dgB ((fa (sdW (fr i) (bk i)) (onW (fr i) (bk i))).1) ((fa (sdW (fr i) (bk i)) (onW (fr i) (bk i))).2)) 16))) ((wcS (fr i) (bk i) 64).1)) 8) 7) 64)), (5, .ref (ad 2)), (4, .ref (ad (10 + i))), (0, .ref (ad 0)), (3, .int (nI i))]) hx hb dX4_digest_96 rfl hl (by decide) rfl (fun ls hl => ?_)
    refine lv_iinc (v := nI (i + 1)) (lv' := [(3, .int (nI (i + 1))), (1, .long (mlL (fr i) (bk i) ((fa (sdW (fr i) (bk i)) (onW (fr i) (bk i))).1) ((fa (sdW (fr i) (bk i)) (onW (fr i) (bk i))).2) (mrB (fr i) (bk i) ((fa (sdW (fr i) (bk i)) (onW (fr i) (bk i))).1) ((fa (sdW (fr i) (bk i)) (onW (fr i) (bk i))).2) (mrA (fr i) (bk i) (vw i) (mxL (mxL (mxL (mcL (fr i) (bk i) (mxL (dgH fr bk vw i) (nI (vw i))) 4) (nI (pc (((fa (sdW (fr i) (bk i)) (onW (fr i) (bk i))).1) ^^^ (-1))))) (nI (cnt (dgB ((fa (sdW (fr i) (bk i)) (onW (fr i) (bk i))).1) ((fa (sdW (fr i) (bk i)) (onW (fr i) (bk i))).2)) 16))) ((wcS (fr i) (bk i) 64).1)) 8) 7) 64)), (5, .ref (ad 2)), (4, .ref (ad (10 + i))), (0, .ref (ad 0))]) hx hb dX4_digest_97 hl (k := 4) rfl (nI_add i 1) (by decide) rfl (fun ls hl => ?_)
    refine lv_goto (tgt := 6) hx hb dX4_digest_100 (by decide) ?_
    have hl := lv_sub hl (l' := _) [4, 1, 0] rfl
    exact ih_6 (i + 1) (by show _ ≤ _; omega) (by show _ < _; omega) _ _ _ G hl
