theorem n64_d : ∀ n, n < 65 → FP.ddiv (FP.i2d (nI n)) 4634204016564240384 &&& 0x7fffffffffffffff ≤ 0x7ff0000000000000 := by decide +kernel
theorem n64_n {n : Nat} (h : n ≤ 64) : vf_n64 (FP.ddiv (FP.i2d (nI n)) 4634204016564240384) := n64_d n (by omega)
theorem cnt_dis {p q : Nat → Bool} (h : ∀ j, p j = true → q j = true → False) : ∀ n, cnt p n + cnt q n ≤ n
  | 0 => Nat.le_refl _
  | n + 1 => by
    have ih := cnt_dis h n
    show cnt p n + (if p n = true then 1 else 0) + (cnt q n + (if q n = true then 1 else 0)) ≤ n + 1
    by_cases h1 : p n = true
    · rw [if_pos h1, if_neg (fun h2 => h n h1 h2)]; omega
    · rw [if_neg h1]; split <;> omega
theorem cu_dis (f b : Int64) : cuN f b 0 + cuN f b 1 ≤ 64 := cnt_dis (fun j h1 h2 => by
  rw [of_decide_eq_true h1] at h2
  exact absurd (of_decide_eq_true h2) (by decide)) 64
set_option maxHeartbeats 4000000 in
set_option maxRecDepth 100000 in
theorem c_X4_soundShare (l : Launch) (D : va_G) (cy : Nat → ClassId) (ad : Nat → Nat) (fr : Nat → Int64) (bk : Nat → Int64) (vw : Nat → Nat) (tk : Int64) (to : Int64) (fk : Int64) (fo : Int64) (kp : Nat) (sp : Nat) (lt : Nat) (ib : Bool) (rw : Nat) (cl : Nat) (nu : Nat) (tv : Nat) (tm : Nat) (ta : Nat → Int32) (ml : Int32) (tn : Nat) (R : va_W) (p0 : Int32) (hst : l.stackTraces = false) : GX l D (gts cy) yX4_soundShare cX4_soundShare 3 (some .double) 1 4 24 [.ref (ad 0), .int p0] (wC ad cy fr bk vw tk to fk fo kp sp lt ib rw cl nu tv tm ta ml tn R) (fun r W2 => ∃ k : Nat, k < 3 ∧ p0 = nI k ∧ r = some (.double (n64 (pc (sdW (fr k) (bk k))))) ∧ W2 = wC ad cy fr bk vw tk to fk fo kp sp lt ib rw cl nu tv tm ta ml tn R) (fun E => E = "java/lang/IndexOutOfBoundsException" ∧ ir p0 3 = false) := by
  refine g_introX (by decide +kernel) (lv := [(0, .ref (ad 0)), (1, .int p0)]) rfl (Nat.le_of_ble_eq_true rfl) ?_
  intro p e s m below meth c C0 hno G ls hl
  have hx := C0.1
  have hb := C0.2.1
  have hown := C0.2.2.2.2.2.1
  have hts := C0.2.2.2.2.2.2.1
  refine lv_aload_n hx hb dX4_soundShare_0 rfl (lv_at hl 0 rfl) ?_
  refine lv_iload_n hx hb dX4_soundShare_1 rfl (lv_at hl 1 rfl) ?_
  refine g_callXV (As := [.int p0]) (rest := []) (q0 := 0) C0 G (c_X4_cardAt l D cy (ad := ad) (fr := fr) (bk := bk) (vw := vw) (tk := tk) (to := to) (fk := fk) (fo := fo) (kp := kp) (sp := sp) (lt := lt) (ib := ib) (rw := rw) (cl := cl) (nu := nu) (tv := tv) (tm := tm) (ta := ta) (ml := ml) (tn := tn) (R := R) (p0 := p0) hst) k_X4_cardAt ml_X4_47 rfl rfl dX4_soundShare_2 rfl rfl hl.1 (Nat.le_of_ble_eq_true rfl) ⟨Nat.le_of_ble_eq_true rfl, Nat.le_of_ble_eq_true rfl⟩ ⟨Nat.le_of_ble_eq_true rfl, Nat.le_of_ble_eq_true rfl⟩ (fun E ce q9 H locs hx9 G hce hcv hcl => ?_) (fun r W2 H locs hp G => ?_)
  · exact g_out C0 G hno hx9 hce hcv hcl (Nat.le_of_ble_eq_true rfl) (Nat.le_of_ble_eq_true rfl)
  obtain ⟨hw, k, hk, rfl, rfl⟩ := hp
  have G := g_wc hw G
  refine W.eq (g2 := F0 m 5 ls [.ref (ad (10 + k))]) rfl ?_
  refine lv_astore_n (lv' := [(2, .ref (ad (10 + k))), (0, .ref (ad 0)), (1, .int (nI k))]) hx hb dX4_soundShare_5 rfl hl (by decide) rfl (fun ls hl => ?_)
  refine lv_aload_n hx hb dX4_soundShare_6 rfl (lv_at hl 0 rfl) ?_
  refine g_callVN (As := []) (rest := []) (q0 := k + 9) C0 G (GE.at (i := k + 9) (wC_at (k := k) (by omega)) (fun R => (c_X0_sound l D cy (R := R) (h := ad (10 + k)) (f := fr k) (b := bk k) (v := vw k)  ))) k_X0_sound nm_X4_180 (wC_at (k := k) (by omega)) rfl dX4_soundShare_7 rfl rfl hl.1 (Nat.le_of_ble_eq_true rfl) ⟨Nat.le_of_ble_eq_true rfl, Nat.le_of_ble_eq_true rfl⟩ ⟨Nat.le_of_ble_eq_true rfl, Nat.le_of_ble_eq_true rfl⟩ (fun r W2 H locs hp G => ?_)
  obtain ⟨rfl, hw⟩ := hp
  have G : gW D (wC ad cy fr bk vw tk to fk fo kp sp lt ib rw cl nu tv tm ta ml tn R) (va_A (wC ad cy fr bk vw tk to fk fo kp sp lt ib rw cl nu tv tm ta ml tn R) s.heap.size) s H locs := g_wc (hw.trans (wC_set (k := k) (by omega) (va_up_s _ _) (va_up_s _ _) (va_up_s _ _))) G
  refine W.eq (g2 := F0 m 10 ls [.long (sdW (fr k) (bk k))]) rfl ?_
  refine g_callS (As := [.long (sdW (fr k) (bk k))]) (rest := []) C0 G (c_J13_bitCount_95d88 l D cy (W1 := wC ad cy fr bk vw tk to fk fo kp sp lt ib rw cl nu tv tm ta ml tn R) (w := sdW (fr k) (bk k)) ) k_J13_bitCount_95d88 ml_X4_93 dX4_soundShare_10 rfl rfl hl.1 (Nat.le_of_ble_eq_true rfl) ⟨Nat.le_of_ble_eq_true rfl, Nat.le_of_ble_eq_true rfl⟩ ⟨Nat.le_of_ble_eq_true rfl, Nat.le_of_ble_eq_true rfl⟩ (fun r W2 H locs hp G => ?_)
  obtain ⟨rfl, hw⟩ := hp
  have G := g_wc hw G
  refine W.eq (g2 := F0 m 13 ls [.int (nI (pc (sdW (fr k) (bk k))))]) rfl ?_
  refine lv_i2d hx hb dX4_soundShare_13 ?_
  refine lv_ldc2d (v := (4634204016564240384)) hx hb hown (hts _ kd_X4_200) dX4_soundShare_14 ?_
  refine lv_ddiv hx hb dX4_soundShare_17 (n64_n (pc_le _)) ?_
  refine W.widen (k := 4) (n := 24) (Nat.le_of_ble_eq_true rfl) (Nat.le_of_ble_eq_true rfl) ?_
  exact vx_ret (g_dret C0 G ⟨k, hk, rfl, rfl, rfl⟩ dX4_soundShare_18)

set_option maxHeartbeats 4000000 in
set_option maxRecDepth 100000 in
theorem c_X5_soundShare_ok (l : Launch) (D : va_G) (cy : Nat → ClassId) (am : Nat → Nat) (mf : Nat → Int64) (mb : Nat → Int64) (mv : Nat → Nat) (th : Int32) (sv : Nat) (X : Nat → Int32) (ln : Nat) (ap : Nat) (le : Nat) (fc : Nat) (f1 : Int32) (f2 : Int32) (ha : Int64) (R : va_W) (B : Nat → Int32) (k : Nat) (h1 : k < 3) : GE l D (gts cy) yX5_soundShare cX5_soundShare 2 (some .double) 2 0 0 [.ref (am 0), .int (nI k)] (wM am cy th (cS mf mb mv) sv X ln ap le fc f1 f2 (B) ha R) (gF (some (.double (FP.ddiv (FP.i2d (nI ((cuN (mf k) (mb k) (0 : Int32)) + (cuN (mf k) (mb k) (1 : Int32))))) ((4634204016564240384) : UInt64)))) (wM am cy (nI 0) (cS mf mb mv) sv X ln ap le fc f1 f2 (B) ha R)) := by
  refine g_intro (by decide +kernel) (lv := [(0, .ref (am 0)), (1, .int (nI k))]) rfl (Nat.le_of_ble_eq_true rfl) ?_
  intro p e s m below meth c C0 G ls hl
  have hx := C0.1
  have hb := C0.2.1
  have hown := C0.2.2.2.2.2.1
  have hts := C0.2.2.2.2.2.2.1
  refine lv_aload_n hx hb dX5_soundShare_0 rfl (lv_at hl 0 rfl) ?_
  refine lv_iload_n hx hb dX5_soundShare_1 rfl (lv_at hl 1 rfl) ?_
  refine g_callS (As := [.int (nI k)]) (rest := [.ref (am 0)]) C0 G (c_X5_isCard l D cy (W1 := wM am cy th (cS mf mb mv) sv X ln ap le fc f1 f2 (B) ha R) (u := nI k) ) k_X5_isCard ml_X5_89 dX5_soundShare_2 rfl rfl hl.1 (Nat.le_of_ble_eq_true rfl) ⟨Nat.le_of_ble_eq_true rfl, Nat.le_of_ble_eq_true rfl⟩ ⟨Nat.le_of_ble_eq_true rfl, Nat.le_of_ble_eq_true rfl⟩ (fun r W2 H locs hp G => ?_)
  obtain ⟨rfl, hw⟩ := hp
  have G := g_wc hw G
  refine W.eq (g2 := F0 m 5 ls [.int (bI (inB (nI k) 0 2)), .ref (am 0)]) rfl ?_
  refine lv_if_eq (tgt := 12) hx hb dX5_soundShare_5 (by decide) (fun c_5 => ?_) (fun c_5 => ?_)
  · skip
    have c_5 : (inB (nI k) 0 2) = false := bI_f c_5
    exact absurd ((inB_y (n := 2) (by omega) rfl (by decide)) : (inB (nI k) 0 2) = true) (by rw [c_5]; decide)
  · skip
    have c_5 : (inB (nI k) 0 2) = true := bI_t c_5
    refine lv_iconst (v := 0) hx hb dX5_soundShare_8 (by decide) ?_
    refine lv_goto (tgt := 13) hx hb dX5_soundShare_9 (by decide) ?_
    refine g_callV (As := [.int 0]) (rest := []) (q0 := 0) C0 G (c_X5_holds l D cy (am := am) (mf := mf) (mb := mb) (mv := mv) (th := th) (sv := sv) (X := X) (ln := ln) (ap := ap) (le := le) (fc := fc) (f1 := f1) (f2 := f2) (ha := ha) (R := R) (B := B) (pl := 0) (by omega)) k_X5_holds ml_X5_92 rfl rfl dX5_soundShare_13 rfl rfl hl.1 (Nat.le_of_ble_eq_true rfl) ⟨Nat.le_of_ble_eq_true rfl, Nat.le_of_ble_eq_true rfl⟩ ⟨Nat.le_of_ble_eq_true rfl, Nat.le_of_ble_eq_true rfl⟩ (fun r W2 H locs hp G => ?_)
    obtain ⟨rfl, hw⟩ := hp
    have G := g_wc hw G
    refine W.eq (g2 := F0 m 16 ls [.int (bI (decide (0 = 0)))]) rfl ?_
    refine lv_if_eq (tgt := 40) hx hb dX5_soundShare_16 (by decide) (fun c_16 => ?_) (fun c_16 => ?_)
    · skip
      have c_16 : (decide (0 = 0)) = false := bI_f c_16
      exact absurd ((by decide) : (decide (0 = 0)) = true) (by rw [c_16]; decide)
    · skip
      have c_16 : (decide (0 = 0)) = true := bI_t c_16
      refine lv_aload_n hx hb dX5_soundShare_19 rfl (lv_at hl 0 rfl) ?_
      refine lv_iload_n hx hb dX5_soundShare_20 rfl (lv_at hl 1 rfl) ?_
      refine lv_iconst (v := 0) hx hb dX5_soundShare_21 (by decide) ?_
      refine g_callV (As := [.int (nI k), .int 0]) (rest := []) (q0 := 0) C0 G (c_X5_counted l D cy (am := am) (mf := mf) (mb := mb) (mv := mv) (th := nI 0) (sv := sv) (X := X) (ln := ln) (ap := ap) (le := le) (fc := fc) (f1 := f1) (f2 := f2) (ha := ha) (R := R) (B := B) (z := k) (q := (0 : Int32)) (by omega)) k_X5_counted ml_X5_107 rfl rfl dX5_soundShare_22 rfl rfl hl.1 (Nat.le_of_ble_eq_true rfl) ⟨Nat.le_of_ble_eq_true rfl, Nat.le_of_ble_eq_true rfl⟩ ⟨Nat.le_of_ble_eq_true rfl, Nat.le_of_ble_eq_true rfl⟩ (fun r W2 H locs hp G => ?_)
      obtain ⟨rfl, hw⟩ := hp
      have G := g_wc hw G
      refine W.eq (g2 := F0 m 25 ls [.int (nI (cuN (mf k) (mb k) (0 : Int32)))]) rfl ?_
      refine lv_aload_n hx hb dX5_soundShare_25 rfl (lv_at hl 0 rfl) ?_
      refine lv_iload_n hx hb dX5_soundShare_26 rfl (lv_at hl 1 rfl) ?_
      refine lv_iconst (v := 1) hx hb dX5_soundShare_27 (by decide) ?_
      refine g_callV (As := [.int (nI k), .int 1]) (rest := [.int (nI (cuN (mf k) (mb k) (0 : Int32)))]) (q0 := 0) C0 G (c_X5_counted l D cy (am := am) (mf := mf) (mb := mb) (mv := mv) (th := nI 0) (sv := sv) (X := X) (ln := ln) (ap := ap) (le := le) (fc := fc) (f1 := f1) (f2 := f2) (ha := ha) (R := R) (B := B) (z := k) (q := (1 : Int32)) (by omega)) k_X5_counted ml_X5_107 rfl rfl dX5_soundShare_28 rfl rfl hl.1 (Nat.le_of_ble_eq_true rfl) ⟨Nat.le_of_ble_eq_true rfl, Nat.le_of_ble_eq_true rfl⟩ ⟨Nat.le_of_ble_eq_true rfl, Nat.le_of_ble_eq_true rfl⟩ (fun r W2 H locs hp G => ?_)
      obtain ⟨rfl, hw⟩ := hp
      have G := g_wc hw G
      refine W.eq (g2 := F0 m 31 ls [.int (nI (cuN (mf k) (mb k) (1 : Int32))), .int (nI (cuN (mf k) (mb k) (0 : Int32)))]) rfl ?_
      refine lv_iadd hx hb dX5_soundShare_31 ?_
      refine g_topi (x' := nI ((cuN (mf k) (mb k) (0 : Int32)) + (cuN (mf k) (mb k) (1 : Int32)))) (nI_add (cuN (mf k) (mb k) (0 : Int32)) (cuN (mf k) (mb k) (1 : Int32))) ?_
      refine lv_i2d hx hb dX5_soundShare_32 ?_
      refine lv_ldc2d (v := (4634204016564240384)) hx hb hown (hts _ kd_X5_132) dX5_soundShare_33 ?_
      refine lv_ddiv hx hb dX5_soundShare_36 (n64_n (cu_dis _ _)) ?_
      refine lv_goto (tgt := 41) hx hb dX5_soundShare_37 (by decide) ?_
      exact g_dret C0 G ⟨by first | rfl | (exfalso; omega) | (simp only [c_5, c_16, Bool.false_eq_true, ↓reduceIte, eq_self, decide_true, decide_false, not_true_eq_false, not_false_eq_true, Bool.true_and, Bool.false_and, Bool.and_true, Bool.and_false]; done) | (simp [c_5, c_16]; done) | (simp [c_5, c_16]; rfl) | (simp [c_5, c_16]; omega), by first | rfl | (exfalso; omega) | (simp only [c_5, c_16, Bool.false_eq_true, ↓reduceIte, eq_self, decide_true, decide_false, not_true_eq_false, not_false_eq_true, Bool.true_and, Bool.false_and, Bool.and_true, Bool.and_false]; done) | (simp [c_5, c_16]; done) | (simp [c_5, c_16]; rfl) | (simp [c_5, c_16]; omega)⟩ dX5_soundShare_41

set_option maxHeartbeats 4000000 in
set_option maxRecDepth 100000 in
theorem c_X5_soundShare_e1 (l : Launch) (D : va_G) (cy : Nat → ClassId) (am : Nat → Nat) (mf : Nat → Int64) (mb : Nat → Int64) (mv : Nat → Nat) (th : Int32) (sv : Nat) (X : Nat → Int32) (ln : Nat) (ap : Nat) (le : Nat) (fc : Nat) (f1 : Int32) (f2 : Int32) (ha : Int64) (R : va_W) (B : Nat → Int32) (p0 : Int32) (he : inB p0 0 2 = false) : GE l D (gts cy) yX5_soundShare cX5_soundShare 2 (some .double) 2 0 0 [.ref (am 0), .int p0] (wM am cy th (cS mf mb mv) sv X ln ap le fc f1 f2 (B) ha R) (gF (some (.double FP.dconst0)) (wM am cy (nI 1) (cS mf mb mv) sv X ln ap le fc f1 f2 (B) ha R)) := by
  refine g_intro (by decide +kernel) (lv := [(0, .ref (am 0)), (1, .int p0)]) rfl (Nat.le_of_ble_eq_true rfl) ?_
  intro p e s m below meth c C0 G ls hl
  have hx := C0.1
  have hb := C0.2.1
  have hown := C0.2.2.2.2.2.1
  have hts := C0.2.2.2.2.2.2.1
  refine lv_aload_n hx hb dX5_soundShare_0 rfl (lv_at hl 0 rfl) ?_
  refine lv_iload_n hx hb dX5_soundShare_1 rfl (lv_at hl 1 rfl) ?_
  refine g_callS (As := [.int p0]) (rest := [.ref (am 0)]) C0 G (c_X5_isCard l D cy (W1 := wM am cy th (cS mf mb mv) sv X ln ap le fc f1 f2 (B) ha R) (u := p0) ) k_X5_isCard ml_X5_89 dX5_soundShare_2 rfl rfl hl.1 (Nat.le_of_ble_eq_true rfl) ⟨Nat.le_of_ble_eq_true rfl, Nat.le_of_ble_eq_true rfl⟩ ⟨Nat.le_of_ble_eq_true rfl, Nat.le_of_ble_eq_true rfl⟩ (fun r W2 H locs hp G => ?_)
  obtain ⟨rfl, hw⟩ := hp
  have G := g_wc hw G
  refine W.eq (g2 := F0 m 5 ls [.int (bI (inB p0 0 2)), .ref (am 0)]) rfl ?_
  refine lv_if_eq (tgt := 12) hx hb dX5_soundShare_5 (by decide) (fun c_5 => ?_) (fun c_5 => ?_)
  · skip
    have c_5 : (inB p0 0 2) = false := bI_f c_5
    refine lv_iconst (v := 1) hx hb dX5_soundShare_12 (by decide) ?_
    refine g_callV (As := [.int 1]) (rest := []) (q0 := 0) C0 G (c_X5_holds l D cy (am := am) (mf := mf) (mb := mb) (mv := mv) (th := th) (sv := sv) (X := X) (ln := ln) (ap := ap) (le := le) (fc := fc) (f1 := f1) (f2 := f2) (ha := ha) (R := R) (B := B) (pl := 1) (by omega)) k_X5_holds ml_X5_92 rfl rfl dX5_soundShare_13 rfl rfl hl.1 (Nat.le_of_ble_eq_true rfl) ⟨Nat.le_of_ble_eq_true rfl, Nat.le_of_ble_eq_true rfl⟩ ⟨Nat.le_of_ble_eq_true rfl, Nat.le_of_ble_eq_true rfl⟩ (fun r W2 H locs hp G => ?_)
    obtain ⟨rfl, hw⟩ := hp
    have G := g_wc hw G
    refine W.eq (g2 := F0 m 16 ls [.int (bI (decide (1 = 0)))]) rfl ?_
    refine lv_if_eq (tgt := 40) hx hb dX5_soundShare_16 (by decide) (fun c_16 => ?_) (fun c_16 => ?_)
    · skip
      have c_16 : (decide (1 = 0)) = false := bI_f c_16
      refine lv_dconst0 hx hb dX5_soundShare_40 ?_
      exact g_dret C0 G ⟨by first | rfl | (exfalso; omega) | (simp only [c_5, c_16, Bool.false_eq_true, ↓reduceIte, eq_self, decide_true, decide_false, not_true_eq_false, not_false_eq_true, Bool.true_and, Bool.false_and, Bool.and_true, Bool.and_false]; done) | (simp [c_5, c_16]; done) | (simp [c_5, c_16]; rfl) | (simp [c_5, c_16]; omega), by first | rfl | (exfalso; omega) | (simp only [c_5, c_16, Bool.false_eq_true, ↓reduceIte, eq_self, decide_true, decide_false, not_true_eq_false, not_false_eq_true, Bool.true_and, Bool.false_and, Bool.and_true, Bool.and_false]; done) | (simp [c_5, c_16]; done) | (simp [c_5, c_16]; rfl) | (simp [c_5, c_16]; omega)⟩ dX5_soundShare_41
    · skip
      have c_16 : (decide (1 = 0)) = true := bI_t c_16
      exact absurd ((by decide) : (decide (1 = 0)) = false) (by rw [c_16]; decide)
  · skip
    have c_5 : (inB p0 0 2) = true := bI_t c_5
    exact absurd (he : (inB p0 0 2) = false) (by rw [c_5]; decide)
