theorem n64_d : ∀ n, n < 65 → FP.ddiv (FP.i2d (nI n)) 4634204016564240384 &&& 0x7fffffffffffffff ≤ 0x7ff0000000000000 := by decide +kernel
theorem n64_n {n : Nat} (h : n ≤ 64) : vf_n64 (FP.ddiv (FP.i2d (nI n)) 4634204016564240384) := n64_d n (by omega)
theorem cnt_dis {p q : Nat → Bool} (h : ∀ j, p j = true → q j = true → False) : ∀ n, cnt p n + cnt q n ≤ n
  | 0 => Nat.le_refl _
  | n + 1 => by
    have ih := cnt_dis h n
    show cnt p n + (if p n = true then 1 else 0) + (cnt q n + (if q n = true then 1 else 0)) ≤ n + 1
    by_cases h1 : p n = true
    · rw [if_pos h1, if_neg (fun h2 => h n h1 h2)]; omega
    · rw [if_neg h1]; split <;> omega
theorem cu_dis (f b : Int64) : cuN f b 0 + cuN f b 1 ≤ 64 := cnt_dis (fun j h1 h2 => by
  rw [of_decide_eq_true h1] at h2
  exact absurd (of_decide_eq_true h2) (by decide)) 64
def dfO (kn on : Int64) : Nat → Int64
  | 0 => 0
  | i + 1 => dfO kn on i ||| (if biI kn on i = 1 then (1 : Int64) <<< ((nI i).toInt64 &&& 63) else 0)
def dfZ (kn on : Int64) : Nat → Int64
  | 0 => 0
  | i + 1 => dfZ kn on i ||| (if biI kn on i = 0 then (1 : Int64) <<< ((nI i).toInt64 &&& 63) else 0)
theorem dfO_t {kn on : Int64} {i : Nat} (h : biI kn on i = 1) : dfO kn on i ||| (1 : Int64) <<< ((nI i).toInt64 &&& 63) = dfO kn on (i + 1) := by
  show _ = dfO kn on i ||| (if _ then _ else _); rw [if_pos h]
theorem dfO_f {kn on : Int64} {i : Nat} (h : ¬ biI kn on i = 1) : dfO kn on i ||| 0 = dfO kn on (i + 1) := by
  show _ = dfO kn on i ||| (if _ then _ else _); rw [if_neg h]
theorem dfZ_t {kn on : Int64} {i : Nat} (h : biI kn on i = 0) : dfZ kn on i ||| (1 : Int64) <<< ((nI i).toInt64 &&& 63) = dfZ kn on (i + 1) := by
  show _ = dfZ kn on i ||| (if _ then _ else _); rw [if_pos h]
theorem dfZ_f {kn on : Int64} {i : Nat} (h : ¬ biI kn on i = 0) : dfZ kn on i ||| 0 = dfZ kn on (i + 1) := by
  show _ = dfZ kn on i ||| (if _ then _ else _); rw [if_neg h]
def shb (w : Int64) (i : Nat) : Int64 := (w >>> ((nI i).toInt64 &&& 63)) &&& 1
def dfB (o z kn on : Int64) (i : Nat) : Bool := decide ((biI kn on i = 0 ∧ shb o i = 1) ∨ (biI kn on i = 1 ∧ shb z i = 1))
theorem df_one {o z kn on : Int64} {i : Nat} (h : (biI kn on i = 0 ∧ shb o i = 1) ∨ (biI kn on i = 1 ∧ shb z i = 1)) : cnt (dfB o z kn on) i + 1 = cnt (dfB o z kn on) (i + 1) := by
  show _ = cnt (dfB o z kn on) i + (if dfB o z kn on i = true then 1 else 0)
  rw [if_pos (show dfB o z kn on i = true from decide_eq_true h)]
theorem df_zero {o z kn on : Int64} {i : Nat} (h : ¬ ((biI kn on i = 0 ∧ shb o i = 1) ∨ (biI kn on i = 1 ∧ shb z i = 1))) : cnt (dfB o z kn on) i + 0 = cnt (dfB o z kn on) (i + 1) := by
  show _ = cnt (dfB o z kn on) i + (if dfB o z kn on i = true then 1 else 0)
  rw [if_neg (show ¬ dfB o z kn on i = true from fun h2 => h (of_decide_eq_true h2))]
theorem df_01 {x : Int32} (h : x = 0) : ¬ x = 1 := by rw [h]; decide
def dgU (f b : Int64) (v : Nat) (h : Int64) : Int64 :=
  mlL f b (fa (sdW f b) (onW f b)).1 (fa (sdW f b) (onW f b)).2 (mrB f b (fa (sdW f b) (onW f b)).1 (fa (sdW f b) (onW f b)).2 (mrA f b v (mxL (mxL (mxL (mcL f b (mxL h (nI v)) 4) (nI (pc ((fa (sdW f b) (onW f b)).1 ^^^ (-1))))) (nI (cnt (dgB (fa (sdW f b) (onW f b)).1 (fa (sdW f b) (onW f b)).2) 16))) (wcS f b 64).1) 8) 7) 64
def dgH (fr bk : Nat → Int64) (vw : Nat → Nat) : Nat → Int64
  | 0 => 4876
  | i + 1 => dgU (fr i) (bk i) (vw i) (dgH fr bk vw i)
def dgT (fr bk : Nat → Int64) (t : Int64 × Int64) : Nat → Int64 × Int64
  | 0 => t
  | i + 1 => fa (sdW (fr i) (bk i)) (onW (fr i) (bk i))
def dgF (fr bk : Nat → Int64) (t : Int64 × Int64) : Nat → Int64 × Int64
  | 0 => t
  | i + 1 => wcF (fr i) (bk i) (dgF fr bk t i) 64
theorem kd_tb {f b : Int64} {k q : Nat} (hk : k < 64) (hq : q < 4) : decide (kdI f b k = nI q) = tb (kdW f b q) k := by
  have h : q = 0 ∨ q = 1 ∨ q = 2 ∨ q = 3 := by omega
  rcases h with rfl | rfl | rfl | rfl
  · show _ = tb (b &&& (f ^^^ (-1))) k
    rw [tb_and, tb_not hk]; unfold kdI; cases tb f k <;> cases tb b k <;> decide
  · show _ = tb (f &&& (b ^^^ (-1))) k
    rw [tb_and, tb_not hk]; unfold kdI; cases tb f k <;> cases tb b k <;> decide
  · exact kd_bl hk
  · show _ = tb (f &&& b) k
    rw [tb_and]; unfold kdI; cases tb f k <;> cases tb b k <;> decide
theorem cu_kd {f b : Int64} {q : Nat} (hq : q < 4) : cuN f b (nI q) = pc (kdW f b q) := cnt_cong (fun k hk => kd_tb hk hq)
def thF (f b : Int64) (ib : Bool) (n : Nat) (ho : Bool) : Int64 := if hoB f b ib n = ho then f else shF f ib n ho
def thB (f b : Int64) (ib : Bool) (n : Nat) (ho : Bool) : Int64 := if hoB f b ib n = ho then b else shB b ib n ho
def tpO (f b : Int64) (lt : Nat) (ib : Bool) (rw cl : Nat) : Bool :=
  if lt = 99 then ccB f b else if lt = 112 then cpB f b rw else if lt = 118 then true else if lt = 119 then !decide (hoB f b ib (8 * rw + cl) = true) else !decide (hoB f b ib (8 * rw + cl) = false)
def tpF (f b : Int64) (lt : Nat) (ib : Bool) (rw cl nu : Nat) : Int64 :=
  if lt = 99 then (if ccB f b then clF f b else f) else if lt = 112 then (if cpB f b rw then pwF f rw nu else f) else if lt = 118 then f else if lt = 119 then thF f b ib (8 * rw + cl) true else thF f b ib (8 * rw + cl) false
def tpB (f b : Int64) (lt : Nat) (ib : Bool) (rw cl nu : Nat) : Int64 :=
  if lt = 99 then (if ccB f b then clB f b else b) else if lt = 112 then (if cpB f b rw then pwB b rw nu else b) else if lt = 118 then b else if lt = 119 then thB f b ib (8 * rw + cl) true else thB f b ib (8 * rw + cl) false
def tpV (v lt nu : Nat) : Nat := if lt = 118 then nu else v
set_option maxHeartbeats 4000000 in
set_option maxRecDepth 100000 in
theorem c_X4_soundShare (l : Launch) (D : va_G) (cy : Nat → ClassId) (ad : Nat → Nat) (fr : Nat → Int64) (bk : Nat → Int64) (vw : Nat → Nat) (tk : Int64) (to : Int64) (fk : Int64) (fo : Int64) (kp : Nat) (sp : Nat) (lt : Nat) (ib : Bool) (rw : Nat) (cl : Nat) (nu : Nat) (tv : Nat) (tm : Nat) (ta : Nat → Int32) (ml : Int32) (tn : Nat) (R : va_W) (p0 : Int32) (hst : l.stackTraces = false) : GX l D (gts cy) yX4_soundShare cX4_soundShare 3 (some .double) 1 4 24 [.ref (ad 0), .int p0] (wC ad cy fr bk vw tk to fk fo kp sp lt ib rw cl nu tv tm ta ml tn R) (fun r W2 => ∃ k : Nat, k < 3 ∧ p0 = nI k ∧ r = some (.double (n64 (pc (sdW (fr k) (bk k))))) ∧ W2 = wC ad cy fr bk vw tk to fk fo kp sp lt ib rw cl nu tv tm ta ml tn R) (fun E => E = "java/lang/IndexOutOfBoundsException" ∧ ir p0 3 = false) := by
  refine g_introX (by decide +kernel) (lv := [(0, .ref (ad 0)), (1, .int p0)]) rfl (Nat.le_of_ble_eq_true rfl) ?_
  intro p e s m below meth c C0 hno G ls hl
  have hx := C0.1
  have hb := C0.2.1
  have hown := C0.2.2.2.2.2.1
  have hts := C0.2.2.2.2.2.2.1
  refine lv_aload_n hx hb dX4_soundShare_0 rfl (lv_at hl 0 rfl) ?_
  refine lv_iload_n hx hb dX4_soundShare_1 rfl (lv_at hl 1 rfl) ?_
  refine g_callXV (As := [.int p0]) (rest := []) (q0 := 0) C0 G (c_X4_cardAt l D cy (ad := ad) (fr := fr) (bk := bk) (vw := vw) (tk := tk) (to := to) (fk := fk) (fo := fo) (kp := kp) (sp := sp) (lt := lt) (ib := ib) (rw := rw) (cl := cl) (nu := nu) (tv := tv) (tm := tm) (ta := ta) (ml := ml) (tn := tn) (R := R) (p0 := p0) hst) k_X4_cardAt ml_X4_47 rfl rfl dX4_soundShare_2 rfl rfl hl.1 (Nat.le_of_ble_eq_true rfl) ⟨Nat.le_of_ble_eq_true rfl, Nat.le_of_ble_eq_true rfl⟩ ⟨Nat.le_of_ble_eq_true rfl, Nat.le_of_ble_eq_true rfl⟩ (fun E ce q9 H locs hx9 G hce hcv hcl => ?_) (fun r W2 H locs hp G => ?_)
  · exact g_out C0 G hno hx9 hce hcv hcl (Nat.le_of_ble_eq_true rfl) (Nat.le_of_ble_eq_true rfl)
  obtain ⟨hw, k, hk, rfl, rfl⟩ := hp
  have G := g_wc hw G
  refine W.eq (g2 := F0 m 5 ls [.ref (ad (10 + k))]) rfl ?_
  refine lv_astore_n (lv' := [(2, .ref (ad (10 + k))), (0, .ref (ad 0)), (1, .int (nI k))]) hx hb dX4_soundShare_5 rfl hl (by decide) rfl (fun ls hl => ?_)
  refine lv_aload_n hx hb dX4_soundShare_6 rfl (lv_at hl 0 rfl) ?_
  refine g_callVN (As := []) (rest := []) (q0 := k + 9) C0 G (GE.at (i := k + 9) (wC_at (k := k) (by omega)) (fun R => (c_X0_sound l D cy (R := R) (h := ad (10 + k)) (f := fr k) (b := bk k) (v := vw k)  ))) k_X0_sound nm_X4_180 (wC_at (k := k) (by omega)) rfl dX4_soundShare_7 rfl rfl hl.1 (Nat.le_of_ble_eq_true rfl) ⟨Nat.le_of_ble_eq_true rfl, Nat.le_of_ble_eq_true rfl⟩ ⟨Nat.le_of_ble_eq_true rfl, Nat.le_of_ble_eq_true rfl⟩ (fun r W2 H locs hp G => ?_)
  obtain ⟨rfl, hw⟩ := hp
  have G : gW D (wC ad cy fr bk vw tk to fk fo kp sp lt ib rw cl nu tv tm ta ml tn R) (va_A (wC ad cy fr bk vw tk to fk fo kp sp lt ib rw cl nu tv tm ta ml tn R) s.heap.size) s H locs := g_wc (hw.trans (wC_set (k := k) (by omega) (va_up_s _ _) (va_up_s _ _) (va_up_s _ _))) G
  refine W.eq (g2 := F0 m 10 ls [.long (sdW (fr k) (bk k))]) rfl ?_
  refine g_callS (As := [.long (sdW (fr k) (bk k))]) (rest := []) C0 G (c_J13_bitCount_95d88 l D cy (W1 := wC ad cy fr bk vw tk to fk fo kp sp lt ib rw cl nu tv tm ta ml tn R) (w := sdW (fr k) (bk k)) ) k_J13_bitCount_95d88 ml_X4_93 dX4_soundShare_10 rfl rfl hl.1 (Nat.le_of_ble_eq_true rfl) ⟨Nat.le_of_ble_eq_true rfl, Nat.le_of_ble_eq_true rfl⟩ ⟨Nat.le_of_ble_eq_true rfl, Nat.le_of_ble_eq_true rfl⟩ (fun r W2 H locs hp G => ?_)
  obtain ⟨rfl, hw⟩ := hp
  have G := g_wc hw G
  refine W.eq (g2 := F0 m 13 ls [.int (nI (pc (sdW (fr k) (bk k))))]) rfl ?_
  refine lv_i2d hx hb dX4_soundShare_13 ?_
  refine lv_ldc2d (v := (4634204016564240384)) hx hb hown (hts _ kd_X4_200) dX4_soundShare_14 ?_
  refine lv_ddiv hx hb dX4_soundShare_17 (n64_n (pc_le _)) ?_
  refine W.widen (k := 4) (n := 24) (Nat.le_of_ble_eq_true rfl) (Nat.le_of_ble_eq_true rfl) ?_
  exact vx_ret (g_dret C0 G ⟨k, hk, rfl, rfl, rfl⟩ dX4_soundShare_18)

set_option maxHeartbeats 4000000 in
set_option maxRecDepth 100000 in
theorem c_X5_soundShare_ok (l : Launch) (D : va_G) (cy : Nat → ClassId) (am : Nat → Nat) (mf : Nat → Int64) (mb : Nat → Int64) (mv : Nat → Nat) (th : Int32) (sv : Nat) (X : Nat → Int32) (ln : Nat) (ap : Nat) (le : Nat) (fc : Nat) (f1 : Int32) (f2 : Int32) (ha : Int64) (R : va_W) (B : Nat → Int32) (k : Nat) (h1 : k < 3) : GE l D (gts cy) yX5_soundShare cX5_soundShare 2 (some .double) 2 0 0 [.ref (am 0), .int (nI k)] (wM am cy th (cS mf mb mv) sv X ln ap le fc f1 f2 (B) ha R) (gF (some (.double (FP.ddiv (FP.i2d (nI ((cuN (mf k) (mb k) (0 : Int32)) + (cuN (mf k) (mb k) (1 : Int32))))) ((4634204016564240384) : UInt64)))) (wM am cy (nI 0) (cS mf mb mv) sv X ln ap le fc f1 f2 (B) ha R)) := by
  refine g_intro (by decide +kernel) (lv := [(0, .ref (am 0)), (1, .int (nI k))]) rfl (Nat.le_of_ble_eq_true rfl) ?_
  intro p e s m below meth c C0 G ls hl
  have hx := C0.1
  have hb := C0.2.1
  have hown := C0.2.2.2.2.2.1
  have hts := C0.2.2.2.2.2.2.1
  refine lv_aload_n hx hb dX5_soundShare_0 rfl (lv_at hl 0 rfl) ?_
  refine lv_iload_n hx hb dX5_soundShare_1 rfl (lv_at hl 1 rfl) ?_
  refine g_callS (As := [.int (nI k)]) (rest := [.ref (am 0)]) C0 G (c_X5_isCard l D cy (W1 := wM am cy th (cS mf mb mv) sv X ln ap le fc f1 f2 (B) ha R) (u := nI k) ) k_X5_isCard ml_X5_89 dX5_soundShare_2 rfl rfl hl.1 (Nat.le_of_ble_eq_true rfl) ⟨Nat.le_of_ble_eq_true rfl, Nat.le_of_ble_eq_true rfl⟩ ⟨Nat.le_of_ble_eq_true rfl, Nat.le_of_ble_eq_true rfl⟩ (fun r W2 H locs hp G => ?_)
  obtain ⟨rfl, hw⟩ := hp
  have G := g_wc hw G
  refine W.eq (g2 := F0 m 5 ls [.int (bI (inB (nI k) 0 2)), .ref (am 0)]) rfl ?_
  refine lv_if_eq (tgt := 12) hx hb dX5_soundShare_5 (by decide) (fun c_5 => ?_) (fun c_5 => ?_)
  · skip
    have c_5 : (inB (nI k) 0 2) = false := bI_f c_5
    exact absurd ((inB_y (n := 2) (by omega) rfl (by decide)) : (inB (nI k) 0 2) = true) (by rw [c_5]; decide)
  · skip
    have c_5 : (inB (nI k) 0 2) = true := bI_t c_5
    refine lv_iconst (v := 0) hx hb dX5_soundShare_8 (by decide) ?_
    refine lv_goto (tgt := 13) hx hb dX5_soundShare_9 (by decide) ?_
    refine g_callV (As := [.int 0]) (rest := []) (q0 := 0) C0 G (c_X5_holds l D cy (am := am) (mf := mf) (mb := mb) (mv := mv) (th := th) (sv := sv) (X := X) (ln := ln) (ap := ap) (le := le) (fc := fc) (f1 := f1) (f2 := f2) (ha := ha) (R := R) (B := B) (pl := 0) (by omega)) k_X5_holds ml_X5_92 rfl rfl dX5_soundShare_13 rfl rfl hl.1 (Nat.le_of_ble_eq_true rfl) ⟨Nat.le_of_ble_eq_true rfl, Nat.le_of_ble_eq_true rfl⟩ ⟨Nat.le_of_ble_eq_true rfl, Nat.le_of_ble_eq_true rfl⟩ (fun r W2 H locs hp G => ?_)
    obtain ⟨rfl, hw⟩ := hp
    have G := g_wc hw G
    refine W.eq (g2 := F0 m 16 ls [.int (bI (decide (0 = 0)))]) rfl ?_
    refine lv_if_eq (tgt := 40) hx hb dX5_soundShare_16 (by decide) (fun c_16 => ?_) (fun c_16 => ?_)
    · skip
      have c_16 : (decide (0 = 0)) = false := bI_f c_16
      exact absurd ((by decide) : (decide (0 = 0)) = true) (by rw [c_16]; decide)
    · skip
      have c_16 : (decide (0 = 0)) = true := bI_t c_16
      refine lv_aload_n hx hb dX5_soundShare_19 rfl (lv_at hl 0 rfl) ?_
      refine lv_iload_n hx hb dX5_soundShare_20 rfl (lv_at hl 1 rfl) ?_
      refine lv_iconst (v := 0) hx hb dX5_soundShare_21 (by decide) ?_
      refine g_callV (As := [.int (nI k), .int 0]) (rest := []) (q0 := 0) C0 G (c_X5_counted l D cy (am := am) (mf := mf) (mb := mb) (mv := mv) (th := nI 0) (sv := sv) (X := X) (ln := ln) (ap := ap) (le := le) (fc := fc) (f1 := f1) (f2 := f2) (ha := ha) (R := R) (B := B) (z := k) (q := (0 : Int32)) (by omega)) k_X5_counted ml_X5_107 rfl rfl dX5_soundShare_22 rfl rfl hl.1 (Nat.le_of_ble_eq_true rfl) ⟨Nat.le_of_ble_eq_true rfl, Nat.le_of_ble_eq_true rfl⟩ ⟨Nat.le_of_ble_eq_true rfl, Nat.le_of_ble_eq_true rfl⟩ (fun r W2 H locs hp G => ?_)
      obtain ⟨rfl, hw⟩ := hp
      have G := g_wc hw G
      refine W.eq (g2 := F0 m 25 ls [.int (nI (cuN (mf k) (mb k) (0 : Int32)))]) rfl ?_
      refine lv_aload_n hx hb dX5_soundShare_25 rfl (lv_at hl 0 rfl) ?_
      refine lv_iload_n hx hb dX5_soundShare_26 rfl (lv_at hl 1 rfl) ?_
      refine lv_iconst (v := 1) hx hb dX5_soundShare_27 (by decide) ?_
      refine g_callV (As := [.int (nI k), .int 1]) (rest := [.int (nI (cuN (mf k) (mb k) (0 : Int32)))]) (q0 := 0) C0 G (c_X5_counted l D cy (am := am) (mf := mf) (mb := mb) (mv := mv) (th := nI 0) (sv := sv) (X := X) (ln := ln) (ap := ap) (le := le) (fc := fc) (f1 := f1) (f2 := f2) (ha := ha) (R := R) (B := B) (z := k) (q := (1 : Int32)) (by omega)) k_X5_counted ml_X5_107 rfl rfl dX5_soundShare_28 rfl rfl hl.1 (Nat.le_of_ble_eq_true rfl) ⟨Nat.le_of_ble_eq_true rfl, Nat.le_of_ble_eq_true rfl⟩ ⟨Nat.le_of_ble_eq_true rfl, Nat.le_of_ble_eq_true rfl⟩ (fun r W2 H locs hp G => ?_)
      obtain ⟨rfl, hw⟩ := hp
      have G := g_wc hw G
      refine W.eq (g2 := F0 m 31 ls [.int (nI (cuN (mf k) (mb k) (1 : Int32))), .int (nI (cuN (mf k) (mb k) (0 : Int32)))]) rfl ?_
      refine lv_iadd hx hb dX5_soundShare_31 ?_
      refine g_topi (x' := nI ((cuN (mf k) (mb k) (0 : Int32)) + (cuN (mf k) (mb k) (1 : Int32)))) (nI_add (cuN (mf k) (mb k) (0 : Int32)) (cuN (mf k) (mb k) (1 : Int32))) ?_
      refine lv_i2d hx hb dX5_soundShare_32 ?_
      refine lv_ldc2d (v := (4634204016564240384)) hx hb hown (hts _ kd_X5_132) dX5_soundShare_33 ?_
      refine lv_ddiv hx hb dX5_soundShare_36 (n64_n (cu_dis _ _)) ?_
      refine lv_goto (tgt := 41) hx hb dX5_soundShare_37 (by decide) ?_
      exact g_dret C0 G ⟨by first | rfl | (exfalso; omega) | (simp only [c_5, c_16, Bool.false_eq_true, ↓reduceIte, eq_self, decide_true, decide_false, not_true_eq_false, not_false_eq_true, Bool.true_and, Bool.false_and, Bool.and_true, Bool.and_false]; done) | (simp [c_5, c_16]; done) | (simp [c_5, c_16]; rfl) | (simp [c_5, c_16]; omega), by first | rfl | (exfalso; omega) | (simp only [c_5, c_16, Bool.false_eq_true, ↓reduceIte, eq_self, decide_true, decide_false, not_true_eq_false, not_false_eq_true, Bool.true_and, Bool.false_and, Bool.and_true, Bool.and_false]; done) | (simp [c_5, c_16]; done) | (simp [c_5, c_16]; rfl) | (simp [c_5, c_16]; omega)⟩ dX5_soundShare_41

set_option maxHeartbeats 4000000 in
set_option maxRecDepth 100000 in
theorem c_X5_soundShare_e1 (l : Launch) (D : va_G) (cy : Nat → ClassId) (am : Nat → Nat) (mf : Nat → Int64) (mb : Nat → Int64) (mv : Nat → Nat) (th : Int32) (sv : Nat) (X : Nat → Int32) (ln : Nat) (ap : Nat) (le : Nat) (fc : Nat) (f1 : Int32) (f2 : Int32) (ha : Int64) (R : va_W) (B : Nat → Int32) (p0 : Int32) (he : inB p0 0 2 = false) : GE l D (gts cy) yX5_soundShare cX5_soundShare 2 (some .double) 2 0 0 [.ref (am 0), .int p0] (wM am cy th (cS mf mb mv) sv X ln ap le fc f1 f2 (B) ha R) (gF (some (.double FP.dconst0)) (wM am cy (nI 1) (cS mf mb mv) sv X ln ap le fc f1 f2 (B) ha R)) := by
  refine g_intro (by decide +kernel) (lv := [(0, .ref (am 0)), (1, .int p0)]) rfl (Nat.le_of_ble_eq_true rfl) ?_
  intro p e s m below meth c C0 G ls hl
  have hx := C0.1
  have hb := C0.2.1
  have hown := C0.2.2.2.2.2.1
  have hts := C0.2.2.2.2.2.2.1
  refine lv_aload_n hx hb dX5_soundShare_0 rfl (lv_at hl 0 rfl) ?_
  refine lv_iload_n hx hb dX5_soundShare_1 rfl (lv_at hl 1 rfl) ?_
  refine g_callS (As := [.int p0]) (rest := [.ref (am 0)]) C0 G (c_X5_isCard l D cy (W1 := wM am cy th (cS mf mb mv) sv X ln ap le fc f1 f2 (B) ha R) (u := p0) ) k_X5_isCard ml_X5_89 dX5_soundShare_2 rfl rfl hl.1 (Nat.le_of_ble_eq_true rfl) ⟨Nat.le_of_ble_eq_true rfl, Nat.le_of_ble_eq_true rfl⟩ ⟨Nat.le_of_ble_eq_true rfl, Nat.le_of_ble_eq_true rfl⟩ (fun r W2 H locs hp G => ?_)
  obtain ⟨rfl, hw⟩ := hp
  have G := g_wc hw G
  refine W.eq (g2 := F0 m 5 ls [.int (bI (inB p0 0 2)), .ref (am 0)]) rfl ?_
  refine lv_if_eq (tgt := 12) hx hb dX5_soundShare_5 (by decide) (fun c_5 => ?_) (fun c_5 => ?_)
  · skip
    have c_5 : (inB p0 0 2) = false := bI_f c_5
    refine lv_iconst (v := 1) hx hb dX5_soundShare_12 (by decide) ?_
    refine g_callV (As := [.int 1]) (rest := []) (q0 := 0) C0 G (c_X5_holds l D cy (am := am) (mf := mf) (mb := mb) (mv := mv) (th := th) (sv := sv) (X := X) (ln := ln) (ap := ap) (le := le) (fc := fc) (f1 := f1) (f2 := f2) (ha := ha) (R := R) (B := B) (pl := 1) (by omega)) k_X5_holds ml_X5_92 rfl rfl dX5_soundShare_13 rfl rfl hl.1 (Nat.le_of_ble_eq_true rfl) ⟨Nat.le_of_ble_eq_true rfl, Nat.le_of_ble_eq_true rfl⟩ ⟨Nat.le_of_ble_eq_true rfl, Nat.le_of_ble_eq_true rfl⟩ (fun r W2 H locs hp G => ?_)
    obtain ⟨rfl, hw⟩ := hp
    have G := g_wc hw G
    refine W.eq (g2 := F0 m 16 ls [.int (bI (decide (1 = 0)))]) rfl ?_
    refine lv_if_eq (tgt := 40) hx hb dX5_soundShare_16 (by decide) (fun c_16 => ?_) (fun c_16 => ?_)
    · skip
      have c_16 : (decide (1 = 0)) = false := bI_f c_16
      refine lv_dconst0 hx hb dX5_soundShare_40 ?_
      exact g_dret C0 G ⟨by first | rfl | (exfalso; omega) | (simp only [c_5, c_16, Bool.false_eq_true, ↓reduceIte, eq_self, decide_true, decide_false, not_true_eq_false, not_false_eq_true, Bool.true_and, Bool.false_and, Bool.and_true, Bool.and_false]; done) | (simp [c_5, c_16]; done) | (simp [c_5, c_16]; rfl) | (simp [c_5, c_16]; omega), by first | rfl | (exfalso; omega) | (simp only [c_5, c_16, Bool.false_eq_true, ↓reduceIte, eq_self, decide_true, decide_false, not_true_eq_false, not_false_eq_true, Bool.true_and, Bool.false_and, Bool.and_true, Bool.and_false]; done) | (simp [c_5, c_16]; done) | (simp [c_5, c_16]; rfl) | (simp [c_5, c_16]; omega)⟩ dX5_soundShare_41
    · skip
      have c_16 : (decide (1 = 0)) = true := bI_t c_16
      exact absurd ((by decide) : (decide (1 = 0)) = false) (by rw [c_16]; decide)
  · skip
    have c_5 : (inB p0 0 2) = true := bI_t c_5
    exact absurd (he : (inB p0 0 2) = false) (by rw [c_5]; decide)

set_option maxHeartbeats 4000000 in
set_option maxRecDepth 100000 in
theorem c_X5_difference_ok (l : Launch) (D : va_G) (cy : Nat → ClassId) (am : Nat → Nat) (mf : Nat → Int64) (mb : Nat → Int64) (mv : Nat → Nat) (kn : Int64) (on : Int64) (th : Int32) (sv : Nat) (X : Nat → Int32) (ln : Nat) (ap : Nat) (le : Nat) (fc : Nat) (f1 : Int32) (f2 : Int32) (ha : Int64) (R : va_W) (k : Nat) (j : Nat) (h1 : k < 3) (h2 : j < 3) : GE l D (gts cy) yX5_difference cX5_difference 10 (some .int) 4 0 0 [.ref (am 0), .int (nI k), .int (nI j)] (wM am cy th (cS mf mb mv) sv X ln ap le fc f1 f2 (biF kn on) ha R) (gF (some (.int (nI (cnt (dfB (dfO (fa (sdW (mf k) (mb k)) (onW (mf k) (mb k))).1 (fa (sdW (mf k) (mb k)) (onW (mf k) (mb k))).2 64) (dfZ (fa (sdW (mf k) (mb k)) (onW (mf k) (mb k))).1 (fa (sdW (mf k) (mb k)) (onW (mf k) (mb k))).2 64) (fa (sdW (mf j) (mb j)) (onW (mf j) (mb j))).1 (fa (sdW (mf j) (mb j)) (onW (mf j) (mb j))).2) 64)))) (wM am cy (nI 0) (cS mf mb mv) sv X ln ap le fc f1 f2 (biF ((fa (sdW (mf j) (mb j)) (onW (mf j) (mb j))).1) ((fa (sdW (mf j) (mb j)) (onW (mf j) (mb j))).2)) ha R)) := by
  refine g_intro (by decide +kernel) (lv := [(0, .ref (am 0)), (1, .int (nI k)), (2, .int (nI j))]) rfl (Nat.le_of_ble_eq_true rfl) ?_
  intro p e s m below meth c C0 G ls hl
  have hx := C0.1
  have hb := C0.2.1
  have hown := C0.2.2.2.2.2.1
  have hts := C0.2.2.2.2.2.2.1
  refine lv_aload_n hx hb dX5_difference_0 rfl (lv_at hl 0 rfl) ?_
  refine lv_iload_n hx hb dX5_difference_1 rfl (lv_at hl 1 rfl) ?_
  refine g_callS (As := [.int (nI k)]) (rest := [.ref (am 0)]) C0 G (c_X5_isCard l D cy (W1 := wM am cy th (cS mf mb mv) sv X ln ap le fc f1 f2 (biF kn on) ha R) (u := nI k) ) k_X5_isCard ml_X5_89 dX5_difference_2 rfl rfl hl.1 (Nat.le_of_ble_eq_true rfl) ⟨Nat.le_of_ble_eq_true rfl, Nat.le_of_ble_eq_true rfl⟩ ⟨Nat.le_of_ble_eq_true rfl, Nat.le_of_ble_eq_true rfl⟩ (fun r W2 H locs hp G => ?_)
  obtain ⟨rfl, hw⟩ := hp
  have G := g_wc hw G
  refine W.eq (g2 := F0 m 5 ls [.int (bI (inB (nI k) 0 2)), .ref (am 0)]) rfl ?_
  refine lv_if_eq (tgt := 19) hx hb dX5_difference_5 (by decide) (fun c_5 => ?_) (fun c_5 => ?_)
  · skip
    have c_5 : (inB (nI k) 0 2) = false := bI_f c_5
    exact absurd ((inB_y (n := 2) (by omega) rfl (by decide)) : (inB (nI k) 0 2) = true) (by rw [c_5]; decide)
  · skip
    have c_5 : (inB (nI k) 0 2) = true := bI_t c_5
    refine lv_iload_n hx hb dX5_difference_8 rfl (lv_at hl 2 rfl) ?_
    refine g_callS (As := [.int (nI j)]) (rest := [.ref (am 0)]) C0 G (c_X5_isCard l D cy (W1 := wM am cy th (cS mf mb mv) sv X ln ap le fc f1 f2 (biF kn on) ha R) (u := nI j) ) k_X5_isCard ml_X5_89 dX5_difference_9 rfl rfl hl.1 (Nat.le_of_ble_eq_true rfl) ⟨Nat.le_of_ble_eq_true rfl, Nat.le_of_ble_eq_true rfl⟩ ⟨Nat.le_of_ble_eq_true rfl, Nat.le_of_ble_eq_true rfl⟩ (fun r W2 H locs hp G => ?_)
    obtain ⟨rfl, hw⟩ := hp
    have G := g_wc hw G
    refine W.eq (g2 := F0 m 12 ls [.int (bI (inB (nI j) 0 2)), .ref (am 0)]) rfl ?_
    refine lv_if_eq (tgt := 19) hx hb dX5_difference_12 (by decide) (fun c_12 => ?_) (fun c_12 => ?_)
    · skip
      have c_12 : (inB (nI j) 0 2) = false := bI_f c_12
      exact absurd ((inB_y (n := 2) (by omega) rfl (by decide)) : (inB (nI j) 0 2) = true) (by rw [c_12]; decide)
    · skip
      have c_12 : (inB (nI j) 0 2) = true := bI_t c_12
      refine lv_iconst (v := 0) hx hb dX5_difference_15 (by decide) ?_
      refine lv_goto (tgt := 20) hx hb dX5_difference_16 (by decide) ?_
      refine g_callV (As := [.int 0]) (rest := []) (q0 := 0) C0 G (c_X5_holds l D cy (am := am) (mf := mf) (mb := mb) (mv := mv) (th := th) (sv := sv) (X := X) (ln := ln) (ap := ap) (le := le) (fc := fc) (f1 := f1) (f2 := f2) (ha := ha) (R := R) (B := biF kn on) (pl := 0) (by omega)) k_X5_holds ml_X5_92 rfl rfl dX5_difference_20 rfl rfl hl.1 (Nat.le_of_ble_eq_true rfl) ⟨Nat.le_of_ble_eq_true rfl, Nat.le_of_ble_eq_true rfl⟩ ⟨Nat.le_of_ble_eq_true rfl, Nat.le_of_ble_eq_true rfl⟩ (fun r W2 H locs hp G => ?_)
      obtain ⟨rfl, hw⟩ := hp
      have G := g_wc hw G
      refine W.eq (g2 := F0 m 23 ls [.int (bI (decide (0 = 0)))]) rfl ?_
      refine lv_if_ne (tgt := 28) hx hb dX5_difference_23 (by decide) (fun c_23 => ?_) (fun c_23 => ?_)
      · skip
        have c_23 : (decide (0 = 0)) = true := bI_t c_23
        refine lv_lconst (v := 0) hx hb dX5_difference_28 (by decide) ?_
        refine lv_lstore_n (lv' := [(3, .long (0 : Int64)), (0, .ref (am 0)), (1, .int (nI k)), (2, .int (nI j))]) hx hb dX5_difference_29 rfl hl (by decide) rfl (fun ls hl => ?_)
        refine lv_lconst (v := 0) hx hb dX5_difference_30 (by decide) ?_
        refine lv_lstore (lv' := [(5, .long (0 : Int64)), (3, .long (0 : Int64)), (0, .ref (am 0)), (1, .int (nI k)), (2, .int (nI j))]) hx hb dX5_difference_31 hl (by decide) rfl (fun ls hl => ?_)
        refine lv_aload_n hx hb dX5_difference_33 rfl (lv_at hl 2 rfl) ?_
        refine lv_iload_n hx hb dX5_difference_34 rfl (lv_at hl 3 rfl) ?_
        refine lv_iconst (v := (-1)) hx hb dX5_difference_35 (by decide) ?_
        refine g_callV (As := [.int (nI k), .int (-1)]) (rest := []) (q0 := 0) C0 G (c_X5_tells l D cy (am := am) (mf := mf) (mb := mb) (mv := mv) (kn := kn) (on := on) (th := nI 0) (sv := sv) (X := X) (ln := ln) (ap := ap) (le := le) (fc := fc) (f1 := f1) (f2 := f2) (ha := ha) (R := R) (z := k) (but := (-1 : Int32)) (sd := sdW (mf k) (mb k)) (so := onW (mf k) (mb k)) (by omega) ti_none (ok_sd _ _)) k_X5_tells ml_X5_73 rfl rfl dX5_difference_36 rfl rfl hl.1 (Nat.le_of_ble_eq_true rfl) ⟨Nat.le_of_ble_eq_true rfl, Nat.le_of_ble_eq_true rfl⟩ ⟨Nat.le_of_ble_eq_true rfl, Nat.le_of_ble_eq_true rfl⟩ (fun r W2 H locs hp G => ?_)
        obtain ⟨rfl, hw⟩ := hp
        have G := g_wc hw G
        refine W.eq (g2 := F0 m 39 ls [.int (nI (pc ((fa (sdW (mf k) (mb k)) (onW (mf k) (mb k))).1 ^^^ (-1))))]) rfl ?_
        refine lv_pop hx hb dX5_difference_39 rfl ?_
        refine lv_iconst (v := 0) hx hb dX5_difference_40 (by decide) ?_
        refine lv_istore (lv' := [(7, .int 0), (5, .long (0 : Int64)), (3, .long (0 : Int64)), (0, .ref (am 0)), (1, .int (nI k)), (2, .int (nI j))]) hx hb dX5_difference_41 hl (by decide) rfl (fun ls hl => ?_)
        have hl := lv_sub hl (l' := [(0, .ref (am 0)), (1, .int (nI k)), (2, .int (nI j)), (3, .long (0 : Int64)), (5, .long (0 : Int64)), (7, .int 0)]) [3, 4, 5, 2, 1, 0] rfl
        refine g_loop (σ := Nat) (fun i => 64 - i) (fun i => wM am cy (nI 0) (cS mf mb mv) sv X ln ap le fc f1 f2 (biF ((fa (sdW (mf k) (mb k)) (onW (mf k) (mb k))).1) ((fa (sdW (mf k) (mb k)) (onW (mf k) (mb k))).2)) ha R) (fun i => [(0, .ref (am 0)), (1, .int (nI k)), (2, .int (nI j)), (3, .long (dfO (fa (sdW (mf k) (mb k)) (onW (mf k) (mb k))).1 (fa (sdW (mf k) (mb k)) (onW (mf k) (mb k))).2 i)), (5, .long (dfZ (fa (sdW (mf k) (mb k)) (onW (mf k) (mb k))).1 (fa (sdW (mf k) (mb k)) (onW (mf k) (mb k))).2 i)), (7, .int (nI i))]) (fun i => i ≤ 64) ?_ 0 (by show _ ≤ _; omega) G hl
        intro i hi_43 ih_43 H locs ls G hl
        have G : gW D (wM am cy (nI 0) (cS mf mb mv) sv X ln ap le fc f1 f2 (biF ((fa (sdW (mf k) (mb k)) (onW (mf k) (mb k))).1) ((fa (sdW (mf k) (mb k)) (onW (mf k) (mb k))).2)) ha R) (va_A (wM am cy th (cS mf mb mv) sv X ln ap le fc f1 f2 (biF kn on) ha R) s.heap.size) s H locs := G
        have hl : lv_has ls 10 [(0, .ref (am 0)), (1, .int (nI k)), (2, .int (nI j)), (3, .long (dfO (fa (sdW (mf k) (mb k)) (onW (mf k) (mb k))).1 (fa (sdW (mf k) (mb k)) (onW (mf k) (mb k))).2 i)), (5, .long (dfZ (fa (sdW (mf k) (mb k)) (onW (mf k) (mb k))).1 (fa (sdW (mf k) (mb k)) (onW (mf k) (mb k))).2 i)), (7, .int (nI i))] := hl
        refine lv_iload hx hb dX5_difference_43 (lv_at hl 5 rfl) ?_
        refine lv_bipush (v := 64) hx hb dX5_difference_45 (by decide) ?_
        refine lv_icmp_ge (tgt := 101) hx hb dX5_difference_47 (by decide) (fun c_47 => ?_) (fun c_47 => ?_)
        · skip
          have c_47 : 64 ≤ i := (nI_leI (a := 64) (b := i) (by omega) (by omega)).mp c_47
          obtain rfl : i = 64 := by omega
          have G : gW D (wM am cy (nI 0) (cS mf mb mv) sv X ln ap le fc f1 f2 (biF ((fa (sdW (mf k) (mb k)) (onW (mf k) (mb k))).1) ((fa (sdW (mf k) (mb k)) (onW (mf k) (mb k))).2)) ha R) (va_A (wM am cy th (cS mf mb mv) sv X ln ap le fc f1 f2 (biF kn on) ha R) s.heap.size) s _ _ := G
          have hl : lv_has ls 10 [(0, .ref (am 0)), (1, .int (nI k)), (2, .int (nI j)), (3, .long (dfO (fa (sdW (mf k) (mb k)) (onW (mf k) (mb k))).1 (fa (sdW (mf k) (mb k)) (onW (mf k) (mb k))).2 64)), (5, .long (dfZ (fa (sdW (mf k) (mb k)) (onW (mf k) (mb k))).1 (fa (sdW (mf k) (mb k)) (onW (mf k) (mb k))).2 64)), (7, .int (nI 64))] := hl
          refine lv_aload_n hx hb dX5_difference_101 rfl (lv_at hl 0 rfl) ?_
          refine lv_iload_n hx hb dX5_difference_102 rfl (lv_at hl 2 rfl) ?_
          refine lv_iconst (v := (-1)) hx hb dX5_difference_103 (by decide) ?_
          refine g_callV (As := [.int (nI j), .int (-1)]) (rest := []) (q0 := 0) C0 G (c_X5_tells l D cy (am := am) (mf := mf) (mb := mb) (mv := mv) (kn := (fa (sdW (mf k) (mb k)) (onW (mf k) (mb k))).1) (on := (fa (sdW (mf k) (mb k)) (onW (mf k) (mb k))).2) (th := nI 0) (sv := sv) (X := X) (ln := ln) (ap := ap) (le := le) (fc := fc) (f1 := f1) (f2 := f2) (ha := ha) (R := R) (z := j) (but := (-1 : Int32)) (sd := sdW (mf j) (mb j)) (so := onW (mf j) (mb j)) (by omega) ti_none (ok_sd _ _)) k_X5_tells ml_X5_73 rfl rfl dX5_difference_104 rfl rfl hl.1 (Nat.le_of_ble_eq_true rfl) ⟨Nat.le_of_ble_eq_true rfl, Nat.le_of_ble_eq_true rfl⟩ ⟨Nat.le_of_ble_eq_true rfl, Nat.le_of_ble_eq_true rfl⟩ (fun r W2 H locs hp G => ?_)
          obtain ⟨rfl, hw⟩ := hp
          have G := g_wc hw G
          refine W.eq (g2 := F0 m 107 ls [.int (nI (pc ((fa (sdW (mf j) (mb j)) (onW (mf j) (mb j))).1 ^^^ (-1))))]) rfl ?_
          refine lv_pop hx hb dX5_difference_107 rfl ?_
          refine lv_iconst (v := 0) hx hb dX5_difference_108 (by decide) ?_
          refine lv_istore (lv' := [(7, .int 0), (0, .ref (am 0)), (1, .int (nI k)), (2, .int (nI j)), (3, .long (dfO (fa (sdW (mf k) (mb k)) (onW (mf k) (mb k))).1 (fa (sdW (mf k) (mb k)) (onW (mf k) (mb k))).2 64)), (5, .long (dfZ (fa (sdW (mf k) (mb k)) (onW (mf k) (mb k))).1 (fa (sdW (mf k) (mb k)) (onW (mf k) (mb k))).2 64))]) hx hb dX5_difference_109 hl (by decide) rfl (fun ls hl => ?_)
          refine lv_iconst (v := 0) hx hb dX5_difference_111 (by decide) ?_
          refine lv_istore (lv' := [(8, .int 0), (7, .int 0), (0, .ref (am 0)), (1, .int (nI k)), (2, .int (nI j)), (3, .long (dfO (fa (sdW (mf k) (mb k)) (onW (mf k) (mb k))).1 (fa (sdW (mf k) (mb k)) (onW (mf k) (mb k))).2 64)), (5, .long (dfZ (fa (sdW (mf k) (mb k)) (onW (mf k) (mb k))).1 (fa (sdW (mf k) (mb k)) (onW (mf k) (mb k))).2 64))]) hx hb dX5_difference_112 hl (by decide) rfl (fun ls hl => ?_)
          have hl := lv_sub hl (l' := [(0, .ref (am 0)), (1, .int (nI k)), (2, .int (nI j)), (3, .long (dfO (fa (sdW (mf k) (mb k)) (onW (mf k) (mb k))).1 (fa (sdW (mf k) (mb k)) (onW (mf k) (mb k))).2 64)), (5, .long (dfZ (fa (sdW (mf k) (mb k)) (onW (mf k) (mb k))).1 (fa (sdW (mf k) (mb k)) (onW (mf k) (mb k))).2 64)), (7, .int 0), (8, .int 0)]) [2, 3, 4, 5, 6, 1, 0] rfl
          refine g_loop (σ := Nat) (fun i => 64 - i) (fun i => wM am cy (nI 0) (cS mf mb mv) sv X ln ap le fc f1 f2 (biF ((fa (sdW (mf j) (mb j)) (onW (mf j) (mb j))).1) ((fa (sdW (mf j) (mb j)) (onW (mf j) (mb j))).2)) ha R) (fun i => [(0, .ref (am 0)), (1, .int (nI k)), (2, .int (nI j)), (3, .long (dfO (fa (sdW (mf k) (mb k)) (onW (mf k) (mb k))).1 (fa (sdW (mf k) (mb k)) (onW (mf k) (mb k))).2 64)), (5, .long (dfZ (fa (sdW (mf k) (mb k)) (onW (mf k) (mb k))).1 (fa (sdW (mf k) (mb k)) (onW (mf k) (mb k))).2 64)), (7, .int (nI (cnt (dfB (dfO (fa (sdW (mf k) (mb k)) (onW (mf k) (mb k))).1 (fa (sdW (mf k) (mb k)) (onW (mf k) (mb k))).2 64) (dfZ (fa (sdW (mf k) (mb k)) (onW (mf k) (mb k))).1 (fa (sdW (mf k) (mb k)) (onW (mf k) (mb k))).2 64) (fa (sdW (mf j) (mb j)) (onW (mf j) (mb j))).1 (fa (sdW (mf j) (mb j)) (onW (mf j) (mb j))).2) i))), (8, .int (nI i))]) (fun i => i ≤ 64) ?_ 0 (by show _ ≤ _; omega) G hl
          intro i hi_114 ih_114 H locs ls G hl
          have G : gW D (wM am cy (nI 0) (cS mf mb mv) sv X ln ap le fc f1 f2 (biF ((fa (sdW (mf j) (mb j)) (onW (mf j) (mb j))).1) ((fa (sdW (mf j) (mb j)) (onW (mf j) (mb j))).2)) ha R) (va_A (wM am cy th (cS mf mb mv) sv X ln ap le fc f1 f2 (biF kn on) ha R) s.heap.size) s H locs := G
          have hl : lv_has ls 10 [(0, .ref (am 0)), (1, .int (nI k)), (2, .int (nI j)), (3, .long (dfO (fa (sdW (mf k) (mb k)) (onW (mf k) (mb k))).1 (fa (sdW (mf k) (mb k)) (onW (mf k) (mb k))).2 64)), (5, .long (dfZ (fa (sdW (mf k) (mb k)) (onW (mf k) (mb k))).1 (fa (sdW (mf k) (mb k)) (onW (mf k) (mb k))).2 64)), (7, .int (nI (cnt (dfB (dfO (fa (sdW (mf k) (mb k)) (onW (mf k) (mb k))).1 (fa (sdW (mf k) (mb k)) (onW (mf k) (mb k))).2 64) (dfZ (fa (sdW (mf k) (mb k)) (onW (mf k) (mb k))).1 (fa (sdW (mf k) (mb k)) (onW (mf k) (mb k))).2 64) (fa (sdW (mf j) (mb j)) (onW (mf j) (mb j))).1 (fa (sdW (mf j) (mb j)) (onW (mf j) (mb j))).2) i))), (8, .int (nI i))] := hl
          refine lv_iload hx hb dX5_difference_114 (lv_at hl 6 rfl) ?_
          refine lv_bipush (v := 64) hx hb dX5_difference_116 (by decide) ?_
          refine lv_icmp_ge (tgt := 193) hx hb dX5_difference_118 (by decide) (fun c_118 => ?_) (fun c_118 => ?_)
          · skip
            have c_118 : 64 ≤ i := (nI_leI (a := 64) (b := i) (by omega) (by omega)).mp c_118
            obtain rfl : i = 64 := by omega
            have G : gW D (wM am cy (nI 0) (cS mf mb mv) sv X ln ap le fc f1 f2 (biF ((fa (sdW (mf j) (mb j)) (onW (mf j) (mb j))).1) ((fa (sdW (mf j) (mb j)) (onW (mf j) (mb j))).2)) ha R) (va_A (wM am cy th (cS mf mb mv) sv X ln ap le fc f1 f2 (biF kn on) ha R) s.heap.size) s _ _ := G
            have hl : lv_has ls 10 [(0, .ref (am 0)), (1, .int (nI k)), (2, .int (nI j)), (3, .long (dfO (fa (sdW (mf k) (mb k)) (onW (mf k) (mb k))).1 (fa (sdW (mf k) (mb k)) (onW (mf k) (mb k))).2 64)), (5, .long (dfZ (fa (sdW (mf k) (mb k)) (onW (mf k) (mb k))).1 (fa (sdW (mf k) (mb k)) (onW (mf k) (mb k))).2 64)), (7, .int (nI (cnt (dfB (dfO (fa (sdW (mf k) (mb k)) (onW (mf k) (mb k))).1 (fa (sdW (mf k) (mb k)) (onW (mf k) (mb k))).2 64) (dfZ (fa (sdW (mf k) (mb k)) (onW (mf k) (mb k))).1 (fa (sdW (mf k) (mb k)) (onW (mf k) (mb k))).2 64) (fa (sdW (mf j) (mb j)) (onW (mf j) (mb j))).1 (fa (sdW (mf j) (mb j)) (onW (mf j) (mb j))).2) 64))), (8, .int (nI 64))] := hl
            refine lv_iload hx hb dX5_difference_193 (lv_at hl 5 rfl) ?_
            exact g_iret C0 G ⟨by first | rfl | (exfalso; omega) | (simp only [cnt, dfB, c_5, c_12, c_23, c_47, c_118, Bool.false_eq_true, ↓reduceIte, eq_self, decide_true, decide_false, not_true_eq_false, not_false_eq_true, Bool.true_and, Bool.false_and, Bool.and_true, Bool.and_false]; done) | (simp [cnt, dfB, c_5, c_12, c_23, c_47, c_118]; done) | (simp [cnt, dfB, c_5, c_12, c_23, c_47, c_118]; rfl) | (simp [cnt, dfB, c_5, c_12, c_23, c_47, c_118]; omega), by first | rfl | (exfalso; omega) | (simp only [cnt, dfB, c_5, c_12, c_23, c_47, c_118, Bool.false_eq_true, ↓reduceIte, eq_self, decide_true, decide_false, not_true_eq_false, not_false_eq_true, Bool.true_and, Bool.false_and, Bool.and_true, Bool.and_false]; done) | (simp [cnt, dfB, c_5, c_12, c_23, c_47, c_118]; done) | (simp [cnt, dfB, c_5, c_12, c_23, c_47, c_118]; rfl) | (simp [cnt, dfB, c_5, c_12, c_23, c_47, c_118]; omega)⟩ dX5_difference_195
          · skip
            have c_118 : ¬ (64 ≤ i) := fun h => c_118 ((nI_leI (a := 64) (b := i) (by omega) (by omega)).mpr h)
            refine lv_aload_n hx hb dX5_difference_121 rfl (lv_at hl 0 rfl) ?_
            refine g_get (q0 := 0) (v := .ref (am 3)) C0 G in_X5 rfl rfl 10 (by decide) fl_X5_16 (fun _ h => h) rfl dX5_difference_122 ?_
            refine lv_iload hx hb dX5_difference_125 (lv_at hl 6 rfl) ?_
            refine g_iald (q0 := 3) (n := 64) C0 G rfl 1 rfl (vp_in_nI (n := i) (by omega) (by decide)) dX5_difference_127 ?_
            refine g_topi (x' := biF ((fa (sdW (mf j) (mb j)) (onW (mf j) (mb j))).1) ((fa (sdW (mf j) (mb j)) (onW (mf j) (mb j))).2) i) (congrArg (biF ((fa (sdW (mf j) (mb j)) (onW (mf j) (mb j))).1) ((fa (sdW (mf j) (mb j)) (onW (mf j) (mb j))).2)) (nI_clamp (n := i) (by omega))) ?_
            refine lv_if_ne (tgt := 142) hx hb dX5_difference_128 (by decide) (fun c_128 => ?_) (fun c_128 => ?_)
            · skip
              refine lv_aload_n hx hb dX5_difference_142 rfl (lv_at hl 0 rfl) ?_
              refine g_get (q0 := 0) (v := .ref (am 3)) C0 G in_X5 rfl rfl 10 (by decide) fl_X5_16 (fun _ h => h) rfl dX5_difference_143 ?_
              refine lv_iload hx hb dX5_difference_146 (lv_at hl 6 rfl) ?_
              refine g_iald (q0 := 3) (n := 64) C0 G rfl 1 rfl (vp_in_nI (n := i) (by omega) (by decide)) dX5_difference_148 ?_
              refine g_topi (x' := biF ((fa (sdW (mf j) (mb j)) (onW (mf j) (mb j))).1) ((fa (sdW (mf j) (mb j)) (onW (mf j) (mb j))).2) i) (congrArg (biF ((fa (sdW (mf j) (mb j)) (onW (mf j) (mb j))).1) ((fa (sdW (mf j) (mb j)) (onW (mf j) (mb j))).2)) (nI_clamp (n := i) (by omega))) ?_
              refine lv_iconst (v := 1) hx hb dX5_difference_149 (by decide) ?_
              refine lv_icmp_ne (tgt := 169) hx hb dX5_difference_150 (by decide) (fun c_150 => ?_) (fun c_150 => ?_)
              · skip
                refine lv_iconst (v := 0) hx hb dX5_difference_169 (by decide) ?_
                refine lv_istore (lv' := [(9, .int 0), (0, .ref (am 0)), (1, .int (nI k)), (2, .int (nI j)), (3, .long (dfO (fa (sdW (mf k) (mb k)) (onW (mf k) (mb k))).1 (fa (sdW (mf k) (mb k)) (onW (mf k) (mb k))).2 64)), (5, .long (dfZ (fa (sdW (mf k) (mb k)) (onW (mf k) (mb k))).1 (fa (sdW (mf k) (mb k)) (onW (mf k) (mb k))).2 64)), (7, .int (nI (cnt (dfB (dfO (fa (sdW (mf k) (mb k)) (onW (mf k) (mb k))).1 (fa (sdW (mf k) (mb k)) (onW (mf k) (mb k))).2 64) (dfZ (fa (sdW (mf k) (mb k)) (onW (mf k) (mb k))).1 (fa (sdW (mf k) (mb k)) (onW (mf k) (mb k))).2 64) (fa (sdW (mf j) (mb j)) (onW (mf j) (mb j))).1 (fa (sdW (mf j) (mb j)) (onW (mf j) (mb j))).2) i))), (8, .int (nI i))]) hx hb dX5_difference_170 hl (by decide) rfl (fun ls hl => ?_)
                refine lv_iload hx hb dX5_difference_172 (lv_at hl 6 rfl) ?_
                refine lv_iload hx hb dX5_difference_174 (lv_at hl 0 rfl) ?_
                refine lv_if_eq (tgt := 183) hx hb dX5_difference_176 (by decide) (fun c_176 => ?_) (fun c_176 => ?_)
                · skip
                  refine lv_iconst (v := 0) hx hb dX5_difference_183 (by decide) ?_
                  refine lv_iadd hx hb dX5_difference_184 ?_
                  refine g_topi (x' := nI ((cnt (dfB (dfO (fa (sdW (mf k) (mb k)) (onW (mf k) (mb k))).1 (fa (sdW (mf k) (mb k)) (onW (mf k) (mb k))).2 64) (dfZ (fa (sdW (mf k) (mb k)) (onW (mf k) (mb k))).1 (fa (sdW (mf k) (mb k)) (onW (mf k) (mb k))).2 64) (fa (sdW (mf j) (mb j)) (onW (mf j) (mb j))).1 (fa (sdW (mf j) (mb j)) (onW (mf j) (mb j))).2) i) + 0)) (nI_add (cnt (dfB (dfO (fa (sdW (mf k) (mb k)) (onW (mf k) (mb k))).1 (fa (sdW (mf k) (mb k)) (onW (mf k) (mb k))).2 64) (dfZ (fa (sdW (mf k) (mb k)) (onW (mf k) (mb k))).1 (fa (sdW (mf k) (mb k)) (onW (mf k) (mb k))).2 64) (fa (sdW (mf j) (mb j)) (onW (mf j) (mb j))).1 (fa (sdW (mf j) (mb j)) (onW (mf j) (mb j))).2) i) 0) ?_
                  refine g_topi (x' := nI (cnt (dfB (dfO (fa (sdW (mf k) (mb k)) (onW (mf k) (mb k))).1 (fa (sdW (mf k) (mb k)) (onW (mf k) (mb k))).2 64) (dfZ (fa (sdW (mf k) (mb k)) (onW (mf k) (mb k))).1 (fa (sdW (mf k) (mb k)) (onW (mf k) (mb k))).2 64) (fa (sdW (mf j) (mb j)) (onW (mf j) (mb j))).1 (fa (sdW (mf j) (mb j)) (onW (mf j) (mb j))).2) (i + 1))) (congrArg nI (by first | exact df_one (by first | exact Or.inl ⟨c_128, c_139⟩ | exact Or.inr ⟨c_150, c_162⟩) | exact df_zero (fun h => by rcases h with ⟨h1, h2⟩ | ⟨h1, h2⟩ <;> first | exact c_128 h1 | exact c_139 h2 | exact c_150 h1 | exact c_162 h2 | exact df_01 c_128 h1))) ?_
                  refine lv_istore (lv' := [(7, .int (nI (cnt (dfB (dfO (fa (sdW (mf k) (mb k)) (onW (mf k) (mb k))).1 (fa (sdW (mf k) (mb k)) (onW (mf k) (mb k))).2 64) (dfZ (fa (sdW (mf k) (mb k)) (onW (mf k) (mb k))).1 (fa (sdW (mf k) (mb k)) (onW (mf k) (mb k))).2 64) (fa (sdW (mf j) (mb j)) (onW (mf j) (mb j))).1 (fa (sdW (mf j) (mb j)) (onW (mf j) (mb j))).2) (i + 1)))), (9, .int 0), (0, .ref (am 0)), (1, .int (nI k)), (2, .int (nI j)), (3, .long (dfO (fa (sdW (mf k) (mb k)) (onW (mf k) (mb k))).1 (fa (sdW (mf k) (mb k)) (onW (mf k) (mb k))).2 64)), (5, .long (dfZ (fa (sdW (mf k) (mb k)) (onW (mf k) (mb k))).1 (fa (sdW (mf k) (mb k)) (onW (mf k) (mb k))).2 64)), (8, .int (nI i))]) hx hb dX5_difference_185 hl (by decide) rfl (fun ls hl => ?_)
                  refine lv_iinc (v := nI (i + 1)) (lv' := [(8, .int (nI (i + 1))), (7, .int (nI (cnt (dfB (dfO (fa (sdW (mf k) (mb k)) (onW (mf k) (mb k))).1 (fa (sdW (mf k) (mb k)) (onW (mf k) (mb k))).2 64) (dfZ (fa (sdW (mf k) (mb k)) (onW (mf k) (mb k))).1 (fa (sdW (mf k) (mb k)) (onW (mf k) (mb k))).2 64) (fa (sdW (mf j) (mb j)) (onW (mf j) (mb j))).1 (fa (sdW (mf j) (mb j)) (onW (mf j) (mb j))).2) (i + 1)))), (9, .int 0), (0, .ref (am 0)), (1, .int (nI k)), (2, .int (nI j)), (3, .long (dfO (fa (sdW (mf k) (mb k)) (onW (mf k) (mb k))).1 (fa (sdW (mf k) (mb k)) (onW (mf k) (mb k))).2 64)), (5, .long (dfZ (fa (sdW (mf k) (mb k)) (onW (mf k) (mb k))).1 (fa (sdW (mf k) (mb k)) (onW (mf k) (mb k))).2 64))]) hx hb dX5_difference_187 hl (k := 7) rfl (nI_add i 1) (by decide) rfl (fun ls hl => ?_)
                  refine lv_goto (tgt := 114) hx hb dX5_difference_190 (by decide) ?_
                  have hl := lv_sub hl (l' := _) [3, 4, 5, 6, 7, 1, 0] rfl
                  exact ih_114 (i + 1) (by show _ ≤ _; omega) (by show _ < _; omega) _ _ _ G hl
                · exact absurd c_176 (by decide)
              · skip
                refine lv_lload hx hb dX5_difference_153 (lv_at hl 4 rfl) ?_
                refine lv_iload hx hb dX5_difference_155 (lv_at hl 6 rfl) ?_
                refine lv_lshr hx hb dX5_difference_157 rfl ?_
                refine lv_lconst (v := 1) hx hb dX5_difference_158 (by decide) ?_
                refine lv_land hx hb dX5_difference_159 ?_
                refine g_topl (x' := shb (dfZ (fa (sdW (mf k) (mb k)) (onW (mf k) (mb k))).1 (fa (sdW (mf k) (mb k)) (onW (mf k) (mb k))).2 64) i) rfl ?_
                refine lv_lconst (v := 1) hx hb dX5_difference_160 (by decide) ?_
                refine W.lcmp hx hb dX5_difference_161 ?_
                refine lv_if_ne (tgt := 169) hx hb dX5_difference_162 (by decide) (fun c_162 => ?_) (fun c_162 => ?_)
                · skip
                  have c_162 : ¬ (shb (dfZ (fa (sdW (mf k) (mb k)) (onW (mf k) (mb k))).1 (fa (sdW (mf k) (mb k)) (onW (mf k) (mb k))).2 64) i) = (1 : Int64) := fun h => c_162 (lgc_eq.mpr h)
                  refine lv_iconst (v := 0) hx hb dX5_difference_169 (by decide) ?_
                  refine lv_istore (lv' := [(9, .int 0), (0, .ref (am 0)), (1, .int (nI k)), (2, .int (nI j)), (3, .long (dfO (fa (sdW (mf k) (mb k)) (onW (mf k) (mb k))).1 (fa (sdW (mf k) (mb k)) (onW (mf k) (mb k))).2 64)), (5, .long (dfZ (fa (sdW (mf k) (mb k)) (onW (mf k) (mb k))).1 (fa (sdW (mf k) (mb k)) (onW (mf k) (mb k))).2 64)), (7, .int (nI (cnt (dfB (dfO (fa (sdW (mf k) (mb k)) (onW (mf k) (mb k))).1 (fa (sdW (mf k) (mb k)) (onW (mf k) (mb k))).2 64) (dfZ (fa (sdW (mf k) (mb k)) (onW (mf k) (mb k))).1 (fa (sdW (mf k) (mb k)) (onW (mf k) (mb k))).2 64) (fa (sdW (mf j) (mb j)) (onW (mf j) (mb j))).1 (fa (sdW (mf j) (mb j)) (onW (mf j) (mb j))).2) i))), (8, .int (nI i))]) hx hb dX5_difference_170 hl (by decide) rfl (fun ls hl => ?_)
                  refine lv_iload hx hb dX5_difference_172 (lv_at hl 6 rfl) ?_
                  refine lv_iload hx hb dX5_difference_174 (lv_at hl 0 rfl) ?_
                  refine lv_if_eq (tgt := 183) hx hb dX5_difference_176 (by decide) (fun c_176 => ?_) (fun c_176 => ?_)
                  · skip
                    refine lv_iconst (v := 0) hx hb dX5_difference_183 (by decide) ?_
                    refine lv_iadd hx hb dX5_difference_184 ?_
                    refine g_topi (x' := nI ((cnt (dfB (dfO (fa (sdW (mf k) (mb k)) (onW (mf k) (mb k))).1 (fa (sdW (mf k) (mb k)) (onW (mf k) (mb k))).2 64) (dfZ (fa (sdW (mf k) (mb k)) (onW (mf k) (mb k))).1 (fa (sdW (mf k) (mb k)) (onW (mf k) (mb k))).2 64) (fa (sdW (mf j) (mb j)) (onW (mf j) (mb j))).1 (fa (sdW (mf j) (mb j)) (onW (mf j) (mb j))).2) i) + 0)) (nI_add (cnt (dfB (dfO (fa (sdW (mf k) (mb k)) (onW (mf k) (mb k))).1 (fa (sdW (mf k) (mb k)) (onW (mf k) (mb k))).2 64) (dfZ (fa (sdW (mf k) (mb k)) (onW (mf k) (mb k))).1 (fa (sdW (mf k) (mb k)) (onW (mf k) (mb k))).2 64) (fa (sdW (mf j) (mb j)) (onW (mf j) (mb j))).1 (fa (sdW (mf j) (mb j)) (onW (mf j) (mb j))).2) i) 0) ?_
                    refine g_topi (x' := nI (cnt (dfB (dfO (fa (sdW (mf k) (mb k)) (onW (mf k) (mb k))).1 (fa (sdW (mf k) (mb k)) (onW (mf k) (mb k))).2 64) (dfZ (fa (sdW (mf k) (mb k)) (onW (mf k) (mb k))).1 (fa (sdW (mf k) (mb k)) (onW (mf k) (mb k))).2 64) (fa (sdW (mf j) (mb j)) (onW (mf j) (mb j))).1 (fa (sdW (mf j) (mb j)) (onW (mf j) (mb j))).2) (i + 1))) (congrArg nI (by first | exact df_one (by first | exact Or.inl ⟨c_128, c_139⟩ | exact Or.inr ⟨c_150, c_162⟩) | exact df_zero (fun h => by rcases h with ⟨h1, h2⟩ | ⟨h1, h2⟩ <;> first | exact c_128 h1 | exact c_139 h2 | exact c_150 h1 | exact c_162 h2 | exact df_01 c_128 h1))) ?_
                    refine lv_istore (lv' := [(7, .int (nI (cnt (dfB (dfO (fa (sdW (mf k) (mb k)) (onW (mf k) (mb k))).1 (fa (sdW (mf k) (mb k)) (onW (mf k) (mb k))).2 64) (dfZ (fa (sdW (mf k) (mb k)) (onW (mf k) (mb k))).1 (fa (sdW (mf k) (mb k)) (onW (mf k) (mb k))).2 64) (fa (sdW (mf j) (mb j)) (onW (mf j) (mb j))).1 (fa (sdW (mf j) (mb j)) (onW (mf j) (mb j))).2) (i + 1)))), (9, .int 0), (0, .ref (am 0)), (1, .int (nI k)), (2, .int (nI j)), (3, .long (dfO (fa (sdW (mf k) (mb k)) (onW (mf k) (mb k))).1 (fa (sdW (mf k) (mb k)) (onW (mf k) (mb k))).2 64)), (5, .long (dfZ (fa (sdW (mf k) (mb k)) (onW (mf k) (mb k))).1 (fa (sdW (mf k) (mb k)) (onW (mf k) (mb k))).2 64)), (8, .int (nI i))]) hx hb dX5_difference_185 hl (by decide) rfl (fun ls hl => ?_)
                    refine lv_iinc (v := nI (i + 1)) (lv' := [(8, .int (nI (i + 1))), (7, .int (nI (cnt (dfB (dfO (fa (sdW (mf k) (mb k)) (onW (mf k) (mb k))).1 (fa (sdW (mf k) (mb k)) (onW (mf k) (mb k))).2 64) (dfZ (fa (sdW (mf k) (mb k)) (onW (mf k) (mb k))).1 (fa (sdW (mf k) (mb k)) (onW (mf k) (mb k))).2 64) (fa (sdW (mf j) (mb j)) (onW (mf j) (mb j))).1 (fa (sdW (mf j) (mb j)) (onW (mf j) (mb j))).2) (i + 1)))), (9, .int 0), (0, .ref (am 0)), (1, .int (nI k)), (2, .int (nI j)), (3, .long (dfO (fa (sdW (mf k) (mb k)) (onW (mf k) (mb k))).1 (fa (sdW (mf k) (mb k)) (onW (mf k) (mb k))).2 64)), (5, .long (dfZ (fa (sdW (mf k) (mb k)) (onW (mf k) (mb k))).1 (fa (sdW (mf k) (mb k)) (onW (mf k) (mb k))).2 64))]) hx hb dX5_difference_187 hl (k := 7) rfl (nI_add i 1) (by decide) rfl (fun ls hl => ?_)
                    refine lv_goto (tgt := 114) hx hb dX5_difference_190 (by decide) ?_
                    have hl := lv_sub hl (l' := _) [3, 4, 5, 6, 7, 1, 0] rfl
                    exact ih_114 (i + 1) (by show _ ≤ _; omega) (by show _ < _; omega) _ _ _ G hl
                  · exact absurd c_176 (by decide)
                · skip
                  have c_162 : (shb (dfZ (fa (sdW (mf k) (mb k)) (onW (mf k) (mb k))).1 (fa (sdW (mf k) (mb k)) (onW (mf k) (mb k))).2 64) i) = (1 : Int64) := lgc_eq.mp c_162
                  refine lv_iconst (v := 1) hx hb dX5_difference_165 (by decide) ?_
                  refine lv_goto (tgt := 170) hx hb dX5_difference_166 (by decide) ?_
                  refine lv_istore (lv' := [(9, .int 1), (0, .ref (am 0)), (1, .int (nI k)), (2, .int (nI j)), (3, .long (dfO (fa (sdW (mf k) (mb k)) (onW (mf k) (mb k))).1 (fa (sdW (mf k) (mb k)) (onW (mf k) (mb k))).2 64)), (5, .long (dfZ (fa (sdW (mf k) (mb k)) (onW (mf k) (mb k))).1 (fa (sdW (mf k) (mb k)) (onW (mf k) (mb k))).2 64)), (7, .int (nI (cnt (dfB (dfO (fa (sdW (mf k) (mb k)) (onW (mf k) (mb k))).1 (fa (sdW (mf k) (mb k)) (onW (mf k) (mb k))).2 64) (dfZ (fa (sdW (mf k) (mb k)) (onW (mf k) (mb k))).1 (fa (sdW (mf k) (mb k)) (onW (mf k) (mb k))).2 64) (fa (sdW (mf j) (mb j)) (onW (mf j) (mb j))).1 (fa (sdW (mf j) (mb j)) (onW (mf j) (mb j))).2) i))), (8, .int (nI i))]) hx hb dX5_difference_170 hl (by decide) rfl (fun ls hl => ?_)
                  refine lv_iload hx hb dX5_difference_172 (lv_at hl 6 rfl) ?_
                  refine lv_iload hx hb dX5_difference_174 (lv_at hl 0 rfl) ?_
                  refine lv_if_eq (tgt := 183) hx hb dX5_difference_176 (by decide) (fun c_176 => ?_) (fun c_176 => ?_)
                  · exact absurd c_176 (by decide)
                  · skip
                    refine lv_iconst (v := 1) hx hb dX5_difference_179 (by decide) ?_
                    refine lv_goto (tgt := 184) hx hb dX5_difference_180 (by decide) ?_
                    refine lv_iadd hx hb dX5_difference_184 ?_
                    refine g_topi (x' := nI ((cnt (dfB (dfO (fa (sdW (mf k) (mb k)) (onW (mf k) (mb k))).1 (fa (sdW (mf k) (mb k)) (onW (mf k) (mb k))).2 64) (dfZ (fa (sdW (mf k) (mb k)) (onW (mf k) (mb k))).1 (fa (sdW (mf k) (mb k)) (onW (mf k) (mb k))).2 64) (fa (sdW (mf j) (mb j)) (onW (mf j) (mb j))).1 (fa (sdW (mf j) (mb j)) (onW (mf j) (mb j))).2) i) + 1)) (nI_add (cnt (dfB (dfO (fa (sdW (mf k) (mb k)) (onW (mf k) (mb k))).1 (fa (sdW (mf k) (mb k)) (onW (mf k) (mb k))).2 64) (dfZ (fa (sdW (mf k) (mb k)) (onW (mf k) (mb k))).1 (fa (sdW (mf k) (mb k)) (onW (mf k) (mb k))).2 64) (fa (sdW (mf j) (mb j)) (onW (mf j) (mb j))).1 (fa (sdW (mf j) (mb j)) (onW (mf j) (mb j))).2) i) 1) ?_
                    refine g_topi (x' := nI (cnt (dfB (dfO (fa (sdW (mf k) (mb k)) (onW (mf k) (mb k))).1 (fa (sdW (mf k) (mb k)) (onW (mf k) (mb k))).2 64) (dfZ (fa (sdW (mf k) (mb k)) (onW (mf k) (mb k))).1 (fa (sdW (mf k) (mb k)) (onW (mf k) (mb k))).2 64) (fa (sdW (mf j) (mb j)) (onW (mf j) (mb j))).1 (fa (sdW (mf j) (mb j)) (onW (mf j) (mb j))).2) (i + 1))) (congrArg nI (by first | exact df_one (by first | exact Or.inl ⟨c_128, c_139⟩ | exact Or.inr ⟨c_150, c_162⟩) | exact df_zero (fun h => by rcases h with ⟨h1, h2⟩ | ⟨h1, h2⟩ <;> first | exact c_128 h1 | exact c_139 h2 | exact c_150 h1 | exact c_162 h2 | exact df_01 c_128 h1))) ?_
                    refine lv_istore (lv' := [(7, .int (nI (cnt (dfB (dfO (fa (sdW (mf k) (mb k)) (onW (mf k) (mb k))).1 (fa (sdW (mf k) (mb k)) (onW (mf k) (mb k))).2 64) (dfZ (fa (sdW (mf k) (mb k)) (onW (mf k) (mb k))).1 (fa (sdW (mf k) (mb k)) (onW (mf k) (mb k))).2 64) (fa (sdW (mf j) (mb j)) (onW (mf j) (mb j))).1 (fa (sdW (mf j) (mb j)) (onW (mf j) (mb j))).2) (i + 1)))), (9, .int 1), (0, .ref (am 0)), (1, .int (nI k)), (2, .int (nI j)), (3, .long (dfO (fa (sdW (mf k) (mb k)) (onW (mf k) (mb k))).1 (fa (sdW (mf k) (mb k)) (onW (mf k) (mb k))).2 64)), (5, .long (dfZ (fa (sdW (mf k) (mb k)) (onW (mf k) (mb k))).1 (fa (sdW (mf k) (mb k)) (onW (mf k) (mb k))).2 64)), (8, .int (nI i))]) hx hb dX5_difference_185 hl (by decide) rfl (fun ls hl => ?_)
                    refine lv_iinc (v := nI (i + 1)) (lv' := [(8, .int (nI (i + 1))), (7, .int (nI (cnt (dfB (dfO (fa (sdW (mf k) (mb k)) (onW (mf k) (mb k))).1 (fa (sdW (mf k) (mb k)) (onW (mf k) (mb k))).2 64) (dfZ (fa (sdW (mf k) (mb k)) (onW (mf k) (mb k))).1 (fa (sdW (mf k) (mb k)) (onW (mf k) (mb k))).2 64) (fa (sdW (mf j) (mb j)) (onW (mf j) (mb j))).1 (fa (sdW (mf j) (mb j)) (onW (mf j) (mb j))).2) (i + 1)))), (9, .int 1), (0, .ref (am 0)), (1, .int (nI k)), (2, .int (nI j)), (3, .long (dfO (fa (sdW (mf k) (mb k)) (onW (mf k) (mb k))).1 (fa (sdW (mf k) (mb k)) (onW (mf k) (mb k))).2 64)), (5, .long (dfZ (fa (sdW (mf k) (mb k)) (onW (mf k) (mb k))).1 (fa (sdW (mf k) (mb k)) (onW (mf k) (mb k))).2 64))]) hx hb dX5_difference_187 hl (k := 7) rfl (nI_add i 1) (by decide) rfl (fun ls hl => ?_)
                    refine lv_goto (tgt := 114) hx hb dX5_difference_190 (by decide) ?_
                    have hl := lv_sub hl (l' := _) [3, 4, 5, 6, 7, 1, 0] rfl
                    exact ih_114 (i + 1) (by show _ ≤ _; omega) (by show _ < _; omega) _ _ _ G hl
            · skip
              refine lv_lload_n hx hb dX5_difference_131 rfl (lv_at hl 3 rfl) ?_
              refine lv_iload hx hb dX5_difference_132 (lv_at hl 6 rfl) ?_
              refine lv_lshr hx hb dX5_difference_134 rfl ?_
              refine lv_lconst (v := 1) hx hb dX5_difference_135 (by decide) ?_
              refine lv_land hx hb dX5_difference_136 ?_
              refine g_topl (x' := shb (dfO (fa (sdW (mf k) (mb k)) (onW (mf k) (mb k))).1 (fa (sdW (mf k) (mb k)) (onW (mf k) (mb k))).2 64) i) rfl ?_
              refine lv_lconst (v := 1) hx hb dX5_difference_137 (by decide) ?_
              refine W.lcmp hx hb dX5_difference_138 ?_
              refine lv_if_eq (tgt := 165) hx hb dX5_difference_139 (by decide) (fun c_139 => ?_) (fun c_139 => ?_)
              · skip
                have c_139 : (shb (dfO (fa (sdW (mf k) (mb k)) (onW (mf k) (mb k))).1 (fa (sdW (mf k) (mb k)) (onW (mf k) (mb k))).2 64) i) = (1 : Int64) := lgc_eq.mp c_139
                refine lv_iconst (v := 1) hx hb dX5_difference_165 (by decide) ?_
                refine lv_goto (tgt := 170) hx hb dX5_difference_166 (by decide) ?_
                refine lv_istore (lv' := [(9, .int 1), (0, .ref (am 0)), (1, .int (nI k)), (2, .int (nI j)), (3, .long (dfO (fa (sdW (mf k) (mb k)) (onW (mf k) (mb k))).1 (fa (sdW (mf k) (mb k)) (onW (mf k) (mb k))).2 64)), (5, .long (dfZ (fa (sdW (mf k) (mb k)) (onW (mf k) (mb k))).1 (fa (sdW (mf k) (mb k)) (onW (mf k) (mb k))).2 64)), (7, .int (nI (cnt (dfB (dfO (fa (sdW (mf k) (mb k)) (onW (mf k) (mb k))).1 (fa (sdW (mf k) (mb k)) (onW (mf k) (mb k))).2 64) (dfZ (fa (sdW (mf k) (mb k)) (onW (mf k) (mb k))).1 (fa (sdW (mf k) (mb k)) (onW (mf k) (mb k))).2 64) (fa (sdW (mf j) (mb j)) (onW (mf j) (mb j))).1 (fa (sdW (mf j) (mb j)) (onW (mf j) (mb j))).2) i))), (8, .int (nI i))]) hx hb dX5_difference_170 hl (by decide) rfl (fun ls hl => ?_)
                refine lv_iload hx hb dX5_difference_172 (lv_at hl 6 rfl) ?_
                refine lv_iload hx hb dX5_difference_174 (lv_at hl 0 rfl) ?_
                refine lv_if_eq (tgt := 183) hx hb dX5_difference_176 (by decide) (fun c_176 => ?_) (fun c_176 => ?_)
                · exact absurd c_176 (by decide)
                · skip
                  refine lv_iconst (v := 1) hx hb dX5_difference_179 (by decide) ?_
                  refine lv_goto (tgt := 184) hx hb dX5_difference_180 (by decide) ?_
                  refine lv_iadd hx hb dX5_difference_184 ?_
                  refine g_topi (x' := nI ((cnt (dfB (dfO (fa (sdW (mf k) (mb k)) (onW (mf k) (mb k))).1 (fa (sdW (mf k) (mb k)) (onW (mf k) (mb k))).2 64) (dfZ (fa (sdW (mf k) (mb k)) (onW (mf k) (mb k))).1 (fa (sdW (mf k) (mb k)) (onW (mf k) (mb k))).2 64) (fa (sdW (mf j) (mb j)) (onW (mf j) (mb j))).1 (fa (sdW (mf j) (mb j)) (onW (mf j) (mb j))).2) i) + 1)) (nI_add (cnt (dfB (dfO (fa (sdW (mf k) (mb k)) (onW (mf k) (mb k))).1 (fa (sdW (mf k) (mb k)) (onW (mf k) (mb k))).2 64) (dfZ (fa (sdW (mf k) (mb k)) (onW (mf k) (mb k))).1 (fa (sdW (mf k) (mb k)) (onW (mf k) (mb k))).2 64) (fa (sdW (mf j) (mb j)) (onW (mf j) (mb j))).1 (fa (sdW (mf j) (mb j)) (onW (mf j) (mb j))).2) i) 1) ?_
                  refine g_topi (x' := nI (cnt (dfB (dfO (fa (sdW (mf k) (mb k)) (onW (mf k) (mb k))).1 (fa (sdW (mf k) (mb k)) (onW (mf k) (mb k))).2 64) (dfZ (fa (sdW (mf k) (mb k)) (onW (mf k) (mb k))).1 (fa (sdW (mf k) (mb k)) (onW (mf k) (mb k))).2 64) (fa (sdW (mf j) (mb j)) (onW (mf j) (mb j))).1 (fa (sdW (mf j) (mb j)) (onW (mf j) (mb j))).2) (i + 1))) (congrArg nI (by first | exact df_one (by first | exact Or.inl ⟨c_128, c_139⟩ | exact Or.inr ⟨c_150, c_162⟩) | exact df_zero (fun h => by rcases h with ⟨h1, h2⟩ | ⟨h1, h2⟩ <;> first | exact c_128 h1 | exact c_139 h2 | exact c_150 h1 | exact c_162 h2 | exact df_01 c_128 h1))) ?_
                  refine lv_istore (lv' := [(7, .int (nI (cnt (dfB (dfO (fa (sdW (mf k) (mb k)) (onW (mf k) (mb k))).1 (fa (sdW (mf k) (mb k)) (onW (mf k) (mb k))).2 64) (dfZ (fa (sdW (mf k) (mb k)) (onW (mf k) (mb k))).1 (fa (sdW (mf k) (mb k)) (onW (mf k) (mb k))).2 64) (fa (sdW (mf j) (mb j)) (onW (mf j) (mb j))).1 (fa (sdW (mf j) (mb j)) (onW (mf j) (mb j))).2) (i + 1)))), (9, .int 1), (0, .ref (am 0)), (1, .int (nI k)), (2, .int (nI j)), (3, .long (dfO (fa (sdW (mf k) (mb k)) (onW (mf k) (mb k))).1 (fa (sdW (mf k) (mb k)) (onW (mf k) (mb k))).2 64)), (5, .long (dfZ (fa (sdW (mf k) (mb k)) (onW (mf k) (mb k))).1 (fa (sdW (mf k) (mb k)) (onW (mf k) (mb k))).2 64)), (8, .int (nI i))]) hx hb dX5_difference_185 hl (by decide) rfl (fun ls hl => ?_)
                  refine lv_iinc (v := nI (i + 1)) (lv' := [(8, .int (nI (i + 1))), (7, .int (nI (cnt (dfB (dfO (fa (sdW (mf k) (mb k)) (onW (mf k) (mb k))).1 (fa (sdW (mf k) (mb k)) (onW (mf k) (mb k))).2 64) (dfZ (fa (sdW (mf k) (mb k)) (onW (mf k) (mb k))).1 (fa (sdW (mf k) (mb k)) (onW (mf k) (mb k))).2 64) (fa (sdW (mf j) (mb j)) (onW (mf j) (mb j))).1 (fa (sdW (mf j) (mb j)) (onW (mf j) (mb j))).2) (i + 1)))), (9, .int 1), (0, .ref (am 0)), (1, .int (nI k)), (2, .int (nI j)), (3, .long (dfO (fa (sdW (mf k) (mb k)) (onW (mf k) (mb k))).1 (fa (sdW (mf k) (mb k)) (onW (mf k) (mb k))).2 64)), (5, .long (dfZ (fa (sdW (mf k) (mb k)) (onW (mf k) (mb k))).1 (fa (sdW (mf k) (mb k)) (onW (mf k) (mb k))).2 64))]) hx hb dX5_difference_187 hl (k := 7) rfl (nI_add i 1) (by decide) rfl (fun ls hl => ?_)
                  refine lv_goto (tgt := 114) hx hb dX5_difference_190 (by decide) ?_
                  have hl := lv_sub hl (l' := _) [3, 4, 5, 6, 7, 1, 0] rfl
                  exact ih_114 (i + 1) (by show _ ≤ _; omega) (by show _ < _; omega) _ _ _ G hl
              · skip
                have c_139 : ¬ (shb (dfO (fa (sdW (mf k) (mb k)) (onW (mf k) (mb k))).1 (fa (sdW (mf k) (mb k)) (onW (mf k) (mb k))).2 64) i) = (1 : Int64) := fun h => c_139 (lgc_eq.mpr h)
                refine lv_aload_n hx hb dX5_difference_142 rfl (lv_at hl 0 rfl) ?_
                refine g_get (q0 := 0) (v := .ref (am 3)) C0 G in_X5 rfl rfl 10 (by decide) fl_X5_16 (fun _ h => h) rfl dX5_difference_143 ?_
                refine lv_iload hx hb dX5_difference_146 (lv_at hl 6 rfl) ?_
                refine g_iald (q0 := 3) (n := 64) C0 G rfl 1 rfl (vp_in_nI (n := i) (by omega) (by decide)) dX5_difference_148 ?_
                refine g_topi (x' := biF ((fa (sdW (mf j) (mb j)) (onW (mf j) (mb j))).1) ((fa (sdW (mf j) (mb j)) (onW (mf j) (mb j))).2) i) (congrArg (biF ((fa (sdW (mf j) (mb j)) (onW (mf j) (mb j))).1) ((fa (sdW (mf j) (mb j)) (onW (mf j) (mb j))).2)) (nI_clamp (n := i) (by omega))) ?_
                refine lv_iconst (v := 1) hx hb dX5_difference_149 (by decide) ?_
                refine lv_icmp_ne (tgt := 169) hx hb dX5_difference_150 (by decide) (fun c_150 => ?_) (fun c_150 => ?_)
                · skip
                  refine lv_iconst (v := 0) hx hb dX5_difference_169 (by decide) ?_
                  refine lv_istore (lv' := [(9, .int 0), (0, .ref (am 0)), (1, .int (nI k)), (2, .int (nI j)), (3, .long (dfO (fa (sdW (mf k) (mb k)) (onW (mf k) (mb k))).1 (fa (sdW (mf k) (mb k)) (onW (mf k) (mb k))).2 64)), (5, .long (dfZ (fa (sdW (mf k) (mb k)) (onW (mf k) (mb k))).1 (fa (sdW (mf k) (mb k)) (onW (mf k) (mb k))).2 64)), (7, .int (nI (cnt (dfB (dfO (fa (sdW (mf k) (mb k)) (onW (mf k) (mb k))).1 (fa (sdW (mf k) (mb k)) (onW (mf k) (mb k))).2 64) (dfZ (fa (sdW (mf k) (mb k)) (onW (mf k) (mb k))).1 (fa (sdW (mf k) (mb k)) (onW (mf k) (mb k))).2 64) (fa (sdW (mf j) (mb j)) (onW (mf j) (mb j))).1 (fa (sdW (mf j) (mb j)) (onW (mf j) (mb j))).2) i))), (8, .int (nI i))]) hx hb dX5_difference_170 hl (by decide) rfl (fun ls hl => ?_)
                  refine lv_iload hx hb dX5_difference_172 (lv_at hl 6 rfl) ?_
                  refine lv_iload hx hb dX5_difference_174 (lv_at hl 0 rfl) ?_
                  refine lv_if_eq (tgt := 183) hx hb dX5_difference_176 (by decide) (fun c_176 => ?_) (fun c_176 => ?_)
                  · skip
                    refine lv_iconst (v := 0) hx hb dX5_difference_183 (by decide) ?_
                    refine lv_iadd hx hb dX5_difference_184 ?_
                    refine g_topi (x' := nI ((cnt (dfB (dfO (fa (sdW (mf k) (mb k)) (onW (mf k) (mb k))).1 (fa (sdW (mf k) (mb k)) (onW (mf k) (mb k))).2 64) (dfZ (fa (sdW (mf k) (mb k)) (onW (mf k) (mb k))).1 (fa (sdW (mf k) (mb k)) (onW (mf k) (mb k))).2 64) (fa (sdW (mf j) (mb j)) (onW (mf j) (mb j))).1 (fa (sdW (mf j) (mb j)) (onW (mf j) (mb j))).2) i) + 0)) (nI_add (cnt (dfB (dfO (fa (sdW (mf k) (mb k)) (onW (mf k) (mb k))).1 (fa (sdW (mf k) (mb k)) (onW (mf k) (mb k))).2 64) (dfZ (fa (sdW (mf k) (mb k)) (onW (mf k) (mb k))).1 (fa (sdW (mf k) (mb k)) (onW (mf k) (mb k))).2 64) (fa (sdW (mf j) (mb j)) (onW (mf j) (mb j))).1 (fa (sdW (mf j) (mb j)) (onW (mf j) (mb j))).2) i) 0) ?_
                    refine g_topi (x' := nI (cnt (dfB (dfO (fa (sdW (mf k) (mb k)) (onW (mf k) (mb k))).1 (fa (sdW (mf k) (mb k)) (onW (mf k) (mb k))).2 64) (dfZ (fa (sdW (mf k) (mb k)) (onW (mf k) (mb k))).1 (fa (sdW (mf k) (mb k)) (onW (mf k) (mb k))).2 64) (fa (sdW (mf j) (mb j)) (onW (mf j) (mb j))).1 (fa (sdW (mf j) (mb j)) (onW (mf j) (mb j))).2) (i + 1))) (congrArg nI (by first | exact df_one (by first | exact Or.inl ⟨c_128, c_139⟩ | exact Or.inr ⟨c_150, c_162⟩) | exact df_zero (fun h => by rcases h with ⟨h1, h2⟩ | ⟨h1, h2⟩ <;> first | exact c_128 h1 | exact c_139 h2 | exact c_150 h1 | exact c_162 h2 | exact df_01 c_128 h1))) ?_
                    refine lv_istore (lv' := [(7, .int (nI (cnt (dfB (dfO (fa (sdW (mf k) (mb k)) (onW (mf k) (mb k))).1 (fa (sdW (mf k) (mb k)) (onW (mf k) (mb k))).2 64) (dfZ (fa (sdW (mf k) (mb k)) (onW (mf k) (mb k))).1 (fa (sdW (mf k) (mb k)) (onW (mf k) (mb k))).2 64) (fa (sdW (mf j) (mb j)) (onW (mf j) (mb j))).1 (fa (sdW (mf j) (mb j)) (onW (mf j) (mb j))).2) (i + 1)))), (9, .int 0), (0, .ref (am 0)), (1, .int (nI k)), (2, .int (nI j)), (3, .long (dfO (fa (sdW (mf k) (mb k)) (onW (mf k) (mb k))).1 (fa (sdW (mf k) (mb k)) (onW (mf k) (mb k))).2 64)), (5, .long (dfZ (fa (sdW (mf k) (mb k)) (onW (mf k) (mb k))).1 (fa (sdW (mf k) (mb k)) (onW (mf k) (mb k))).2 64)), (8, .int (nI i))]) hx hb dX5_difference_185 hl (by decide) rfl (fun ls hl => ?_)
                    refine lv_iinc (v := nI (i + 1)) (lv' := [(8, .int (nI (i + 1))), (7, .int (nI (cnt (dfB (dfO (fa (sdW (mf k) (mb k)) (onW (mf k) (mb k))).1 (fa (sdW (mf k) (mb k)) (onW (mf k) (mb k))).2 64) (dfZ (fa (sdW (mf k) (mb k)) (onW (mf k) (mb k))).1 (fa (sdW (mf k) (mb k)) (onW (mf k) (mb k))).2 64) (fa (sdW (mf j) (mb j)) (onW (mf j) (mb j))).1 (fa (sdW (mf j) (mb j)) (onW (mf j) (mb j))).2) (i + 1)))), (9, .int 0), (0, .ref (am 0)), (1, .int (nI k)), (2, .int (nI j)), (3, .long (dfO (fa (sdW (mf k) (mb k)) (onW (mf k) (mb k))).1 (fa (sdW (mf k) (mb k)) (onW (mf k) (mb k))).2 64)), (5, .long (dfZ (fa (sdW (mf k) (mb k)) (onW (mf k) (mb k))).1 (fa (sdW (mf k) (mb k)) (onW (mf k) (mb k))).2 64))]) hx hb dX5_difference_187 hl (k := 7) rfl (nI_add i 1) (by decide) rfl (fun ls hl => ?_)
                    refine lv_goto (tgt := 114) hx hb dX5_difference_190 (by decide) ?_
                    have hl := lv_sub hl (l' := _) [3, 4, 5, 6, 7, 1, 0] rfl
                    exact ih_114 (i + 1) (by show _ ≤ _; omega) (by show _ < _; omega) _ _ _ G hl
                  · exact absurd c_176 (by decide)
                · skip
                  refine lv_lload hx hb dX5_difference_153 (lv_at hl 4 rfl) ?_
                  refine lv_iload hx hb dX5_difference_155 (lv_at hl 6 rfl) ?_
                  refine lv_lshr hx hb dX5_difference_157 rfl ?_
                  refine lv_lconst (v := 1) hx hb dX5_difference_158 (by decide) ?_
                  refine lv_land hx hb dX5_difference_159 ?_
                  refine g_topl (x' := shb (dfZ (fa (sdW (mf k) (mb k)) (onW (mf k) (mb k))).1 (fa (sdW (mf k) (mb k)) (onW (mf k) (mb k))).2 64) i) rfl ?_
                  refine lv_lconst (v := 1) hx hb dX5_difference_160 (by decide) ?_
                  refine W.lcmp hx hb dX5_difference_161 ?_
                  refine lv_if_ne (tgt := 169) hx hb dX5_difference_162 (by decide) (fun c_162 => ?_) (fun c_162 => ?_)
                  · skip
                    have c_162 : ¬ (shb (dfZ (fa (sdW (mf k) (mb k)) (onW (mf k) (mb k))).1 (fa (sdW (mf k) (mb k)) (onW (mf k) (mb k))).2 64) i) = (1 : Int64) := fun h => c_162 (lgc_eq.mpr h)
                    refine lv_iconst (v := 0) hx hb dX5_difference_169 (by decide) ?_
                    refine lv_istore (lv' := [(9, .int 0), (0, .ref (am 0)), (1, .int (nI k)), (2, .int (nI j)), (3, .long (dfO (fa (sdW (mf k) (mb k)) (onW (mf k) (mb k))).1 (fa (sdW (mf k) (mb k)) (onW (mf k) (mb k))).2 64)), (5, .long (dfZ (fa (sdW (mf k) (mb k)) (onW (mf k) (mb k))).1 (fa (sdW (mf k) (mb k)) (onW (mf k) (mb k))).2 64)), (7, .int (nI (cnt (dfB (dfO (fa (sdW (mf k) (mb k)) (onW (mf k) (mb k))).1 (fa (sdW (mf k) (mb k)) (onW (mf k) (mb k))).2 64) (dfZ (fa (sdW (mf k) (mb k)) (onW (mf k) (mb k))).1 (fa (sdW (mf k) (mb k)) (onW (mf k) (mb k))).2 64) (fa (sdW (mf j) (mb j)) (onW (mf j) (mb j))).1 (fa (sdW (mf j) (mb j)) (onW (mf j) (mb j))).2) i))), (8, .int (nI i))]) hx hb dX5_difference_170 hl (by decide) rfl (fun ls hl => ?_)
                    refine lv_iload hx hb dX5_difference_172 (lv_at hl 6 rfl) ?_
                    refine lv_iload hx hb dX5_difference_174 (lv_at hl 0 rfl) ?_
                    refine lv_if_eq (tgt := 183) hx hb dX5_difference_176 (by decide) (fun c_176 => ?_) (fun c_176 => ?_)
                    · skip
                      refine lv_iconst (v := 0) hx hb dX5_difference_183 (by decide) ?_
                      refine lv_iadd hx hb dX5_difference_184 ?_
                      refine g_topi (x' := nI ((cnt (dfB (dfO (fa (sdW (mf k) (mb k)) (onW (mf k) (mb k))).1 (fa (sdW (mf k) (mb k)) (onW (mf k) (mb k))).2 64) (dfZ (fa (sdW (mf k) (mb k)) (onW (mf k) (mb k))).1 (fa (sdW (mf k) (mb k)) (onW (mf k) (mb k))).2 64) (fa (sdW (mf j) (mb j)) (onW (mf j) (mb j))).1 (fa (sdW (mf j) (mb j)) (onW (mf j) (mb j))).2) i) + 0)) (nI_add (cnt (dfB (dfO (fa (sdW (mf k) (mb k)) (onW (mf k) (mb k))).1 (fa (sdW (mf k) (mb k)) (onW (mf k) (mb k))).2 64) (dfZ (fa (sdW (mf k) (mb k)) (onW (mf k) (mb k))).1 (fa (sdW (mf k) (mb k)) (onW (mf k) (mb k))).2 64) (fa (sdW (mf j) (mb j)) (onW (mf j) (mb j))).1 (fa (sdW (mf j) (mb j)) (onW (mf j) (mb j))).2) i) 0) ?_
                      refine g_topi (x' := nI (cnt (dfB (dfO (fa (sdW (mf k) (mb k)) (onW (mf k) (mb k))).1 (fa (sdW (mf k) (mb k)) (onW (mf k) (mb k))).2 64) (dfZ (fa (sdW (mf k) (mb k)) (onW (mf k) (mb k))).1 (fa (sdW (mf k) (mb k)) (onW (mf k) (mb k))).2 64) (fa (sdW (mf j) (mb j)) (onW (mf j) (mb j))).1 (fa (sdW (mf j) (mb j)) (onW (mf j) (mb j))).2) (i + 1))) (congrArg nI (by first | exact df_one (by first | exact Or.inl ⟨c_128, c_139⟩ | exact Or.inr ⟨c_150, c_162⟩) | exact df_zero (fun h => by rcases h with ⟨h1, h2⟩ | ⟨h1, h2⟩ <;> first | exact c_128 h1 | exact c_139 h2 | exact c_150 h1 | exact c_162 h2 | exact df_01 c_128 h1))) ?_
                      refine lv_istore (lv' := [(7, .int (nI (cnt (dfB (dfO (fa (sdW (mf k) (mb k)) (onW (mf k) (mb k))).1 (fa (sdW (mf k) (mb k)) (onW (mf k) (mb k))).2 64) (dfZ (fa (sdW (mf k) (mb k)) (onW (mf k) (mb k))).1 (fa (sdW (mf k) (mb k)) (onW (mf k) (mb k))).2 64) (fa (sdW (mf j) (mb j)) (onW (mf j) (mb j))).1 (fa (sdW (mf j) (mb j)) (onW (mf j) (mb j))).2) (i + 1)))), (9, .int 0), (0, .ref (am 0)), (1, .int (nI k)), (2, .int (nI j)), (3, .long (dfO (fa (sdW (mf k) (mb k)) (onW (mf k) (mb k))).1 (fa (sdW (mf k) (mb k)) (onW (mf k) (mb k))).2 64)), (5, .long (dfZ (fa (sdW (mf k) (mb k)) (onW (mf k) (mb k))).1 (fa (sdW (mf k) (mb k)) (onW (mf k) (mb k))).2 64)), (8, .int (nI i))]) hx hb dX5_difference_185 hl (by decide) rfl (fun ls hl => ?_)
                      refine lv_iinc (v := nI (i + 1)) (lv' := [(8, .int (nI (i + 1))), (7, .int (nI (cnt (dfB (dfO (fa (sdW (mf k) (mb k)) (onW (mf k) (mb k))).1 (fa (sdW (mf k) (mb k)) (onW (mf k) (mb k))).2 64) (dfZ (fa (sdW (mf k) (mb k)) (onW (mf k) (mb k))).1 (fa (sdW (mf k) (mb k)) (onW (mf k) (mb k))).2 64) (fa (sdW (mf j) (mb j)) (onW (mf j) (mb j))).1 (fa (sdW (mf j) (mb j)) (onW (mf j) (mb j))).2) (i + 1)))), (9, .int 0), (0, .ref (am 0)), (1, .int (nI k)), (2, .int (nI j)), (3, .long (dfO (fa (sdW (mf k) (mb k)) (onW (mf k) (mb k))).1 (fa (sdW (mf k) (mb k)) (onW (mf k) (mb k))).2 64)), (5, .long (dfZ (fa (sdW (mf k) (mb k)) (onW (mf k) (mb k))).1 (fa (sdW (mf k) (mb k)) (onW (mf k) (mb k))).2 64))]) hx hb dX5_difference_187 hl (k := 7) rfl (nI_add i 1) (by decide) rfl (fun ls hl => ?_)
                      refine lv_goto (tgt := 114) hx hb dX5_difference_190 (by decide) ?_
                      have hl := lv_sub hl (l' := _) [3, 4, 5, 6, 7, 1, 0] rfl
                      exact ih_114 (i + 1) (by show _ ≤ _; omega) (by show _ < _; omega) _ _ _ G hl
                    · exact absurd c_176 (by decide)
                  · skip
                    have c_162 : (shb (dfZ (fa (sdW (mf k) (mb k)) (onW (mf k) (mb k))).1 (fa (sdW (mf k) (mb k)) (onW (mf k) (mb k))).2 64) i) = (1 : Int64) := lgc_eq.mp c_162
                    refine lv_iconst (v := 1) hx hb dX5_difference_165 (by decide) ?_
                    refine lv_goto (tgt := 170) hx hb dX5_difference_166 (by decide) ?_
                    refine lv_istore (lv' := [(9, .int 1), (0, .ref (am 0)), (1, .int (nI k)), (2, .int (nI j)), (3, .long (dfO (fa (sdW (mf k) (mb k)) (onW (mf k) (mb k))).1 (fa (sdW (mf k) (mb k)) (onW (mf k) (mb k))).2 64)), (5, .long (dfZ (fa (sdW (mf k) (mb k)) (onW (mf k) (mb k))).1 (fa (sdW (mf k) (mb k)) (onW (mf k) (mb k))).2 64)), (7, .int (nI (cnt (dfB (dfO (fa (sdW (mf k) (mb k)) (onW (mf k) (mb k))).1 (fa (sdW (mf k) (mb k)) (onW (mf k) (mb k))).2 64) (dfZ (fa (sdW (mf k) (mb k)) (onW (mf k) (mb k))).1 (fa (sdW (mf k) (mb k)) (onW (mf k) (mb k))).2 64) (fa (sdW (mf j) (mb j)) (onW (mf j) (mb j))).1 (fa (sdW (mf j) (mb j)) (onW (mf j) (mb j))).2) i))), (8, .int (nI i))]) hx hb dX5_difference_170 hl (by decide) rfl (fun ls hl => ?_)
                    refine lv_iload hx hb dX5_difference_172 (lv_at hl 6 rfl) ?_
                    refine lv_iload hx hb dX5_difference_174 (lv_at hl 0 rfl) ?_
                    refine lv_if_eq (tgt := 183) hx hb dX5_difference_176 (by decide) (fun c_176 => ?_) (fun c_176 => ?_)
                    · exact absurd c_176 (by decide)
                    · skip
                      refine lv_iconst (v := 1) hx hb dX5_difference_179 (by decide) ?_
                      refine lv_goto (tgt := 184) hx hb dX5_difference_180 (by decide) ?_
                      refine lv_iadd hx hb dX5_difference_184 ?_
                      refine g_topi (x' := nI ((cnt (dfB (dfO (fa (sdW (mf k) (mb k)) (onW (mf k) (mb k))).1 (fa (sdW (mf k) (mb k)) (onW (mf k) (mb k))).2 64) (dfZ (fa (sdW (mf k) (mb k)) (onW (mf k) (mb k))).1 (fa (sdW (mf k) (mb k)) (onW (mf k) (mb k))).2 64) (fa (sdW (mf j) (mb j)) (onW (mf j) (mb j))).1 (fa (sdW (mf j) (mb j)) (onW (mf j) (mb j))).2) i) + 1)) (nI_add (cnt (dfB (dfO (fa (sdW (mf k) (mb k)) (onW (mf k) (mb k))).1 (fa (sdW (mf k) (mb k)) (onW (mf k) (mb k))).2 64) (dfZ (fa (sdW (mf k) (mb k)) (onW (mf k) (mb k))).1 (fa (sdW (mf k) (mb k)) (onW (mf k) (mb k))).2 64) (fa (sdW (mf j) (mb j)) (onW (mf j) (mb j))).1 (fa (sdW (mf j) (mb j)) (onW (mf j) (mb j))).2) i) 1) ?_
                      refine g_topi (x' := nI (cnt (dfB (dfO (fa (sdW (mf k) (mb k)) (onW (mf k) (mb k))).1 (fa (sdW (mf k) (mb k)) (onW (mf k) (mb k))).2 64) (dfZ (fa (sdW (mf k) (mb k)) (onW (mf k) (mb k))).1 (fa (sdW (mf k) (mb k)) (onW (mf k) (mb k))).2 64) (fa (sdW (mf j) (mb j)) (onW (mf j) (mb j))).1 (fa (sdW (mf j) (mb j)) (onW (mf j) (mb j))).2) (i + 1))) (congrArg nI (by first | exact df_one (by first | exact Or.inl ⟨c_128, c_139⟩ | exact Or.inr ⟨c_150, c_162⟩) | exact df_zero (fun h => by rcases h with ⟨h1, h2⟩ | ⟨h1, h2⟩ <;> first | exact c_128 h1 | exact c_139 h2 | exact c_150 h1 | exact c_162 h2 | exact df_01 c_128 h1))) ?_
                      refine lv_istore (lv' := [(7, .int (nI (cnt (dfB (dfO (fa (sdW (mf k) (mb k)) (onW (mf k) (mb k))).1 (fa (sdW (mf k) (mb k)) (onW (mf k) (mb k))).2 64) (dfZ (fa (sdW (mf k) (mb k)) (onW (mf k) (mb k))).1 (fa (sdW (mf k) (mb k)) (onW (mf k) (mb k))).2 64) (fa (sdW (mf j) (mb j)) (onW (mf j) (mb j))).1 (fa (sdW (mf j) (mb j)) (onW (mf j) (mb j))).2) (i + 1)))), (9, .int 1), (0, .ref (am 0)), (1, .int (nI k)), (2, .int (nI j)), (3, .long (dfO (fa (sdW (mf k) (mb k)) (onW (mf k) (mb k))).1 (fa (sdW (mf k) (mb k)) (onW (mf k) (mb k))).2 64)), (5, .long (dfZ (fa (sdW (mf k) (mb k)) (onW (mf k) (mb k))).1 (fa (sdW (mf k) (mb k)) (onW (mf k) (mb k))).2 64)), (8, .int (nI i))]) hx hb dX5_difference_185 hl (by decide) rfl (fun ls hl => ?_)
                      refine lv_iinc (v := nI (i + 1)) (lv' := [(8, .int (nI (i + 1))), (7, .int (nI (cnt (dfB (dfO (fa (sdW (mf k) (mb k)) (onW (mf k) (mb k))).1 (fa (sdW (mf k) (mb k)) (onW (mf k) (mb k))).2 64) (dfZ (fa (sdW (mf k) (mb k)) (onW (mf k) (mb k))).1 (fa (sdW (mf k) (mb k)) (onW (mf k) (mb k))).2 64) (fa (sdW (mf j) (mb j)) (onW (mf j) (mb j))).1 (fa (sdW (mf j) (mb j)) (onW (mf j) (mb j))).2) (i + 1)))), (9, .int 1), (0, .ref (am 0)), (1, .int (nI k)), (2, .int (nI j)), (3, .long (dfO (fa (sdW (mf k) (mb k)) (onW (mf k) (mb k))).1 (fa (sdW (mf k) (mb k)) (onW (mf k) (mb k))).2 64)), (5, .long (dfZ (fa (sdW (mf k) (mb k)) (onW (mf k) (mb k))).1 (fa (sdW (mf k) (mb k)) (onW (mf k) (mb k))).2 64))]) hx hb dX5_difference_187 hl (k := 7) rfl (nI_add i 1) (by decide) rfl (fun ls hl => ?_)
                      refine lv_goto (tgt := 114) hx hb dX5_difference_190 (by decide) ?_
                      have hl := lv_sub hl (l' := _) [3, 4, 5, 6, 7, 1, 0] rfl
                      exact ih_114 (i + 1) (by show _ ≤ _; omega) (by show _ < _; omega) _ _ _ G hl
        · skip
          have c_47 : ¬ (64 ≤ i) := fun h => c_47 ((nI_leI (a := 64) (b := i) (by omega) (by omega)).mpr h)
          refine lv_lload_n hx hb dX5_difference_50 rfl (lv_at hl 3 rfl) ?_
          refine lv_aload_n hx hb dX5_difference_51 rfl (lv_at hl 0 rfl) ?_
          refine g_get (q0 := 0) (v := .ref (am 3)) C0 G in_X5 rfl rfl 10 (by decide) fl_X5_16 (fun _ h => h) rfl dX5_difference_52 ?_
          refine lv_iload hx hb dX5_difference_55 (lv_at hl 5 rfl) ?_
          refine g_iald (q0 := 3) (n := 64) C0 G rfl 1 rfl (vp_in_nI (n := i) (by omega) (by decide)) dX5_difference_57 ?_
          refine g_topi (x' := biF ((fa (sdW (mf k) (mb k)) (onW (mf k) (mb k))).1) ((fa (sdW (mf k) (mb k)) (onW (mf k) (mb k))).2) i) (congrArg (biF ((fa (sdW (mf k) (mb k)) (onW (mf k) (mb k))).1) ((fa (sdW (mf k) (mb k)) (onW (mf k) (mb k))).2)) (nI_clamp (n := i) (by omega))) ?_
          refine lv_iconst (v := 1) hx hb dX5_difference_58 (by decide) ?_
          refine lv_icmp_ne (tgt := 69) hx hb dX5_difference_59 (by decide) (fun c_59 => ?_) (fun c_59 => ?_)
          · skip
            refine lv_lconst (v := 0) hx hb dX5_difference_69 (by decide) ?_
            refine lv_lor hx hb dX5_difference_70 ?_
            refine g_topl (x' := dfO (fa (sdW (mf k) (mb k)) (onW (mf k) (mb k))).1 (fa (sdW (mf k) (mb k)) (onW (mf k) (mb k))).2 (i + 1)) (by first | exact dfO_t c_59 | exact dfO_f c_59) ?_
            refine lv_lstore_n (lv' := [(3, .long (dfO (fa (sdW (mf k) (mb k)) (onW (mf k) (mb k))).1 (fa (sdW (mf k) (mb k)) (onW (mf k) (mb k))).2 (i + 1))), (0, .ref (am 0)), (1, .int (nI k)), (2, .int (nI j)), (5, .long (dfZ (fa (sdW (mf k) (mb k)) (onW (mf k) (mb k))).1 (fa (sdW (mf k) (mb k)) (onW (mf k) (mb k))).2 i)), (7, .int (nI i))]) hx hb dX5_difference_71 rfl hl (by decide) rfl (fun ls hl => ?_)
            refine lv_lload hx hb dX5_difference_72 (lv_at hl 4 rfl) ?_
            refine lv_aload_n hx hb dX5_difference_74 rfl (lv_at hl 1 rfl) ?_
            refine g_get (q0 := 0) (v := .ref (am 3)) C0 G in_X5 rfl rfl 10 (by decide) fl_X5_16 (fun _ h => h) rfl dX5_difference_75 ?_
            refine lv_iload hx hb dX5_difference_78 (lv_at hl 5 rfl) ?_
            refine g_iald (q0 := 3) (n := 64) C0 G rfl 1 rfl (vp_in_nI (n := i) (by omega) (by decide)) dX5_difference_80 ?_
            refine g_topi (x' := biF ((fa (sdW (mf k) (mb k)) (onW (mf k) (mb k))).1) ((fa (sdW (mf k) (mb k)) (onW (mf k) (mb k))).2) i) (congrArg (biF ((fa (sdW (mf k) (mb k)) (onW (mf k) (mb k))).1) ((fa (sdW (mf k) (mb k)) (onW (mf k) (mb k))).2)) (nI_clamp (n := i) (by omega))) ?_
            refine lv_if_ne (tgt := 91) hx hb dX5_difference_81 (by decide) (fun c_81 => ?_) (fun c_81 => ?_)
            · skip
              refine lv_lconst (v := 0) hx hb dX5_difference_91 (by decide) ?_
              refine lv_lor hx hb dX5_difference_92 ?_
              refine g_topl (x' := dfZ (fa (sdW (mf k) (mb k)) (onW (mf k) (mb k))).1 (fa (sdW (mf k) (mb k)) (onW (mf k) (mb k))).2 (i + 1)) (by first | exact dfZ_t c_81 | exact dfZ_f c_81) ?_
              refine lv_lstore (lv' := [(5, .long (dfZ (fa (sdW (mf k) (mb k)) (onW (mf k) (mb k))).1 (fa (sdW (mf k) (mb k)) (onW (mf k) (mb k))).2 (i + 1))), (3, .long (dfO (fa (sdW (mf k) (mb k)) (onW (mf k) (mb k))).1 (fa (sdW (mf k) (mb k)) (onW (mf k) (mb k))).2 (i + 1))), (0, .ref (am 0)), (1, .int (nI k)), (2, .int (nI j)), (7, .int (nI i))]) hx hb dX5_difference_93 hl (by decide) rfl (fun ls hl => ?_)
              refine lv_iinc (v := nI (i + 1)) (lv' := [(7, .int (nI (i + 1))), (5, .long (dfZ (fa (sdW (mf k) (mb k)) (onW (mf k) (mb k))).1 (fa (sdW (mf k) (mb k)) (onW (mf k) (mb k))).2 (i + 1))), (3, .long (dfO (fa (sdW (mf k) (mb k)) (onW (mf k) (mb k))).1 (fa (sdW (mf k) (mb k)) (onW (mf k) (mb k))).2 (i + 1))), (0, .ref (am 0)), (1, .int (nI k)), (2, .int (nI j))]) hx hb dX5_difference_95 hl (k := 5) rfl (nI_add i 1) (by decide) rfl (fun ls hl => ?_)
              refine lv_goto (tgt := 43) hx hb dX5_difference_98 (by decide) ?_
              have hl := lv_sub hl (l' := _) [3, 4, 5, 2, 1, 0] rfl
              exact ih_43 (i + 1) (by show _ ≤ _; omega) (by show _ < _; omega) _ _ _ G hl
            · skip
              refine lv_lconst (v := 1) hx hb dX5_difference_84 (by decide) ?_
              refine lv_iload hx hb dX5_difference_85 (lv_at hl 5 rfl) ?_
              refine lv_lshl hx hb dX5_difference_87 rfl ?_
              refine lv_goto (tgt := 92) hx hb dX5_difference_88 (by decide) ?_
              refine lv_lor hx hb dX5_difference_92 ?_
              refine g_topl (x' := dfZ (fa (sdW (mf k) (mb k)) (onW (mf k) (mb k))).1 (fa (sdW (mf k) (mb k)) (onW (mf k) (mb k))).2 (i + 1)) (by first | exact dfZ_t c_81 | exact dfZ_f c_81) ?_
              refine lv_lstore (lv' := [(5, .long (dfZ (fa (sdW (mf k) (mb k)) (onW (mf k) (mb k))).1 (fa (sdW (mf k) (mb k)) (onW (mf k) (mb k))).2 (i + 1))), (3, .long (dfO (fa (sdW (mf k) (mb k)) (onW (mf k) (mb k))).1 (fa (sdW (mf k) (mb k)) (onW (mf k) (mb k))).2 (i + 1))), (0, .ref (am 0)), (1, .int (nI k)), (2, .int (nI j)), (7, .int (nI i))]) hx hb dX5_difference_93 hl (by decide) rfl (fun ls hl => ?_)
              refine lv_iinc (v := nI (i + 1)) (lv' := [(7, .int (nI (i + 1))), (5, .long (dfZ (fa (sdW (mf k) (mb k)) (onW (mf k) (mb k))).1 (fa (sdW (mf k) (mb k)) (onW (mf k) (mb k))).2 (i + 1))), (3, .long (dfO (fa (sdW (mf k) (mb k)) (onW (mf k) (mb k))).1 (fa (sdW (mf k) (mb k)) (onW (mf k) (mb k))).2 (i + 1))), (0, .ref (am 0)), (1, .int (nI k)), (2, .int (nI j))]) hx hb dX5_difference_95 hl (k := 5) rfl (nI_add i 1) (by decide) rfl (fun ls hl => ?_)
              refine lv_goto (tgt := 43) hx hb dX5_difference_98 (by decide) ?_
              have hl := lv_sub hl (l' := _) [3, 4, 5, 2, 1, 0] rfl
              exact ih_43 (i + 1) (by show _ ≤ _; omega) (by show _ < _; omega) _ _ _ G hl
          · skip
            refine lv_lconst (v := 1) hx hb dX5_difference_62 (by decide) ?_
            refine lv_iload hx hb dX5_difference_63 (lv_at hl 5 rfl) ?_
            refine lv_lshl hx hb dX5_difference_65 rfl ?_
            refine lv_goto (tgt := 70) hx hb dX5_difference_66 (by decide) ?_
            refine lv_lor hx hb dX5_difference_70 ?_
            refine g_topl (x' := dfO (fa (sdW (mf k) (mb k)) (onW (mf k) (mb k))).1 (fa (sdW (mf k) (mb k)) (onW (mf k) (mb k))).2 (i + 1)) (by first | exact dfO_t c_59 | exact dfO_f c_59) ?_
            refine lv_lstore_n (lv' := [(3, .long (dfO (fa (sdW (mf k) (mb k)) (onW (mf k) (mb k))).1 (fa (sdW (mf k) (mb k)) (onW (mf k) (mb k))).2 (i + 1))), (0, .ref (am 0)), (1, .int (nI k)), (2, .int (nI j)), (5, .long (dfZ (fa (sdW (mf k) (mb k)) (onW (mf k) (mb k))).1 (fa (sdW (mf k) (mb k)) (onW (mf k) (mb k))).2 i)), (7, .int (nI i))]) hx hb dX5_difference_71 rfl hl (by decide) rfl (fun ls hl => ?_)
            refine lv_lload hx hb dX5_difference_72 (lv_at hl 4 rfl) ?_
            refine lv_aload_n hx hb dX5_difference_74 rfl (lv_at hl 1 rfl) ?_
            refine g_get (q0 := 0) (v := .ref (am 3)) C0 G in_X5 rfl rfl 10 (by decide) fl_X5_16 (fun _ h => h) rfl dX5_difference_75 ?_
            refine lv_iload hx hb dX5_difference_78 (lv_at hl 5 rfl) ?_
            refine g_iald (q0 := 3) (n := 64) C0 G rfl 1 rfl (vp_in_nI (n := i) (by omega) (by decide)) dX5_difference_80 ?_
            refine g_topi (x' := biF ((fa (sdW (mf k) (mb k)) (onW (mf k) (mb k))).1) ((fa (sdW (mf k) (mb k)) (onW (mf k) (mb k))).2) i) (congrArg (biF ((fa (sdW (mf k) (mb k)) (onW (mf k) (mb k))).1) ((fa (sdW (mf k) (mb k)) (onW (mf k) (mb k))).2)) (nI_clamp (n := i) (by omega))) ?_
            refine lv_if_ne (tgt := 91) hx hb dX5_difference_81 (by decide) (fun c_81 => ?_) (fun c_81 => ?_)
            · skip
              refine lv_lconst (v := 0) hx hb dX5_difference_91 (by decide) ?_
              refine lv_lor hx hb dX5_difference_92 ?_
              refine g_topl (x' := dfZ (fa (sdW (mf k) (mb k)) (onW (mf k) (mb k))).1 (fa (sdW (mf k) (mb k)) (onW (mf k) (mb k))).2 (i + 1)) (by first | exact dfZ_t c_81 | exact dfZ_f c_81) ?_
              refine lv_lstore (lv' := [(5, .long (dfZ (fa (sdW (mf k) (mb k)) (onW (mf k) (mb k))).1 (fa (sdW (mf k) (mb k)) (onW (mf k) (mb k))).2 (i + 1))), (3, .long (dfO (fa (sdW (mf k) (mb k)) (onW (mf k) (mb k))).1 (fa (sdW (mf k) (mb k)) (onW (mf k) (mb k))).2 (i + 1))), (0, .ref (am 0)), (1, .int (nI k)), (2, .int (nI j)), (7, .int (nI i))]) hx hb dX5_difference_93 hl (by decide) rfl (fun ls hl => ?_)
              refine lv_iinc (v := nI (i + 1)) (lv' := [(7, .int (nI (i + 1))), (5, .long (dfZ (fa (sdW (mf k) (mb k)) (onW (mf k) (mb k))).1 (fa (sdW (mf k) (mb k)) (onW (mf k) (mb k))).2 (i + 1))), (3, .long (dfO (fa (sdW (mf k) (mb k)) (onW (mf k) (mb k))).1 (fa (sdW (mf k) (mb k)) (onW (mf k) (mb k))).2 (i + 1))), (0, .ref (am 0)), (1, .int (nI k)), (2, .int (nI j))]) hx hb dX5_difference_95 hl (k := 5) rfl (nI_add i 1) (by decide) rfl (fun ls hl => ?_)
              refine lv_goto (tgt := 43) hx hb dX5_difference_98 (by decide) ?_
              have hl := lv_sub hl (l' := _) [3, 4, 5, 2, 1, 0] rfl
              exact ih_43 (i + 1) (by show _ ≤ _; omega) (by show _ < _; omega) _ _ _ G hl
            · skip
              refine lv_lconst (v := 1) hx hb dX5_difference_84 (by decide) ?_
              refine lv_iload hx hb dX5_difference_85 (lv_at hl 5 rfl) ?_
              refine lv_lshl hx hb dX5_difference_87 rfl ?_
              refine lv_goto (tgt := 92) hx hb dX5_difference_88 (by decide) ?_
              refine lv_lor hx hb dX5_difference_92 ?_
              refine g_topl (x' := dfZ (fa (sdW (mf k) (mb k)) (onW (mf k) (mb k))).1 (fa (sdW (mf k) (mb k)) (onW (mf k) (mb k))).2 (i + 1)) (by first | exact dfZ_t c_81 | exact dfZ_f c_81) ?_
              refine lv_lstore (lv' := [(5, .long (dfZ (fa (sdW (mf k) (mb k)) (onW (mf k) (mb k))).1 (fa (sdW (mf k) (mb k)) (onW (mf k) (mb k))).2 (i + 1))), (3, .long (dfO (fa (sdW (mf k) (mb k)) (onW (mf k) (mb k))).1 (fa (sdW (mf k) (mb k)) (onW (mf k) (mb k))).2 (i + 1))), (0, .ref (am 0)), (1, .int (nI k)), (2, .int (nI j)), (7, .int (nI i))]) hx hb dX5_difference_93 hl (by decide) rfl (fun ls hl => ?_)
              refine lv_iinc (v := nI (i + 1)) (lv' := [(7, .int (nI (i + 1))), (5, .long (dfZ (fa (sdW (mf k) (mb k)) (onW (mf k) (mb k))).1 (fa (sdW (mf k) (mb k)) (onW (mf k) (mb k))).2 (i + 1))), (3, .long (dfO (fa (sdW (mf k) (mb k)) (onW (mf k) (mb k))).1 (fa (sdW (mf k) (mb k)) (onW (mf k) (mb k))).2 (i + 1))), (0, .ref (am 0)), (1, .int (nI k)), (2, .int (nI j))]) hx hb dX5_difference_95 hl (k := 5) rfl (nI_add i 1) (by decide) rfl (fun ls hl => ?_)
              refine lv_goto (tgt := 43) hx hb dX5_difference_98 (by decide) ?_
              have hl := lv_sub hl (l' := _) [3, 4, 5, 2, 1, 0] rfl
              exact ih_43 (i + 1) (by show _ ≤ _; omega) (by show _ < _; omega) _ _ _ G hl
      · skip
        have c_23 : (decide (0 = 0)) = false := bI_f c_23
        exact absurd ((by decide) : (decide (0 = 0)) = true) (by rw [c_23]; decide)

set_option maxHeartbeats 4000000 in
set_option maxRecDepth 100000 in
theorem c_X5_difference_e1 (l : Launch) (D : va_G) (cy : Nat → ClassId) (am : Nat → Nat) (mf : Nat → Int64) (mb : Nat → Int64) (mv : Nat → Nat) (th : Int32) (sv : Nat) (X : Nat → Int32) (ln : Nat) (ap : Nat) (le : Nat) (fc : Nat) (f1 : Int32) (f2 : Int32) (ha : Int64) (R : va_W) (B : Nat → Int32) (p0 : Int32) (p1 : Int32) (he : (inB p0 0 2 && inB p1 0 2) = false) : GE l D (gts cy) yX5_difference cX5_difference 10 (some .int) 4 0 0 [.ref (am 0), .int p0, .int p1] (wM am cy th (cS mf mb mv) sv X ln ap le fc f1 f2 (B) ha R) (gF (some (.int 0)) (wM am cy (nI 1) (cS mf mb mv) sv X ln ap le fc f1 f2 (B) ha R)) := by
  refine g_intro (by decide +kernel) (lv := [(0, .ref (am 0)), (1, .int p0), (2, .int p1)]) rfl (Nat.le_of_ble_eq_true rfl) ?_
  intro p e s m below meth c C0 G ls hl
  have hx := C0.1
  have hb := C0.2.1
  have hown := C0.2.2.2.2.2.1
  have hts := C0.2.2.2.2.2.2.1
  refine lv_aload_n hx hb dX5_difference_0 rfl (lv_at hl 0 rfl) ?_
  refine lv_iload_n hx hb dX5_difference_1 rfl (lv_at hl 1 rfl) ?_
  refine g_callS (As := [.int p0]) (rest := [.ref (am 0)]) C0 G (c_X5_isCard l D cy (W1 := wM am cy th (cS mf mb mv) sv X ln ap le fc f1 f2 (B) ha R) (u := p0) ) k_X5_isCard ml_X5_89 dX5_difference_2 rfl rfl hl.1 (Nat.le_of_ble_eq_true rfl) ⟨Nat.le_of_ble_eq_true rfl, Nat.le_of_ble_eq_true rfl⟩ ⟨Nat.le_of_ble_eq_true rfl, Nat.le_of_ble_eq_true rfl⟩ (fun r W2 H locs hp G => ?_)
  obtain ⟨rfl, hw⟩ := hp
  have G := g_wc hw G
  refine W.eq (g2 := F0 m 5 ls [.int (bI (inB p0 0 2)), .ref (am 0)]) rfl ?_
  refine lv_if_eq (tgt := 19) hx hb dX5_difference_5 (by decide) (fun c_5 => ?_) (fun c_5 => ?_)
  · skip
    have c_5 : (inB p0 0 2) = false := bI_f c_5
    refine lv_iconst (v := 1) hx hb dX5_difference_19 (by decide) ?_
    refine g_callV (As := [.int 1]) (rest := []) (q0 := 0) C0 G (c_X5_holds l D cy (am := am) (mf := mf) (mb := mb) (mv := mv) (th := th) (sv := sv) (X := X) (ln := ln) (ap := ap) (le := le) (fc := fc) (f1 := f1) (f2 := f2) (ha := ha) (R := R) (B := B) (pl := 1) (by omega)) k_X5_holds ml_X5_92 rfl rfl dX5_difference_20 rfl rfl hl.1 (Nat.le_of_ble_eq_true rfl) ⟨Nat.le_of_ble_eq_true rfl, Nat.le_of_ble_eq_true rfl⟩ ⟨Nat.le_of_ble_eq_true rfl, Nat.le_of_ble_eq_true rfl⟩ (fun r W2 H locs hp G => ?_)
    obtain ⟨rfl, hw⟩ := hp
    have G := g_wc hw G
    refine W.eq (g2 := F0 m 23 ls [.int (bI (decide (1 = 0)))]) rfl ?_
    refine lv_if_ne (tgt := 28) hx hb dX5_difference_23 (by decide) (fun c_23 => ?_) (fun c_23 => ?_)
    · skip
      have c_23 : (decide (1 = 0)) = true := bI_t c_23
      exact absurd ((by decide) : (decide (1 = 0)) = false) (by rw [c_23]; decide)
    · skip
      have c_23 : (decide (1 = 0)) = false := bI_f c_23
      refine lv_iconst (v := 0) hx hb dX5_difference_26 (by decide) ?_
      exact g_iret C0 G ⟨by first | rfl | (exfalso; omega) | (simp only [c_5, c_23, Bool.false_eq_true, ↓reduceIte, eq_self, decide_true, decide_false, not_true_eq_false, not_false_eq_true, Bool.true_and, Bool.false_and, Bool.and_true, Bool.and_false]; done) | (simp [c_5, c_23]; done) | (simp [c_5, c_23]; rfl) | (simp [c_5, c_23]; omega), by first | rfl | (exfalso; omega) | (simp only [c_5, c_23, Bool.false_eq_true, ↓reduceIte, eq_self, decide_true, decide_false, not_true_eq_false, not_false_eq_true, Bool.true_and, Bool.false_and, Bool.and_true, Bool.and_false]; done) | (simp [c_5, c_23]; done) | (simp [c_5, c_23]; rfl) | (simp [c_5, c_23]; omega)⟩ dX5_difference_27
  · skip
    have c_5 : (inB p0 0 2) = true := bI_t c_5
    refine lv_iload_n hx hb dX5_difference_8 rfl (lv_at hl 2 rfl) ?_
    refine g_callS (As := [.int p1]) (rest := [.ref (am 0)]) C0 G (c_X5_isCard l D cy (W1 := wM am cy th (cS mf mb mv) sv X ln ap le fc f1 f2 (B) ha R) (u := p1) ) k_X5_isCard ml_X5_89 dX5_difference_9 rfl rfl hl.1 (Nat.le_of_ble_eq_true rfl) ⟨Nat.le_of_ble_eq_true rfl, Nat.le_of_ble_eq_true rfl⟩ ⟨Nat.le_of_ble_eq_true rfl, Nat.le_of_ble_eq_true rfl⟩ (fun r W2 H locs hp G => ?_)
    obtain ⟨rfl, hw⟩ := hp
    have G := g_wc hw G
    refine W.eq (g2 := F0 m 12 ls [.int (bI (inB p1 0 2)), .ref (am 0)]) rfl ?_
    refine lv_if_eq (tgt := 19) hx hb dX5_difference_12 (by decide) (fun c_12 => ?_) (fun c_12 => ?_)
    · skip
      have c_12 : (inB p1 0 2) = false := bI_f c_12
      refine lv_iconst (v := 1) hx hb dX5_difference_19 (by decide) ?_
      refine g_callV (As := [.int 1]) (rest := []) (q0 := 0) C0 G (c_X5_holds l D cy (am := am) (mf := mf) (mb := mb) (mv := mv) (th := th) (sv := sv) (X := X) (ln := ln) (ap := ap) (le := le) (fc := fc) (f1 := f1) (f2 := f2) (ha := ha) (R := R) (B := B) (pl := 1) (by omega)) k_X5_holds ml_X5_92 rfl rfl dX5_difference_20 rfl rfl hl.1 (Nat.le_of_ble_eq_true rfl) ⟨Nat.le_of_ble_eq_true rfl, Nat.le_of_ble_eq_true rfl⟩ ⟨Nat.le_of_ble_eq_true rfl, Nat.le_of_ble_eq_true rfl⟩ (fun r W2 H locs hp G => ?_)
      obtain ⟨rfl, hw⟩ := hp
      have G := g_wc hw G
      refine W.eq (g2 := F0 m 23 ls [.int (bI (decide (1 = 0)))]) rfl ?_
      refine lv_if_ne (tgt := 28) hx hb dX5_difference_23 (by decide) (fun c_23 => ?_) (fun c_23 => ?_)
      · skip
        have c_23 : (decide (1 = 0)) = true := bI_t c_23
        exact absurd ((by decide) : (decide (1 = 0)) = false) (by rw [c_23]; decide)
      · skip
        have c_23 : (decide (1 = 0)) = false := bI_f c_23
        refine lv_iconst (v := 0) hx hb dX5_difference_26 (by decide) ?_
        exact g_iret C0 G ⟨by first | rfl | (exfalso; omega) | (simp only [c_5, c_12, c_23, Bool.false_eq_true, ↓reduceIte, eq_self, decide_true, decide_false, not_true_eq_false, not_false_eq_true, Bool.true_and, Bool.false_and, Bool.and_true, Bool.and_false]; done) | (simp [c_5, c_12, c_23]; done) | (simp [c_5, c_12, c_23]; rfl) | (simp [c_5, c_12, c_23]; omega), by first | rfl | (exfalso; omega) | (simp only [c_5, c_12, c_23, Bool.false_eq_true, ↓reduceIte, eq_self, decide_true, decide_false, not_true_eq_false, not_false_eq_true, Bool.true_and, Bool.false_and, Bool.and_true, Bool.and_false]; done) | (simp [c_5, c_12, c_23]; done) | (simp [c_5, c_12, c_23]; rfl) | (simp [c_5, c_12, c_23]; omega)⟩ dX5_difference_27
    · skip
      have c_12 : (inB p1 0 2) = true := bI_t c_12
      rw [c_5, c_12] at he; exact absurd he (by decide)

set_option maxHeartbeats 4000000 in
set_option maxRecDepth 100000 in
theorem c_X4_digest (l : Launch) (D : va_G) (cy : Nat → ClassId) (ad : Nat → Nat) (fr : Nat → Int64) (bk : Nat → Int64) (vw : Nat → Nat) (tk : Int64) (to : Int64) (fk : Int64) (fo : Int64) (kp : Nat) (sp : Nat) (lt : Nat) (ib : Bool) (rw : Nat) (cl : Nat) (nu : Nat) (tv : Nat) (tm : Nat) (ta : Nat → Int32) (ml : Int32) (tn : Nat) (R : va_W)  (hvw : ∀ k, k < 3 → vw k < 4) : GE l D (gts cy) yX4_digest cX4_digest 6 (some .long) 6 0 0 [.ref (ad 0)] (wC ad cy fr bk vw tk to fk fo kp sp lt ib rw cl nu tv tm ta ml tn R) (gF (some (.long (dgH fr bk vw 3))) (wC ad cy fr bk vw ((dgT fr bk (tk, to) 3).1) ((dgT fr bk (tk, to) 3).2) ((dgF fr bk (fk, fo) 3).1) ((dgF fr bk (fk, fo) 3).2) kp sp lt ib rw cl nu tv tm ta ml tn R)) := by
  refine g_intro (by decide +kernel) (lv := [(0, .ref (ad 0))]) rfl (Nat.le_of_ble_eq_true rfl) ?_
  intro p e s m below meth c C0 G ls hl
  have hx := C0.1
  have hb := C0.2.1
  have hown := C0.2.2.2.2.2.1
  have hts := C0.2.2.2.2.2.2.1
  refine lv_ldc2 (v := (4876)) hx hb hown (hts _ kl_X4_244) dX4_digest_0 ?_
  refine lv_lstore_n (lv' := [(1, .long ((4876) : Int64)), (0, .ref (ad 0))]) hx hb dX4_digest_3 rfl hl (by decide) rfl (fun ls hl => ?_)
  refine lv_iconst (v := 0) hx hb dX4_digest_4 (by decide) ?_
  refine lv_istore_n (lv' := [(3, .int 0), (1, .long ((4876) : Int64)), (0, .ref (ad 0))]) hx hb dX4_digest_5 rfl hl (by decide) rfl (fun ls hl => ?_)
  have hl := lv_sub hl (l' := [(0, .ref (ad 0)), (1, .long ((4876) : Int64)), (3, .int 0)]) [2, 1, 0] rfl
  refine g_loop (σ := Nat) (fun i => 3 - i) (fun i => wC ad cy fr bk vw ((dgT fr bk (tk, to) i).1) ((dgT fr bk (tk, to) i).2) ((dgF fr bk (fk, fo) i).1) ((dgF fr bk (fk, fo) i).2) kp sp lt ib rw cl nu tv tm ta ml tn R) (fun i => [(0, .ref (ad 0)), (1, .long (dgH fr bk vw i)), (3, .int (nI i))]) (fun i => i ≤ 3) ?_ 0 (by show _ ≤ _; omega) G hl
  intro i hi_6 ih_6 H locs ls G hl
  have G : gW D (wC ad cy fr bk vw ((dgT fr bk (tk, to) i).1) ((dgT fr bk (tk, to) i).2) ((dgF fr bk (fk, fo) i).1) ((dgF fr bk (fk, fo) i).2) kp sp lt ib rw cl nu tv tm ta ml tn R) (va_A (wC ad cy fr bk vw tk to fk fo kp sp lt ib rw cl nu tv tm ta ml tn R) s.heap.size) s H locs := G
  have hl : lv_has ls 6 [(0, .ref (ad 0)), (1, .long (dgH fr bk vw i)), (3, .int (nI i))] := hl
  refine lv_iload_n hx hb dX4_digest_6 rfl (lv_at hl 2 rfl) ?_
  refine lv_aload_n hx hb dX4_digest_7 rfl (lv_at hl 0 rfl) ?_
  refine g_get (q0 := 0) (v := .ref (ad 1)) C0 G in_X4 rfl rfl 0 (by decide) fl_X4_11 (fun _ h => h) rfl dX4_digest_8 ?_
  refine g_alen (q0 := 1) (v := 3) C0 G rfl 4 rfl rfl dX4_digest_11 ?_
  refine lv_icmp_ge (tgt := 103) hx hb dX4_digest_12 (by decide) (fun c_12 => ?_) (fun c_12 => ?_)
  · skip
    have c_12 : 3 ≤ i := (nI_leI (a := 3) (b := i) (by omega) (by omega)).mp c_12
    obtain rfl : i = 3 := by omega
    have G : gW D (wC ad cy fr bk vw ((dgT fr bk (tk, to) 3).1) ((dgT fr bk (tk, to) 3).2) ((dgF fr bk (fk, fo) 3).1) ((dgF fr bk (fk, fo) 3).2) kp sp lt ib rw cl nu tv tm ta ml tn R) (va_A (wC ad cy fr bk vw tk to fk fo kp sp lt ib rw cl nu tv tm ta ml tn R) s.heap.size) s _ _ := G
    have hl : lv_has ls 6 [(0, .ref (ad 0)), (1, .long (dgH fr bk vw 3)), (3, .int (nI 3))] := hl
    refine lv_lload_n hx hb dX4_digest_103 rfl (lv_at hl 1 rfl) ?_
    exact g_lret C0 G ⟨by first | rfl | (exfalso; omega) | (simp only [c_12, Bool.false_eq_true, ↓reduceIte, eq_self, decide_true, decide_false, not_true_eq_false, not_false_eq_true, Bool.true_and, Bool.false_and, Bool.and_true, Bool.and_false]; done) | (simp [c_12]; done) | (simp [c_12]; rfl) | (simp [c_12]; omega), by first | rfl | (exfalso; omega) | (simp only [c_12, Bool.false_eq_true, ↓reduceIte, eq_self, decide_true, decide_false, not_true_eq_false, not_false_eq_true, Bool.true_and, Bool.false_and, Bool.and_true, Bool.and_false]; done) | (simp [c_12]; done) | (simp [c_12]; rfl) | (simp [c_12]; omega)⟩ dX4_digest_104
  · skip
    have c_12 : ¬ (3 ≤ i) := fun h => c_12 ((nI_leI (a := 3) (b := i) (by omega) (by omega)).mpr h)
    have hvi : vw i < 4 := hvw i (by omega)
    refine lv_aload_n hx hb dX4_digest_15 rfl (lv_at hl 0 rfl) ?_
    refine g_get (q0 := 0) (v := .ref (ad 1)) C0 G in_X4 rfl rfl 0 (by decide) fl_X4_11 (fun _ h => h) rfl dX4_digest_16 ?_
    refine lv_iload_n hx hb dX4_digest_19 rfl (lv_at hl 2 rfl) ?_
    refine g_aldq (q0 := 1) (n := 3) C0 G rfl 4 rfl (vp_in_nI (n := i) (by omega) (by decide)) dX4_digest_20 ?_
    refine g_topv (x' := .ref (ad (10 + i))) (congrArg (fun z => va_rf ((fun j => some (ad (10 + j))) z)) (nI_clamp (n := i) (by omega))) ?_
    refine lv_astore (lv' := [(4, .ref (ad (10 + i))), (0, .ref (ad 0)), (1, .long (dgH fr bk vw i)), (3, .int (nI i))]) hx hb dX4_digest_21 hl (by decide) rfl (fun ls hl => ?_)
    refine lv_aload_n hx hb dX4_digest_23 rfl (lv_at hl 1 rfl) ?_
    refine lv_aload hx hb dX4_digest_24 (lv_at hl 0 rfl) ?_
    refine g_callV (As := [.ref (ad (10 + i))]) (rest := []) (q0 := 0) C0 G (c_X4_tellingOf l D cy (ad := ad) (fr := fr) (bk := bk) (vw := vw) (tk := (dgT fr bk (tk, to) i).1) (to := (dgT fr bk (tk, to) i).2) (fk := (dgF fr bk (fk, fo) i).1) (fo := (dgF fr bk (fk, fo) i).2) (kp := kp) (sp := sp) (lt := lt) (ib := ib) (rw := rw) (cl := cl) (nu := nu) (tv := tv) (tm := tm) (ta := ta) (ml := ml) (tn := tn) (R := R) (k := i) (by omega)) k_X4_tellingOf ml_X4_107 rfl rfl dX4_digest_26 rfl rfl hl.1 (Nat.le_of_ble_eq_true rfl) ⟨Nat.le_of_ble_eq_true rfl, Nat.le_of_ble_eq_true rfl⟩ ⟨Nat.le_of_ble_eq_true rfl, Nat.le_of_ble_eq_true rfl⟩ (fun r W2 H locs hp G => ?_)
    obtain ⟨rfl, hw⟩ := hp
    have G := g_wc hw G
    refine W.eq (g2 := F0 m 29 ls [.ref (ad 2)]) rfl ?_
    refine lv_astore (lv' := [(5, .ref (ad 2)), (4, .ref (ad (10 + i))), (0, .ref (ad 0)), (1, .long (dgH fr bk vw i)), (3, .int (nI i))]) hx hb dX4_digest_29 hl (by decide) rfl (fun ls hl => ?_)
    refine lv_lload_n hx hb dX4_digest_31 rfl (lv_at hl 3 rfl) ?_
    refine lv_aload hx hb dX4_digest_32 (lv_at hl 1 rfl) ?_
    refine g_getN (q0 := i + 9) (v := .int (nI (vw i))) C0 G in_X0 (wC_at (k := i) (by omega)) rfl 2 (by decide) nf_X4_151 (fun _ h => h) rfl dX4_digest_34 ?_
    refine g_callS (As := [.long (dgH fr bk vw i), .int (nI (vw i))]) (rest := []) C0 G (c_X4_mixed l D cy (W1 := wC ad cy fr bk vw ((fa (sdW (fr i) (bk i)) (onW (fr i) (bk i))).1) ((fa (sdW (fr i) (bk i)) (onW (fr i) (bk i))).2) ((dgF fr bk (fk, fo) i).1) ((dgF fr bk (fk, fo) i).2) kp sp lt ib rw cl nu tv tm ta ml tn R) (ha := dgH fr bk vw i) (x := nI (vw i)) ) k_X4_mixed ml_X4_246 dX4_digest_37 rfl rfl hl.1 (Nat.le_of_ble_eq_true rfl) ⟨Nat.le_of_ble_eq_true rfl, Nat.le_of_ble_eq_true rfl⟩ ⟨Nat.le_of_ble_eq_true rfl, Nat.le_of_ble_eq_true rfl⟩ (fun r W2 H locs hp G => ?_)
    obtain ⟨rfl, hw⟩ := hp
    have G := g_wc hw G
    refine W.eq (g2 := F0 m 40 ls [.long (mxL (dgH fr bk vw i) (nI (vw i)))]) rfl ?_
    refine lv_lstore_n (lv' := [(1, .long (mxL (dgH fr bk vw i) (nI (vw i)))), (5, .ref (ad 2)), (4, .ref (ad (10 + i))), (0, .ref (ad 0)), (3, .int (nI i))]) hx hb dX4_digest_40 rfl hl (by decide) rfl (fun ls hl => ?_)
    refine lv_lload_n hx hb dX4_digest_41 rfl (lv_at hl 0 rfl) ?_
    refine lv_aload hx hb dX4_digest_42 (lv_at hl 2 rfl) ?_
    refine g_callS (As := [.long (mxL (dgH fr bk vw i) (nI (vw i))), .ref (ad (10 + i))]) (rest := []) C0 G (GE.at (i := i + 9) (wC_at (k := i) (by omega)) (fun R => (c_X4_mixedWithCounts l D cy (R := R) (h := ad (10 + i)) (f := fr i) (b := bk i) (v := vw i) (ha := mxL (dgH fr bk vw i) (nI (vw i))) ))) k_X4_mixedWithCounts ml_X4_250 dX4_digest_44 rfl rfl hl.1 (Nat.le_of_ble_eq_true rfl) ⟨Nat.le_of_ble_eq_true rfl, Nat.le_of_ble_eq_true rfl⟩ ⟨Nat.le_of_ble_eq_true rfl, Nat.le_of_ble_eq_true rfl⟩ (fun r W2 H locs hp G => ?_)
    obtain ⟨rfl, hw⟩ := hp
    have G : gW D (wC ad cy fr bk vw ((fa (sdW (fr i) (bk i)) (onW (fr i) (bk i))).1) ((fa (sdW (fr i) (bk i)) (onW (fr i) (bk i))).2) ((dgF fr bk (fk, fo) i).1) ((dgF fr bk (fk, fo) i).2) kp sp lt ib rw cl nu tv tm ta ml tn R) (va_A (wC ad cy fr bk vw tk to fk fo kp sp lt ib rw cl nu tv tm ta ml tn R) s.heap.size) s H locs := g_wc (hw.trans (wC_set (k := i) (by omega) (va_up_s _ _) (va_up_s _ _) (va_up_s _ _))) G
    refine W.eq (g2 := F0 m 47 ls [.long (mcL (fr i) (bk i) (mxL (dgH fr bk vw i) (nI (vw i))) 4)]) rfl ?_
    refine lv_lstore_n (lv' := [(1, .long (mcL (fr i) (bk i) (mxL (dgH fr bk vw i) (nI (vw i))) 4)), (5, .ref (ad 2)), (4, .ref (ad (10 + i))), (0, .ref (ad 0)), (3, .int (nI i))]) hx hb dX4_digest_47 rfl hl (by decide) rfl (fun ls hl => ?_)
    refine lv_lload_n hx hb dX4_digest_48 rfl (lv_at hl 0 rfl) ?_
    refine lv_aload hx hb dX4_digest_49 (lv_at hl 1 rfl) ?_
    refine g_callVN (As := []) (rest := [.long (mcL (fr i) (bk i) (mxL (dgH fr bk vw i) (nI (vw i))) 4)]) (q0 := 2) C0 G (GE.at (i := 2) rfl (fun R => (c_X3_unknownCells l D cy (R := R) (h := ad 2) (kn := (fa (sdW (fr i) (bk i)) (onW (fr i) (bk i))).1) (on := (fa (sdW (fr i) (bk i)) (onW (fr i) (bk i))).2)  ))) k_X3_unknownCells nm_X4_189 rfl rfl dX4_digest_51 rfl rfl hl.1 (Nat.le_of_ble_eq_true rfl) ⟨Nat.le_of_ble_eq_true rfl, Nat.le_of_ble_eq_true rfl⟩ ⟨Nat.le_of_ble_eq_true rfl, Nat.le_of_ble_eq_true rfl⟩ (fun r W2 H locs hp G => ?_)
    obtain ⟨rfl, hw⟩ := hp
    have G : gW D (wC ad cy fr bk vw ((fa (sdW (fr i) (bk i)) (onW (fr i) (bk i))).1) ((fa (sdW (fr i) (bk i)) (onW (fr i) (bk i))).2) ((dgF fr bk (fk, fo) i).1) ((dgF fr bk (fk, fo) i).2) kp sp lt ib rw cl nu tv tm ta ml tn R) (va_A (wC ad cy fr bk vw tk to fk fo kp sp lt ib rw cl nu tv tm ta ml tn R) s.heap.size) s H locs := g_wc (hw.trans (by rfl)) G
    refine W.eq (g2 := F0 m 54 ls [.int (nI (pc (((fa (sdW (fr i) (bk i)) (onW (fr i) (bk i))).1) ^^^ (-1)))), .long (mcL (fr i) (bk i) (mxL (dgH fr bk vw i) (nI (vw i))) 4)]) rfl ?_
    refine g_callS (As := [.long (mcL (fr i) (bk i) (mxL (dgH fr bk vw i) (nI (vw i))) 4), .int (nI (pc (((fa (sdW (fr i) (bk i)) (onW (fr i) (bk i))).1) ^^^ (-1))))]) (rest := []) C0 G (c_X4_mixed l D cy (W1 := wC ad cy fr bk vw ((fa (sdW (fr i) (bk i)) (onW (fr i) (bk i))).1) ((fa (sdW (fr i) (bk i)) (onW (fr i) (bk i))).2) ((dgF fr bk (fk, fo) i).1) ((dgF fr bk (fk, fo) i).2) kp sp lt ib rw cl nu tv tm ta ml tn R) (ha := mcL (fr i) (bk i) (mxL (dgH fr bk vw i) (nI (vw i))) 4) (x := nI (pc (((fa (sdW (fr i) (bk i)) (onW (fr i) (bk i))).1) ^^^ (-1)))) ) k_X4_mixed ml_X4_246 dX4_digest_54 rfl rfl hl.1 (Nat.le_of_ble_eq_true rfl) ⟨Nat.le_of_ble_eq_true rfl, Nat.le_of_ble_eq_true rfl⟩ ⟨Nat.le_of_ble_eq_true rfl, Nat.le_of_ble_eq_true rfl⟩ (fun r W2 H locs hp G => ?_)
    obtain ⟨rfl, hw⟩ := hp
    have G := g_wc hw G
    refine W.eq (g2 := F0 m 57 ls [.long (mxL (mcL (fr i) (bk i) (mxL (dgH fr bk vw i) (nI (vw i))) 4) (nI (pc (((fa (sdW (fr i) (bk i)) (onW (fr i) (bk i))).1) ^^^ (-1)))))]) rfl ?_
    refine lv_lstore_n (lv' := [(1, .long (mxL (mcL (fr i) (bk i) (mxL (dgH fr bk vw i) (nI (vw i))) 4) (nI (pc (((fa (sdW (fr i) (bk i)) (onW (fr i) (bk i))).1) ^^^ (-1)))))), (5, .ref (ad 2)), (4, .ref (ad (10 + i))), (0, .ref (ad 0)), (3, .int (nI i))]) hx hb dX4_digest_57 rfl hl (by decide) rfl (fun ls hl => ?_)
    refine lv_lload_n hx hb dX4_digest_58 rfl (lv_at hl 0 rfl) ?_
    refine lv_aload hx hb dX4_digest_59 (lv_at hl 1 rfl) ?_
    refine g_callVN (As := []) (rest := [.long (mxL (mcL (fr i) (bk i) (mxL (dgH fr bk vw i) (nI (vw i))) 4) (nI (pc (((fa (sdW (fr i) (bk i)) (onW (fr i) (bk i))).1) ^^^ (-1)))))]) (q0 := 2) C0 G (GE.at (i := 2) rfl (fun R => (c_X3_disagreeingLines l D cy (R := R) (h := ad 2) (kn := (fa (sdW (fr i) (bk i)) (onW (fr i) (bk i))).1) (on := (fa (sdW (fr i) (bk i)) (onW (fr i) (bk i))).2)  ))) k_X3_disagreeingLines nm_X4_192 rfl rfl dX4_digest_61 rfl rfl hl.1 (Nat.le_of_ble_eq_true rfl) ⟨Nat.le_of_ble_eq_true rfl, Nat.le_of_ble_eq_true rfl⟩ ⟨Nat.le_of_ble_eq_true rfl, Nat.le_of_ble_eq_true rfl⟩ (fun r W2 H locs hp G => ?_)
    obtain ⟨rfl, hw⟩ := hp
    have G : gW D (wC ad cy fr bk vw ((fa (sdW (fr i) (bk i)) (onW (fr i) (bk i))).1) ((fa (sdW (fr i) (bk i)) (onW (fr i) (bk i))).2) ((dgF fr bk (fk, fo) i).1) ((dgF fr bk (fk, fo) i).2) kp sp lt ib rw cl nu tv tm ta ml tn R) (va_A (wC ad cy fr bk vw tk to fk fo kp sp lt ib rw cl nu tv tm ta ml tn R) s.heap.size) s H locs := g_wc (hw.trans (by rfl)) G
    refine W.eq (g2 := F0 m 64 ls [.int (nI (cnt (dgB ((fa (sdW (fr i) (bk i)) (onW (fr i) (bk i))).1) ((fa (sdW (fr i) (bk i)) (onW (fr i) (bk i))).2)) 16)), .long (mxL (mcL (fr i) (bk i) (mxL (dgH fr bk vw i) (nI (vw i))) 4) (nI (pc (((fa (sdW (fr i) (bk i)) (onW (fr i) (bk i))).1) ^^^ (-1)))))]) rfl ?_
    refine g_callS (As := [.long (mxL (mcL (fr i) (bk i) (mxL (dgH fr bk vw i) (nI (vw i))) 4) (nI (pc (((fa (sdW (fr i) (bk i)) (onW (fr i) (bk i))).1) ^^^ (-1))))), .int (nI (cnt (dgB ((fa (sdW (fr i) (bk i)) (onW (fr i) (bk i))).1) ((fa (sdW (fr i) (bk i)) (onW (fr i) (bk i))).2)) 16))]) (rest := []) C0 G (c_X4_mixed l D cy (W1 := wC ad cy fr bk vw ((fa (sdW (fr i) (bk i)) (onW (fr i) (bk i))).1) ((fa (sdW (fr i) (bk i)) (onW (fr i) (bk i))).2) ((dgF fr bk (fk, fo) i).1) ((dgF fr bk (fk, fo) i).2) kp sp lt ib rw cl nu tv tm ta ml tn R) (ha := mxL (mcL (fr i) (bk i) (mxL (dgH fr bk vw i) (nI (vw i))) 4) (nI (pc (((fa (sdW (fr i) (bk i)) (onW (fr i) (bk i))).1) ^^^ (-1))))) (x := nI (cnt (dgB ((fa (sdW (fr i) (bk i)) (onW (fr i) (bk i))).1) ((fa (sdW (fr i) (bk i)) (onW (fr i) (bk i))).2)) 16)) ) k_X4_mixed ml_X4_246 dX4_digest_64 rfl rfl hl.1 (Nat.le_of_ble_eq_true rfl) ⟨Nat.le_of_ble_eq_true rfl, Nat.le_of_ble_eq_true rfl⟩ ⟨Nat.le_of_ble_eq_true rfl, Nat.le_of_ble_eq_true rfl⟩ (fun r W2 H locs hp G => ?_)
    obtain ⟨rfl, hw⟩ := hp
    have G := g_wc hw G
    refine W.eq (g2 := F0 m 67 ls [.long (mxL (mxL (mcL (fr i) (bk i) (mxL (dgH fr bk vw i) (nI (vw i))) 4) (nI (pc (((fa (sdW (fr i) (bk i)) (onW (fr i) (bk i))).1) ^^^ (-1))))) (nI (cnt (dgB ((fa (sdW (fr i) (bk i)) (onW (fr i) (bk i))).1) ((fa (sdW (fr i) (bk i)) (onW (fr i) (bk i))).2)) 16)))]) rfl ?_
    refine lv_lstore_n (lv' := [(1, .long (mxL (mxL (mcL (fr i) (bk i) (mxL (dgH fr bk vw i) (nI (vw i))) 4) (nI (pc (((fa (sdW (fr i) (bk i)) (onW (fr i) (bk i))).1) ^^^ (-1))))) (nI (cnt (dgB ((fa (sdW (fr i) (bk i)) (onW (fr i) (bk i))).1) ((fa (sdW (fr i) (bk i)) (onW (fr i) (bk i))).2)) 16)))), (5, .ref (ad 2)), (4, .ref (ad (10 + i))), (0, .ref (ad 0)), (3, .int (nI i))]) hx hb dX4_digest_67 rfl hl (by decide) rfl (fun ls hl => ?_)
    refine lv_lload_n hx hb dX4_digest_68 rfl (lv_at hl 0 rfl) ?_
    refine lv_aload_n hx hb dX4_digest_69 rfl (lv_at hl 3 rfl) ?_
    refine lv_aload hx hb dX4_digest_70 (lv_at hl 2 rfl) ?_
    refine g_callV (As := [.ref (ad (10 + i))]) (rest := [.long (mxL (mxL (mcL (fr i) (bk i) (mxL (dgH fr bk vw i) (nI (vw i))) 4) (nI (pc (((fa (sdW (fr i) (bk i)) (onW (fr i) (bk i))).1) ^^^ (-1))))) (nI (cnt (dgB ((fa (sdW (fr i) (bk i)) (onW (fr i) (bk i))).1) ((fa (sdW (fr i) (bk i)) (onW (fr i) (bk i))).2)) 16)))]) (q0 := 0) C0 G (c_X4_worstCell l D cy (ad := ad) (fr := fr) (bk := bk) (vw := vw) (tk := (fa (sdW (fr i) (bk i)) (onW (fr i) (bk i))).1) (to := (fa (sdW (fr i) (bk i)) (onW (fr i) (bk i))).2) (fk := (dgF fr bk (fk, fo) i).1) (fo := (dgF fr bk (fk, fo) i).2) (kp := kp) (sp := sp) (lt := lt) (ib := ib) (rw := rw) (cl := cl) (nu := nu) (tv := tv) (tm := tm) (ta := ta) (ml := ml) (tn := tn) (R := R) (k := i) (by omega)) k_X4_worstCell ml_X4_206 rfl rfl dX4_digest_72 rfl rfl hl.1 (Nat.le_of_ble_eq_true rfl) ⟨Nat.le_of_ble_eq_true rfl, Nat.le_of_ble_eq_true rfl⟩ ⟨Nat.le_of_ble_eq_true rfl, Nat.le_of_ble_eq_true rfl⟩ (fun r W2 H locs hp G => ?_)
    obtain ⟨rfl, hw⟩ := hp
    have G := g_wc hw G
    refine W.eq (g2 := F0 m 75 ls [.int ((wcS (fr i) (bk i) 64).1), .long (mxL (mxL (mcL (fr i) (bk i) (mxL (dgH fr bk vw i) (nI (vw i))) 4) (nI (pc (((fa (sdW (fr i) (bk i)) (onW (fr i) (bk i))).1) ^^^ (-1))))) (nI (cnt (dgB ((fa (sdW (fr i) (bk i)) (onW (fr i) (bk i))).1) ((fa (sdW (fr i) (bk i)) (onW (fr i) (bk i))).2)) 16)))]) rfl ?_
    refine g_callS (As := [.long (mxL (mxL (mcL (fr i) (bk i) (mxL (dgH fr bk vw i) (nI (vw i))) 4) (nI (pc (((fa (sdW (fr i) (bk i)) (onW (fr i) (bk i))).1) ^^^ (-1))))) (nI (cnt (dgB ((fa (sdW (fr i) (bk i)) (onW (fr i) (bk i))).1) ((fa (sdW (fr i) (bk i)) (onW (fr i) (bk i))).2)) 16))), .int ((wcS (fr i) (bk i) 64).1)]) (rest := []) C0 G (c_X4_mixed l D cy (W1 := wC ad cy fr bk vw ((fa (sdW (fr i) (bk i)) (onW (fr i) (bk i))).1) ((fa (sdW (fr i) (bk i)) (onW (fr i) (bk i))).2) ((wcF (fr i) (bk i) (((dgF fr bk (fk, fo) i).1), ((dgF fr bk (fk, fo) i).2)) 64).1) ((wcF (fr i) (bk i) (((dgF fr bk (fk, fo) i).1), ((dgF fr bk (fk, fo) i).2)) 64).2) kp sp lt ib rw cl nu tv tm ta ml tn R) (ha := mxL (mxL (mcL (fr i) (bk i) (mxL (dgH fr bk vw i) (nI (vw i))) 4) (nI (pc (((fa (sdW (fr i) (bk i)) (onW (fr i) (bk i))).1) ^^^ (-1))))) (nI (cnt (dgB ((fa (sdW (fr i) (bk i)) (onW (fr i) (bk i))).1) ((fa (sdW (fr i) (bk i)) (onW (fr i) (bk i))).2)) 16))) (x := (wcS (fr i) (bk i) 64).1) ) k_X4_mixed ml_X4_246 dX4_digest_75 rfl rfl hl.1 (Nat.le_of_ble_eq_true rfl) ⟨Nat.le_of_ble_eq_true rfl, Nat.le_of_ble_eq_true rfl⟩ ⟨Nat.le_of_ble_eq_true rfl, Nat.le_of_ble_eq_true rfl⟩ (fun r W2 H locs hp G => ?_)
    obtain ⟨rfl, hw⟩ := hp
    have G := g_wc hw G
    refine W.eq (g2 := F0 m 78 ls [.long (mxL (mxL (mxL (mcL (fr i) (bk i) (mxL (dgH fr bk vw i) (nI (vw i))) 4) (nI (pc (((fa (sdW (fr i) (bk i)) (onW (fr i) (bk i))).1) ^^^ (-1))))) (nI (cnt (dgB ((fa (sdW (fr i) (bk i)) (onW (fr i) (bk i))).1) ((fa (sdW (fr i) (bk i)) (onW (fr i) (bk i))).2)) 16))) ((wcS (fr i) (bk i) 64).1))]) rfl ?_
    refine lv_lstore_n (lv' := [(1, .long (mxL (mxL (mxL (mcL (fr i) (bk i) (mxL (dgH fr bk vw i) (nI (vw i))) 4) (nI (pc (((fa (sdW (fr i) (bk i)) (onW (fr i) (bk i))).1) ^^^ (-1))))) (nI (cnt (dgB ((fa (sdW (fr i) (bk i)) (onW (fr i) (bk i))).1) ((fa (sdW (fr i) (bk i)) (onW (fr i) (bk i))).2)) 16))) ((wcS (fr i) (bk i) 64).1))), (5, .ref (ad 2)), (4, .ref (ad (10 + i))), (0, .ref (ad 0)), (3, .int (nI i))]) hx hb dX4_digest_78 rfl hl (by decide) rfl (fun ls hl => ?_)
    refine lv_lload_n hx hb dX4_digest_79 rfl (lv_at hl 0 rfl) ?_
    refine lv_aload hx hb dX4_digest_80 (lv_at hl 2 rfl) ?_
    refine lv_aload hx hb dX4_digest_82 (lv_at hl 1 rfl) ?_
    refine g_callS (As := [.long (mxL (mxL (mxL (mcL (fr i) (bk i) (mxL (dgH fr bk vw i) (nI (vw i))) 4) (nI (pc (((fa (sdW (fr i) (bk i)) (onW (fr i) (bk i))).1) ^^^ (-1))))) (nI (cnt (dgB ((fa (sdW (fr i) (bk i)) (onW (fr i) (bk i))).1) ((fa (sdW (fr i) (bk i)) (onW (fr i) (bk i))).2)) 16))) ((wcS (fr i) (bk i) 64).1)), .ref (ad (10 + i)), .ref (ad 2)]) (rest := []) C0 G (c_X4_mixedWithRows l D cy (ad := ad) (fr := fr) (bk := bk) (vw := vw) (tk := (fa (sdW (fr i) (bk i)) (onW (fr i) (bk i))).1) (to := (fa (sdW (fr i) (bk i)) (onW (fr i) (bk i))).2) (fk := (wcF (fr i) (bk i) (((dgF fr bk (fk, fo) i).1), ((dgF fr bk (fk, fo) i).2)) 64).1) (fo := (wcF (fr i) (bk i) (((dgF fr bk (fk, fo) i).1), ((dgF fr bk (fk, fo) i).2)) 64).2) (kp := kp) (sp := sp) (lt := lt) (ib := ib) (rw := rw) (cl := cl) (nu := nu) (tv := tv) (tm := tm) (ta := ta) (ml := ml) (tn := tn) (R := R) (ha := mxL (mxL (mxL (mcL (fr i) (bk i) (mxL (dgH fr bk vw i) (nI (vw i))) 4) (nI (pc (((fa (sdW (fr i) (bk i)) (onW (fr i) (bk i))).1) ^^^ (-1))))) (nI (cnt (dgB ((fa (sdW (fr i) (bk i)) (onW (fr i) (bk i))).1) ((fa (sdW (fr i) (bk i)) (onW (fr i) (bk i))).2)) 16))) ((wcS (fr i) (bk i) 64).1)) (k := i) (by omega) (by omega)) k_X4_mixedWithRows ml_X4_254 dX4_digest_84 rfl rfl hl.1 (Nat.le_of_ble_eq_true rfl) ⟨Nat.le_of_ble_eq_true rfl, Nat.le_of_ble_eq_true rfl⟩ ⟨Nat.le_of_ble_eq_true rfl, Nat.le_of_ble_eq_true rfl⟩ (fun r W2 H locs hp G => ?_)
    obtain ⟨rfl, hw⟩ := hp
    have G := g_wc hw G
    refine W.eq (g2 := F0 m 87 ls [.long (mrB (fr i) (bk i) ((fa (sdW (fr i) (bk i)) (onW (fr i) (bk i))).1) ((fa (sdW (fr i) (bk i)) (onW (fr i) (bk i))).2) (mrA (fr i) (bk i) (vw i) (mxL (mxL (mxL (mcL (fr i) (bk i) (mxL (dgH fr bk vw i) (nI (vw i))) 4) (nI (pc (((fa (sdW (fr i) (bk i)) (onW (fr i) (bk i))).1) ^^^ (-1))))) (nI (cnt (dgB ((fa (sdW (fr i) (bk i)) (onW (fr i) (bk i))).1) ((fa (sdW (fr i) (bk i)) (onW (fr i) (bk i))).2)) 16))) ((wcS (fr i) (bk i) 64).1)) 8) 7)]) rfl ?_
    refine lv_lstore_n (lv' := [(1, .long (mrB (fr i) (bk i) ((fa (sdW (fr i) (bk i)) (onW (fr i) (bk i))).1) ((fa (sdW (fr i) (bk i)) (onW (fr i) (bk i))).2) (mrA (fr i) (bk i) (vw i) (mxL (mxL (mxL (mcL (fr i) (bk i) (mxL (dgH fr bk vw i) (nI (vw i))) 4) (nI (pc (((fa (sdW (fr i) (bk i)) (onW (fr i) (bk i))).1) ^^^ (-1))))) (nI (cnt (dgB ((fa (sdW (fr i) (bk i)) (onW (fr i) (bk i))).1) ((fa (sdW (fr i) (bk i)) (onW (fr i) (bk i))).2)) 16))) ((wcS (fr i) (bk i) 64).1)) 8) 7)), (5, .ref (ad 2)), (4, .ref (ad (10 + i))), (0, .ref (ad 0)), (3, .int (nI i))]) hx hb dX4_digest_87 rfl hl (by decide) rfl (fun ls hl => ?_)
    refine lv_lload_n hx hb dX4_digest_88 rfl (lv_at hl 0 rfl) ?_
    refine lv_aload hx hb dX4_digest_89 (lv_at hl 2 rfl) ?_
    refine lv_aload hx hb dX4_digest_91 (lv_at hl 1 rfl) ?_
    refine g_callS (As := [.long (mrB (fr i) (bk i) ((fa (sdW (fr i) (bk i)) (onW (fr i) (bk i))).1) ((fa (sdW (fr i) (bk i)) (onW (fr i) (bk i))).2) (mrA (fr i) (bk i) (vw i) (mxL (mxL (mxL (mcL (fr i) (bk i) (mxL (dgH fr bk vw i) (nI (vw i))) 4) (nI (pc (((fa (sdW (fr i) (bk i)) (onW (fr i) (bk i))).1) ^^^ (-1))))) (nI (cnt (dgB ((fa (sdW (fr i) (bk i)) (onW (fr i) (bk i))).1) ((fa (sdW (fr i) (bk i)) (onW (fr i) (bk i))).2)) 16))) ((wcS (fr i) (bk i) 64).1)) 8) 7), .ref (ad (10 + i)), .ref (ad 2)]) (rest := []) C0 G (c_X4_mixedWithCells l D cy (ad := ad) (fr := fr) (bk := bk) (vw := vw) (tk := (fa (sdW (fr i) (bk i)) (onW (fr i) (bk i))).1) (to := (fa (sdW (fr i) (bk i)) (onW (fr i) (bk i))).2) (fk := (wcF (fr i) (bk i) (((dgF fr bk (fk, fo) i).1), ((dgF fr bk (fk, fo) i).2)) 64).1) (fo := (wcF (fr i) (bk i) (((dgF fr bk (fk, fo) i).1), ((dgF fr bk (fk, fo) i).2)) 64).2) (kp := kp) (sp := sp) (lt := lt) (ib := ib) (rw := rw) (cl := cl) (nu := nu) (tv := tv) (tm := tm) (ta := ta) (ml := ml) (tn := tn) (R := R) (ha := mrB (fr i) (bk i) ((fa (sdW (fr i) (bk i)) (onW (fr i) (bk i))).1) ((fa (sdW (fr i) (bk i)) (onW (fr i) (bk i))).2) (mrA (fr i) (bk i) (vw i) (mxL (mxL (mxL (mcL (fr i) (bk i) (mxL (dgH fr bk vw i) (nI (vw i))) 4) (nI (pc (((fa (sdW (fr i) (bk i)) (onW (fr i) (bk i))).1) ^^^ (-1))))) (nI (cnt (dgB ((fa (sdW (fr i) (bk i)) (onW (fr i) (bk i))).1) ((fa (sdW (fr i) (bk i)) (onW (fr i) (bk i))).2)) 16))) ((wcS (fr i) (bk i) 64).1)) 8) 7) (k := i) (by omega)) k_X4_mixedWithCells ml_X4_258 dX4_digest_93 rfl rfl hl.1 (Nat.le_of_ble_eq_true rfl) ⟨Nat.le_of_ble_eq_true rfl, Nat.le_of_ble_eq_true rfl⟩ ⟨Nat.le_of_ble_eq_true rfl, Nat.le_of_ble_eq_true rfl⟩ (fun r W2 H locs hp G => ?_)
    obtain ⟨rfl, hw⟩ := hp
    have G := g_wc hw G
    refine W.eq (g2 := F0 m 96 ls [.long (mlL (fr i) (bk i) ((fa (sdW (fr i) (bk i)) (onW (fr i) (bk i))).1) ((fa (sdW (fr i) (bk i)) (onW (fr i) (bk i))).2) (mrB (fr i) (bk i) ((fa (sdW (fr i) (bk i)) (onW (fr i) (bk i))).1) ((fa (sdW (fr i) (bk i)) (onW (fr i) (bk i))).2) (mrA (fr i) (bk i) (vw i) (mxL (mxL (mxL (mcL (fr i) (bk i) (mxL (dgH fr bk vw i) (nI (vw i))) 4) (nI (pc (((fa (sdW (fr i) (bk i)) (onW (fr i) (bk i))).1) ^^^ (-1))))) (nI (cnt (dgB ((fa (sdW (fr i) (bk i)) (onW (fr i) (bk i))).1) ((fa (sdW (fr i) (bk i)) (onW (fr i) (bk i))).2)) 16))) ((wcS (fr i) (bk i) 64).1)) 8) 7) 64)]) rfl ?_
    refine lv_lstore_n (lv' := [(1, .long (mlL (fr i) (bk i) ((fa (sdW (fr i) (bk i)) (onW (fr i) (bk i))).1) ((fa (sdW (fr i) (bk i)) (onW (fr i) (bk i))).2) (mrB (fr i) (bk i) ((fa (sdW (fr i) (bk i)) (onW (fr i) (bk i))).1) ((fa (sdW (fr i) (bk i)) (onW (fr i) (bk i))).2) (mrA (fr i) (bk i) (vw i) (mxL (mxL (mxL (mcL (fr i) (bk i) (mxL (dgH fr bk vw i) (nI (vw i))) 4) (nI (pc (((fa (sdW (fr i) (bk i)) (onW (fr i) (bk i))).1) ^^^ (-1))))) (nI (cnt (dgB ((fa (sdW (fr i) (bk i)) (onW (fr i) (bk i))).1) ((fa (sdW (fr i) (bk i)) (onW (fr i) (bk i))).2)) 16))) ((wcS (fr i) (bk i) 64).1)) 8) 7) 64)), (5, .ref (ad 2)), (4, .ref (ad (10 + i))), (0, .ref (ad 0)), (3, .int (nI i))]) hx hb dX4_digest_96 rfl hl (by decide) rfl (fun ls hl => ?_)
    refine lv_iinc (v := nI (i + 1)) (lv' := [(3, .int (nI (i + 1))), (1, .long (mlL (fr i) (bk i) ((fa (sdW (fr i) (bk i)) (onW (fr i) (bk i))).1) ((fa (sdW (fr i) (bk i)) (onW (fr i) (bk i))).2) (mrB (fr i) (bk i) ((fa (sdW (fr i) (bk i)) (onW (fr i) (bk i))).1) ((fa (sdW (fr i) (bk i)) (onW (fr i) (bk i))).2) (mrA (fr i) (bk i) (vw i) (mxL (mxL (mxL (mcL (fr i) (bk i) (mxL (dgH fr bk vw i) (nI (vw i))) 4) (nI (pc (((fa (sdW (fr i) (bk i)) (onW (fr i) (bk i))).1) ^^^ (-1))))) (nI (cnt (dgB ((fa (sdW (fr i) (bk i)) (onW (fr i) (bk i))).1) ((fa (sdW (fr i) (bk i)) (onW (fr i) (bk i))).2)) 16))) ((wcS (fr i) (bk i) 64).1)) 8) 7) 64)), (5, .ref (ad 2)), (4, .ref (ad (10 + i))), (0, .ref (ad 0))]) hx hb dX4_digest_97 hl (k := 4) rfl (nI_add i 1) (by decide) rfl (fun ls hl => ?_)
    refine lv_goto (tgt := 6) hx hb dX4_digest_100 (by decide) ?_
    have hl := lv_sub hl (l' := _) [4, 1, 0] rfl
    exact ih_6 (i + 1) (by show _ ≤ _; omega) (by show _ < _; omega) _ _ _ G hl

set_option maxHeartbeats 4000000 in
set_option maxRecDepth 100000 in
theorem c_X5_digest_ok (l : Launch) (D : va_G) (cy : Nat → ClassId) (am : Nat → Nat) (mf : Nat → Int64) (mb : Nat → Int64) (mv : Nat → Nat) (kn : Int64) (on : Int64) (th : Int32) (sv : Nat) (X : Nat → Int32) (ln : Nat) (ap : Nat) (le : Nat) (fc : Nat) (f1 : Int32) (f2 : Int32) (ha : Int64) (R : va_W)  (hvw : ∀ k, k < 3 → mv k < 4) : GE l D (gts cy) yX5_digest cX5_digest 3 (some .long) 6 0 0 [.ref (am 0)] (wM am cy th (cS mf mb mv) sv X ln ap le fc f1 f2 (biF kn on) ha R) (gF (some (.long (dgH mf mb mv 3))) (wM am cy 0 (cS mf mb mv) sv X ln ap le fc f1 f2 (biF ((dgT mf mb (kn, on) 3).1) ((dgT mf mb (kn, on) 3).2)) (dgH mf mb mv 3) R)) := by
  refine g_intro (by decide +kernel) (lv := [(0, .ref (am 0))]) rfl (Nat.le_of_ble_eq_true rfl) ?_
  intro p e s m below meth c C0 G ls hl
  have hx := C0.1
  have hb := C0.2.1
  have hown := C0.2.2.2.2.2.1
  have hts := C0.2.2.2.2.2.2.1
  refine lv_aload_n hx hb dX5_digest_0 rfl (lv_at hl 0 rfl) ?_
  refine lv_iconst (v := 0) hx hb dX5_digest_1 (by decide) ?_
  refine g_put (q0 := 0) (W2 := wM am cy 0 (cS mf mb mv) sv X ln ap le fc f1 f2 (biF kn on) ha R) C0 G ft_X5 in_X5 rfl rfl 0 (by decide) fl_X5_23 (fun _ h => h) rfl rfl rfl (Nat.le_of_ble_eq_true rfl) rfl dX5_digest_2 (fun H locs G => ?_)
  refine lv_aload_n hx hb dX5_digest_5 rfl (lv_at hl 0 rfl) ?_
  refine lv_ldc2 (v := (4876)) hx hb hown (hts _ kl_X5_187) dX5_digest_6 ?_
  refine g_put (q0 := 0) (W2 := wM am cy 0 (cS mf mb mv) sv X ln ap le fc f1 f2 (biF kn on) ((4876) : Int64) R) C0 G ft_X5 in_X5 rfl rfl 11 (by decide) fl_X5_183 (fun _ h => h) rfl rfl rfl (Nat.le_of_ble_eq_true rfl) rfl dX5_digest_9 (fun H locs G => ?_)
  refine lv_iconst (v := 0) hx hb dX5_digest_12 (by decide) ?_
  refine lv_istore_n (lv' := [(1, .int 0), (0, .ref (am 0))]) hx hb dX5_digest_13 rfl hl (by decide) rfl (fun ls hl => ?_)
  have hl := lv_sub hl (l' := [(0, .ref (am 0)), (1, .int 0)]) [1, 0] rfl
  refine g_loop (σ := Nat) (fun i => 3 - i) (fun i => wM am cy 0 (cS mf mb mv) sv X ln ap le fc f1 f2 (biF ((dgT mf mb (kn, on) i).1) ((dgT mf mb (kn, on) i).2)) (dgH mf mb mv i) R) (fun i => [(0, .ref (am 0)), (1, .int (nI i))]) (fun i => i ≤ 3) ?_ 0 (by show _ ≤ _; omega) G hl
  intro i hi_14 ih_14 H locs ls G hl
  have G : gW D (wM am cy 0 (cS mf mb mv) sv X ln ap le fc f1 f2 (biF ((dgT mf mb (kn, on) i).1) ((dgT mf mb (kn, on) i).2)) (dgH mf mb mv i) R) (va_A (wM am cy th (cS mf mb mv) sv X ln ap le fc f1 f2 (biF kn on) ha R) s.heap.size) s H locs := G
  have hl : lv_has ls 3 [(0, .ref (am 0)), (1, .int (nI i))] := hl
  refine lv_iload_n hx hb dX5_digest_14 rfl (lv_at hl 1 rfl) ?_
  refine lv_iconst (v := 3) hx hb dX5_digest_15 (by decide) ?_
  refine lv_icmp_ge (tgt := 193) hx hb dX5_digest_16 (by decide) (fun c_16 => ?_) (fun c_16 => ?_)
  · skip
    have c_16 : 3 ≤ i := (nI_leI (a := 3) (b := i) (by omega) (by omega)).mp c_16
    obtain rfl : i = 3 := by omega
    have G : gW D (wM am cy 0 (cS mf mb mv) sv X ln ap le fc f1 f2 (biF ((dgT mf mb (kn, on) 3).1) ((dgT mf mb (kn, on) 3).2)) (dgH mf mb mv 3) R) (va_A (wM am cy th (cS mf mb mv) sv X ln ap le fc f1 f2 (biF kn on) ha R) s.heap.size) s _ _ := G
    have hl : lv_has ls 3 [(0, .ref (am 0)), (1, .int (nI 3))] := hl
    refine lv_aload_n hx hb dX5_digest_193 rfl (lv_at hl 0 rfl) ?_
    refine g_get (q0 := 0) (v := .long (dgH mf mb mv 3)) C0 G in_X5 rfl rfl 11 (by decide) fl_X5_183 (fun _ h => h) rfl dX5_digest_194 ?_
    exact g_lret C0 G ⟨by first | rfl | (exfalso; omega) | (simp only [c_16, Bool.false_eq_true, ↓reduceIte, eq_self, decide_true, decide_false, not_true_eq_false, not_false_eq_true, Bool.true_and, Bool.false_and, Bool.and_true, Bool.and_false]; done) | (simp [c_16]; done) | (simp [c_16]; rfl) | (simp [c_16]; omega), by first | rfl | (exfalso; omega) | (simp only [c_16, Bool.false_eq_true, ↓reduceIte, eq_self, decide_true, decide_false, not_true_eq_false, not_false_eq_true, Bool.true_and, Bool.false_and, Bool.and_true, Bool.and_false]; done) | (simp [c_16]; done) | (simp [c_16]; rfl) | (simp [c_16]; omega)⟩ dX5_digest_197
  · skip
    have c_16 : ¬ (3 ≤ i) := fun h => c_16 ((nI_leI (a := 3) (b := i) (by omega) (by omega)).mpr h)
    have hvi : mv i < 4 := hvw i (by omega)
    refine lv_aload_n hx hb dX5_digest_19 rfl (lv_at hl 0 rfl) ?_
    refine lv_aload_n hx hb dX5_digest_20 rfl (lv_at hl 0 rfl) ?_
    refine lv_iload_n hx hb dX5_digest_21 rfl (lv_at hl 1 rfl) ?_
    refine g_callV (As := [.int (nI i)]) (rest := [.ref (am 0)]) (q0 := 0) C0 G (c_X5_viewOf l D cy (am := am) (mf := mf) (mb := mb) (mv := mv) (th := 0) (sv := sv) (X := X) (ln := ln) (ap := ap) (le := le) (fc := fc) (f1 := f1) (f2 := f2) (ha := (dgH mf mb mv i)) (R := R) (B := biF ((dgT mf mb (kn, on) i).1) ((dgT mf mb (kn, on) i).2)) (z := i) (by omega)) k_X5_viewOf ml_X5_39 rfl rfl dX5_digest_22 rfl rfl hl.1 (Nat.le_of_ble_eq_true rfl) ⟨Nat.le_of_ble_eq_true rfl, Nat.le_of_ble_eq_true rfl⟩ ⟨Nat.le_of_ble_eq_true rfl, Nat.le_of_ble_eq_true rfl⟩ (fun r W2 H locs hp G => ?_)
    obtain ⟨rfl, hw⟩ := hp
    have G := g_wc hw G
    refine W.eq (g2 := F0 m 25 ls [.int (nI (mv i)), .ref (am 0)]) rfl ?_
    refine lv_i2l hx hb dX5_digest_25 rfl ?_
    refine g_callV (As := [.long ((nI (mv i)).toInt64)]) (rest := []) (q0 := 0) C0 G (c_X5_mix l D cy (am := am) (mf := mf) (mb := mb) (mv := mv) (kn := (dgT mf mb (kn, on) i).1) (on := (dgT mf mb (kn, on) i).2) (th := 0) (sv := sv) (X := X) (ln := ln) (ap := ap) (le := le) (fc := fc) (f1 := f1) (f2 := f2) (ha := (dgH mf mb mv i)) (R := R) (v := (nI (mv i)).toInt64) ) k_X5_mix ml_X5_189 rfl rfl dX5_digest_26 rfl rfl hl.1 (Nat.le_of_ble_eq_true rfl) ⟨Nat.le_of_ble_eq_true rfl, Nat.le_of_ble_eq_true rfl⟩ ⟨Nat.le_of_ble_eq_true rfl, Nat.le_of_ble_eq_true rfl⟩ (fun r W2 H locs hp G => ?_)
    obtain ⟨rfl, hw⟩ := hp
    have G := g_wc hw G
    refine W.eq (g2 := F0 m 29 ls []) rfl ?_
    refine lv_iconst (v := 0) hx hb dX5_digest_29 (by decide) ?_
    refine lv_istore_n (lv' := [(2, .int 0), (0, .ref (am 0)), (1, .int (nI i))]) hx hb dX5_digest_30 rfl hl (by decide) rfl (fun ls hl => ?_)
    have hl := lv_sub hl (l' := [(0, .ref (am 0)), (1, .int (nI i)), (2, .int 0)]) [1, 2, 0] rfl
    refine g_loop (σ := Nat) (fun q => 4 - q) (fun q => wM am cy 0 (cS mf mb mv) sv X ln ap le fc f1 f2 (biF ((dgT mf mb (kn, on) i).1) ((dgT mf mb (kn, on) i).2)) (mcL (mf i) (mb i) (mxL (dgH mf mb mv i) (nI (mv i))) q) R) (fun q => [(0, .ref (am 0)), (1, .int (nI i)), (2, .int (nI q))]) (fun q => q ≤ 4) ?_ 0 (by show _ ≤ _; omega) G hl
    intro q hi_31 ih_31 H locs ls G hl
    have G : gW D (wM am cy 0 (cS mf mb mv) sv X ln ap le fc f1 f2 (biF ((dgT mf mb (kn, on) i).1) ((dgT mf mb (kn, on) i).2)) (mcL (mf i) (mb i) (mxL (dgH mf mb mv i) (nI (mv i))) q) R) (va_A (wM am cy th (cS mf mb mv) sv X ln ap le fc f1 f2 (biF kn on) ha R) s.heap.size) s H locs := G
    have hl : lv_has ls 3 [(0, .ref (am 0)), (1, .int (nI i)), (2, .int (nI q))] := hl
    refine lv_iload_n hx hb dX5_digest_31 rfl (lv_at hl 2 rfl) ?_
    refine lv_iconst (v := 3) hx hb dX5_digest_32 (by decide) ?_
    refine lv_icmp_gt (tgt := 53) hx hb dX5_digest_33 (by decide) (fun c_33 => ?_) (fun c_33 => ?_)
    · skip
      have c_33 : 3 < q := (nI_ltI (a := 3) (b := q) (by omega) (by omega)).mp c_33
      obtain rfl : q = 4 := by omega
      have G : gW D (wM am cy 0 (cS mf mb mv) sv X ln ap le fc f1 f2 (biF ((dgT mf mb (kn, on) i).1) ((dgT mf mb (kn, on) i).2)) (mcL (mf i) (mb i) (mxL (dgH mf mb mv i) (nI (mv i))) 4) R) (va_A (wM am cy th (cS mf mb mv) sv X ln ap le fc f1 f2 (biF kn on) ha R) s.heap.size) s _ _ := G
      have hl : lv_has ls 3 [(0, .ref (am 0)), (1, .int (nI i)), (2, .int (nI 4))] := hl
      refine lv_aload_n hx hb dX5_digest_53 rfl (lv_at hl 0 rfl) ?_
      refine lv_aload_n hx hb dX5_digest_54 rfl (lv_at hl 0 rfl) ?_
      refine lv_iload_n hx hb dX5_digest_55 rfl (lv_at hl 1 rfl) ?_
      refine lv_iconst (v := (-1)) hx hb dX5_digest_56 (by decide) ?_
      refine g_callV (As := [.int (nI i), .int (-1)]) (rest := [.ref (am 0)]) (q0 := 0) C0 G (c_X5_tells l D cy (am := am) (mf := mf) (mb := mb) (mv := mv) (kn := (dgT mf mb (kn, on) i).1) (on := (dgT mf mb (kn, on) i).2) (th := 0) (sv := sv) (X := X) (ln := ln) (ap := ap) (le := le) (fc := fc) (f1 := f1) (f2 := f2) (ha := (mcL (mf i) (mb i) (mxL (dgH mf mb mv i) (nI (mv i))) 4)) (R := R) (z := i) (but := (-1 : Int32)) (sd := sdW (mf i) (mb i)) (so := onW (mf i) (mb i)) (by omega) ti_none (ok_sd _ _)) k_X5_tells ml_X5_73 rfl rfl dX5_digest_57 rfl rfl hl.1 (Nat.le_of_ble_eq_true rfl) ⟨Nat.le_of_ble_eq_true rfl, Nat.le_of_ble_eq_true rfl⟩ ⟨Nat.le_of_ble_eq_true rfl, Nat.le_of_ble_eq_true rfl⟩ (fun r W2 H locs hp G => ?_)
      obtain ⟨rfl, hw⟩ := hp
      have G := g_wc hw G
      refine W.eq (g2 := F0 m 60 ls [.int (nI (pc ((fa (sdW (mf i) (mb i)) (onW (mf i) (mb i))).1 ^^^ (-1)))), .ref (am 0)]) rfl ?_
      refine lv_i2l hx hb dX5_digest_60 rfl ?_
      refine g_callV (As := [.long ((nI (pc ((fa (sdW (mf i) (mb i)) (onW (mf i) (mb i))).1 ^^^ (-1)))).toInt64)]) (rest := []) (q0 := 0) C0 G (c_X5_mix l D cy (am := am) (mf := mf) (mb := mb) (mv := mv) (kn := (fa (sdW (mf i) (mb i)) (onW (mf i) (mb i))).1) (on := (fa (sdW (mf i) (mb i)) (onW (mf i) (mb i))).2) (th := 0) (sv := sv) (X := X) (ln := ln) (ap := ap) (le := le) (fc := fc) (f1 := f1) (f2 := f2) (ha := (mcL (mf i) (mb i) (mxL (dgH mf mb mv i) (nI (mv i))) 4)) (R := R) (v := (nI (pc ((fa (sdW (mf i) (mb i)) (onW (mf i) (mb i))).1 ^^^ (-1)))).toInt64) ) k_X5_mix ml_X5_189 rfl rfl dX5_digest_61 rfl rfl hl.1 (Nat.le_of_ble_eq_true rfl) ⟨Nat.le_of_ble_eq_true rfl, Nat.le_of_ble_eq_true rfl⟩ ⟨Nat.le_of_ble_eq_true rfl, Nat.le_of_ble_eq_true rfl⟩ (fun r W2 H locs hp G => ?_)
      obtain ⟨rfl, hw⟩ := hp
      have G := g_wc hw G
      refine W.eq (g2 := F0 m 64 ls []) rfl ?_
      refine lv_aload_n hx hb dX5_digest_64 rfl (lv_at hl 0 rfl) ?_
      refine lv_aload_n hx hb dX5_digest_65 rfl (lv_at hl 0 rfl) ?_
      refine lv_iload_n hx hb dX5_digest_66 rfl (lv_at hl 1 rfl) ?_
      refine g_callV (As := [.int (nI i)]) (rest := [.ref (am 0)]) (q0 := 0) C0 G (c_X5_disagreeingAll l D cy (am := am) (mf := mf) (mb := mb) (mv := mv) (kn := (fa (sdW (mf i) (mb i)) (onW (mf i) (mb i))).1) (on := (fa (sdW (mf i) (mb i)) (onW (mf i) (mb i))).2) (th := 0) (sv := sv) (X := X) (ln := ln) (ap := ap) (le := le) (fc := fc) (f1 := f1) (f2 := f2) (ha := 31 * (mcL (mf i) (mb i) (mxL (dgH mf mb mv i) (nI (mv i))) 4) + ((nI (pc ((fa (sdW (mf i) (mb i)) (onW (mf i) (mb i))).1 ^^^ (-1)))).toInt64)) (R := R) (z := i) (by omega)) k_X5_disagreeingAll ml_X5_129 rfl rfl dX5_digest_67 rfl rfl hl.1 (Nat.le_of_ble_eq_true rfl) ⟨Nat.le_of_ble_eq_true rfl, Nat.le_of_ble_eq_true rfl⟩ ⟨Nat.le_of_ble_eq_true rfl, Nat.le_of_ble_eq_true rfl⟩ (fun r W2 H locs hp G => ?_)
      obtain ⟨rfl, hw⟩ := hp
      have G := g_wc hw G
      refine W.eq (g2 := F0 m 70 ls [.int (nI (cnt (dgB (fa (sdW (mf i) (mb i)) (onW (mf i) (mb i))).1 (fa (sdW (mf i) (mb i)) (onW (mf i) (mb i))).2) 16)), .ref (am 0)]) rfl ?_
      refine lv_i2l hx hb dX5_digest_70 rfl ?_
      refine g_callV (As := [.long ((nI (cnt (dgB (fa (sdW (mf i) (mb i)) (onW (mf i) (mb i))).1 (fa (sdW (mf i) (mb i)) (onW (mf i) (mb i))).2) 16)).toInt64)]) (rest := []) (q0 := 0) C0 G (c_X5_mix l D cy (am := am) (mf := mf) (mb := mb) (mv := mv) (kn := (fa (sdW (mf i) (mb i)) (onW (mf i) (mb i))).1) (on := (fa (sdW (mf i) (mb i)) (onW (mf i) (mb i))).2) (th := 0) (sv := sv) (X := X) (ln := ln) (ap := ap) (le := le) (fc := fc) (f1 := f1) (f2 := f2) (ha := 31 * (mcL (mf i) (mb i) (mxL (dgH mf mb mv i) (nI (mv i))) 4) + ((nI (pc ((fa (sdW (mf i) (mb i)) (onW (mf i) (mb i))).1 ^^^ (-1)))).toInt64)) (R := R) (v := (nI (cnt (dgB (fa (sdW (mf i) (mb i)) (onW (mf i) (mb i))).1 (fa (sdW (mf i) (mb i)) (onW (mf i) (mb i))).2) 16)).toInt64) ) k_X5_mix ml_X5_189 rfl rfl dX5_digest_71 rfl rfl hl.1 (Nat.le_of_ble_eq_true rfl) ⟨Nat.le_of_ble_eq_true rfl, Nat.le_of_ble_eq_true rfl⟩ ⟨Nat.le_of_ble_eq_true rfl, Nat.le_of_ble_eq_true rfl⟩ (fun r W2 H locs hp G => ?_)
      obtain ⟨rfl, hw⟩ := hp
      have G := g_wc hw G
      refine W.eq (g2 := F0 m 74 ls []) rfl ?_
      refine lv_aload_n hx hb dX5_digest_74 rfl (lv_at hl 0 rfl) ?_
      refine lv_aload_n hx hb dX5_digest_75 rfl (lv_at hl 0 rfl) ?_
      refine lv_iload_n hx hb dX5_digest_76 rfl (lv_at hl 1 rfl) ?_
      refine g_callV (As := [.int (nI i)]) (rest := [.ref (am 0)]) (q0 := 0) C0 G (c_X5_worstOf l D cy (am := am) (mf := mf) (mb := mb) (mv := mv) (kn := (fa (sdW (mf i) (mb i)) (onW (mf i) (mb i))).1) (on := (fa (sdW (mf i) (mb i)) (onW (mf i) (mb i))).2) (th := 0) (sv := sv) (X := X) (ln := ln) (ap := ap) (le := le) (fc := fc) (f1 := f1) (f2 := f2) (ha := 31 * (31 * (mcL (mf i) (mb i) (mxL (dgH mf mb mv i) (nI (mv i))) 4) + ((nI (pc ((fa (sdW (mf i) (mb i)) (onW (mf i) (mb i))).1 ^^^ (-1)))).toInt64)) + ((nI (cnt (dgB (fa (sdW (mf i) (mb i)) (onW (mf i) (mb i))).1 (fa (sdW (mf i) (mb i)) (onW (mf i) (mb i))).2) 16)).toInt64)) (R := R) (z := i) (by omega)) k_X5_worstOf ml_X5_137 rfl rfl dX5_digest_77 rfl rfl hl.1 (Nat.le_of_ble_eq_true rfl) ⟨Nat.le_of_ble_eq_true rfl, Nat.le_of_ble_eq_true rfl⟩ ⟨Nat.le_of_ble_eq_true rfl, Nat.le_of_ble_eq_true rfl⟩ (fun r W2 H locs hp G => ?_)
      obtain ⟨rfl, hw⟩ := hp
      have G := g_wc hw G
      refine W.eq (g2 := F0 m 80 ls [.int ((wcS (mf i) (mb i) 64).1), .ref (am 0)]) rfl ?_
      refine lv_i2l hx hb dX5_digest_80 rfl ?_
      refine g_callV (As := [.long (((wcS (mf i) (mb i) 64).1).toInt64)]) (rest := []) (q0 := 0) C0 G (c_X5_mix l D cy (am := am) (mf := mf) (mb := mb) (mv := mv) (kn := (wcF (mf i) (mb i) (((fa (sdW (mf i) (mb i)) (onW (mf i) (mb i))).1), ((fa (sdW (mf i) (mb i)) (onW (mf i) (mb i))).2)) 64).1) (on := (wcF (mf i) (mb i) (((fa (sdW (mf i) (mb i)) (onW (mf i) (mb i))).1), ((fa (sdW (mf i) (mb i)) (onW (mf i) (mb i))).2)) 64).2) (th := 0) (sv := sv) (X := X) (ln := ln) (ap := ap) (le := le) (fc := fc) (f1 := f1) (f2 := f2) (ha := 31 * (31 * (mcL (mf i) (mb i) (mxL (dgH mf mb mv i) (nI (mv i))) 4) + ((nI (pc ((fa (sdW (mf i) (mb i)) (onW (mf i) (mb i))).1 ^^^ (-1)))).toInt64)) + ((nI (cnt (dgB (fa (sdW (mf i) (mb i)) (onW (mf i) (mb i))).1 (fa (sdW (mf i) (mb i)) (onW (mf i) (mb i))).2) 16)).toInt64)) (R := R) (v := ((wcS (mf i) (mb i) 64).1).toInt64) ) k_X5_mix ml_X5_189 rfl rfl dX5_digest_81 rfl rfl hl.1 (Nat.le_of_ble_eq_true rfl) ⟨Nat.le_of_ble_eq_true rfl, Nat.le_of_ble_eq_true rfl⟩ ⟨Nat.le_of_ble_eq_true rfl, Nat.le_of_ble_eq_true rfl⟩ (fun r W2 H locs hp G => ?_)
      obtain ⟨rfl, hw⟩ := hp
      have G := g_wc hw G
      refine W.eq (g2 := F0 m 84 ls []) rfl ?_
      refine lv_iconst (v := 0) hx hb dX5_digest_84 (by decide) ?_
      refine lv_istore_n (lv' := [(2, .int 0), (0, .ref (am 0)), (1, .int (nI i))]) hx hb dX5_digest_85 rfl hl (by decide) rfl (fun ls hl => ?_)
      have hl := lv_sub hl (l' := [(0, .ref (am 0)), (1, .int (nI i)), (2, .int 0)]) [1, 2, 0] rfl
      refine g_loop (σ := Nat) (fun r => 8 - r) (fun r => wM am cy 0 (cS mf mb mv) sv X ln ap le fc f1 f2 (biF ((wcF (mf i) (mb i) (((fa (sdW (mf i) (mb i)) (onW (mf i) (mb i))).1), ((fa (sdW (mf i) (mb i)) (onW (mf i) (mb i))).2)) 64).1) ((wcF (mf i) (mb i) (((fa (sdW (mf i) (mb i)) (onW (mf i) (mb i))).1), ((fa (sdW (mf i) (mb i)) (onW (mf i) (mb i))).2)) 64).2)) (mrA (mf i) (mb i) (mv i) (mxL (mxL (mxL (mcL (mf i) (mb i) (mxL (dgH mf mb mv i) (nI (mv i))) 4) (nI (pc ((fa (sdW (mf i) (mb i)) (onW (mf i) (mb i))).1 ^^^ (-1))))) (nI (cnt (dgB (fa (sdW (mf i) (mb i)) (onW (mf i) (mb i))).1 (fa (sdW (mf i) (mb i)) (onW (mf i) (mb i))).2) 16))) (wcS (mf i) (mb i) 64).1) r) R) (fun r => [(0, .ref (am 0)), (1, .int (nI i)), (2, .int (nI r))]) (fun r => r ≤ 8) ?_ 0 (by show _ ≤ _; omega) G hl
      intro r hi_86 ih_86 H locs ls G hl
      have G : gW D (wM am cy 0 (cS mf mb mv) sv X ln ap le fc f1 f2 (biF ((wcF (mf i) (mb i) (((fa (sdW (mf i) (mb i)) (onW (mf i) (mb i))).1), ((fa (sdW (mf i) (mb i)) (onW (mf i) (mb i))).2)) 64).1) ((wcF (mf i) (mb i) (((fa (sdW (mf i) (mb i)) (onW (mf i) (mb i))).1), ((fa (sdW (mf i) (mb i)) (onW (mf i) (mb i))).2)) 64).2)) (mrA (mf i) (mb i) (mv i) (mxL (mxL (mxL (mcL (mf i) (mb i) (mxL (dgH mf mb mv i) (nI (mv i))) 4) (nI (pc ((fa (sdW (mf i) (mb i)) (onW (mf i) (mb i))).1 ^^^ (-1))))) (nI (cnt (dgB (fa (sdW (mf i) (mb i)) (onW (mf i) (mb i))).1 (fa (sdW (mf i) (mb i)) (onW (mf i) (mb i))).2) 16))) (wcS (mf i) (mb i) 64).1) r) R) (va_A (wM am cy th (cS mf mb mv) sv X ln ap le fc f1 f2 (biF kn on) ha R) s.heap.size) s H locs := G
      have hl : lv_has ls 3 [(0, .ref (am 0)), (1, .int (nI i)), (2, .int (nI r))] := hl
      refine lv_iload_n hx hb dX5_digest_86 rfl (lv_at hl 2 rfl) ?_
      refine lv_bipush (v := 8) hx hb dX5_digest_87 (by decide) ?_
      refine lv_icmp_ge (tgt := 109) hx hb dX5_digest_89 (by decide) (fun c_89 => ?_) (fun c_89 => ?_)
      · skip
        have c_89 : 8 ≤ r := (nI_leI (a := 8) (b := r) (by omega) (by omega)).mp c_89
        obtain rfl : r = 8 := by omega
        have G : gW D (wM am cy 0 (cS mf mb mv) sv X ln ap le fc f1 f2 (biF ((wcF (mf i) (mb i) (((fa (sdW (mf i) (mb i)) (onW (mf i) (mb i))).1), ((fa (sdW (mf i) (mb i)) (onW (mf i) (mb i))).2)) 64).1) ((wcF (mf i) (mb i) (((fa (sdW (mf i) (mb i)) (onW (mf i) (mb i))).1), ((fa (sdW (mf i) (mb i)) (onW (mf i) (mb i))).2)) 64).2)) (mrA (mf i) (mb i) (mv i) (mxL (mxL (mxL (mcL (mf i) (mb i) (mxL (dgH mf mb mv i) (nI (mv i))) 4) (nI (pc ((fa (sdW (mf i) (mb i)) (onW (mf i) (mb i))).1 ^^^ (-1))))) (nI (cnt (dgB (fa (sdW (mf i) (mb i)) (onW (mf i) (mb i))).1 (fa (sdW (mf i) (mb i)) (onW (mf i) (mb i))).2) 16))) (wcS (mf i) (mb i) 64).1) 8) R) (va_A (wM am cy th (cS mf mb mv) sv X ln ap le fc f1 f2 (biF kn on) ha R) s.heap.size) s _ _ := G
        have hl : lv_has ls 3 [(0, .ref (am 0)), (1, .int (nI i)), (2, .int (nI 8))] := hl
        refine lv_aload_n hx hb dX5_digest_109 rfl (lv_at hl 0 rfl) ?_
        refine lv_iload_n hx hb dX5_digest_110 rfl (lv_at hl 1 rfl) ?_
        refine lv_iconst (v := (-1)) hx hb dX5_digest_111 (by decide) ?_
        refine g_callV (As := [.int (nI i), .int (-1)]) (rest := []) (q0 := 0) C0 G (c_X5_tells l D cy (am := am) (mf := mf) (mb := mb) (mv := mv) (kn := (wcF (mf i) (mb i) (((fa (sdW (mf i) (mb i)) (onW (mf i) (mb i))).1), ((fa (sdW (mf i) (mb i)) (onW (mf i) (mb i))).2)) 64).1) (on := (wcF (mf i) (mb i) (((fa (sdW (mf i) (mb i)) (onW (mf i) (mb i))).1), ((fa (sdW (mf i) (mb i)) (onW (mf i) (mb i))).2)) 64).2) (th := 0) (sv := sv) (X := X) (ln := ln) (ap := ap) (le := le) (fc := fc) (f1 := f1) (f2 := f2) (ha := (mrA (mf i) (mb i) (mv i) (mxL (mxL (mxL (mcL (mf i) (mb i) (mxL (dgH mf mb mv i) (nI (mv i))) 4) (nI (pc ((fa (sdW (mf i) (mb i)) (onW (mf i) (mb i))).1 ^^^ (-1))))) (nI (cnt (dgB (fa (sdW (mf i) (mb i)) (onW (mf i) (mb i))).1 (fa (sdW (mf i) (mb i)) (onW (mf i) (mb i))).2) 16))) (wcS (mf i) (mb i) 64).1) 8)) (R := R) (z := i) (but := (-1 : Int32)) (sd := sdW (mf i) (mb i)) (so := onW (mf i) (mb i)) (by omega) ti_none (ok_sd _ _)) k_X5_tells ml_X5_73 rfl rfl dX5_digest_112 rfl rfl hl.1 (Nat.le_of_ble_eq_true rfl) ⟨Nat.le_of_ble_eq_true rfl, Nat.le_of_ble_eq_true rfl⟩ ⟨Nat.le_of_ble_eq_true rfl, Nat.le_of_ble_eq_true rfl⟩ (fun r W2 H locs hp G => ?_)
        obtain ⟨rfl, hw⟩ := hp
        have G := g_wc hw G
        refine W.eq (g2 := F0 m 115 ls [.int (nI (pc ((fa (sdW (mf i) (mb i)) (onW (mf i) (mb i))).1 ^^^ (-1))))]) rfl ?_
        refine lv_pop hx hb dX5_digest_115 rfl ?_
        refine lv_iconst (v := 0) hx hb dX5_digest_116 (by decide) ?_
        refine lv_istore_n (lv' := [(2, .int 0), (0, .ref (am 0)), (1, .int (nI i))]) hx hb dX5_digest_117 rfl hl (by decide) rfl (fun ls hl => ?_)
        have hl := lv_sub hl (l' := [(0, .ref (am 0)), (1, .int (nI i)), (2, .int 0)]) [1, 2, 0] rfl
        refine g_loop (σ := Nat) (fun t => 7 - t) (fun t => wM am cy 0 (cS mf mb mv) sv X ln ap le fc f1 f2 (biF ((fa (sdW (mf i) (mb i)) (onW (mf i) (mb i))).1) ((fa (sdW (mf i) (mb i)) (onW (mf i) (mb i))).2)) (mrB (mf i) (mb i) (fa (sdW (mf i) (mb i)) (onW (mf i) (mb i))).1 (fa (sdW (mf i) (mb i)) (onW (mf i) (mb i))).2 (mrA (mf i) (mb i) (mv i) (mxL (mxL (mxL (mcL (mf i) (mb i) (mxL (dgH mf mb mv i) (nI (mv i))) 4) (nI (pc ((fa (sdW (mf i) (mb i)) (onW (mf i) (mb i))).1 ^^^ (-1))))) (nI (cnt (dgB (fa (sdW (mf i) (mb i)) (onW (mf i) (mb i))).1 (fa (sdW (mf i) (mb i)) (onW (mf i) (mb i))).2) 16))) (wcS (mf i) (mb i) 64).1) 8) t) R) (fun t => [(0, .ref (am 0)), (1, .int (nI i)), (2, .int (nI t))]) (fun t => t ≤ 7) ?_ 0 (by show _ ≤ _; omega) G hl
        intro t hi_118 ih_118 H locs ls G hl
        have G : gW D (wM am cy 0 (cS mf mb mv) sv X ln ap le fc f1 f2 (biF ((fa (sdW (mf i) (mb i)) (onW (mf i) (mb i))).1) ((fa (sdW (mf i) (mb i)) (onW (mf i) (mb i))).2)) (mrB (mf i) (mb i) (fa (sdW (mf i) (mb i)) (onW (mf i) (mb i))).1 (fa (sdW (mf i) (mb i)) (onW (mf i) (mb i))).2 (mrA (mf i) (mb i) (mv i) (mxL (mxL (mxL (mcL (mf i) (mb i) (mxL (dgH mf mb mv i) (nI (mv i))) 4) (nI (pc ((fa (sdW (mf i) (mb i)) (onW (mf i) (mb i))).1 ^^^ (-1))))) (nI (cnt (dgB (fa (sdW (mf i) (mb i)) (onW (mf i) (mb i))).1 (fa (sdW (mf i) (mb i)) (onW (mf i) (mb i))).2) 16))) (wcS (mf i) (mb i) 64).1) 8) t) R) (va_A (wM am cy th (cS mf mb mv) sv X ln ap le fc f1 f2 (biF kn on) ha R) s.heap.size) s H locs := G
        have hl : lv_has ls 3 [(0, .ref (am 0)), (1, .int (nI i)), (2, .int (nI t))] := hl
        refine lv_iload_n hx hb dX5_digest_118 rfl (lv_at hl 2 rfl) ?_
        refine lv_bipush (v := 7) hx hb dX5_digest_119 (by decide) ?_
        refine lv_icmp_ge (tgt := 151) hx hb dX5_digest_121 (by decide) (fun c_121 => ?_) (fun c_121 => ?_)
        · skip
          have c_121 : 7 ≤ t := (nI_leI (a := 7) (b := t) (by omega) (by omega)).mp c_121
          obtain rfl : t = 7 := by omega
          have G : gW D (wM am cy 0 (cS mf mb mv) sv X ln ap le fc f1 f2 (biF ((fa (sdW (mf i) (mb i)) (onW (mf i) (mb i))).1) ((fa (sdW (mf i) (mb i)) (onW (mf i) (mb i))).2)) (mrB (mf i) (mb i) (fa (sdW (mf i) (mb i)) (onW (mf i) (mb i))).1 (fa (sdW (mf i) (mb i)) (onW (mf i) (mb i))).2 (mrA (mf i) (mb i) (mv i) (mxL (mxL (mxL (mcL (mf i) (mb i) (mxL (dgH mf mb mv i) (nI (mv i))) 4) (nI (pc ((fa (sdW (mf i) (mb i)) (onW (mf i) (mb i))).1 ^^^ (-1))))) (nI (cnt (dgB (fa (sdW (mf i) (mb i)) (onW (mf i) (mb i))).1 (fa (sdW (mf i) (mb i)) (onW (mf i) (mb i))).2) 16))) (wcS (mf i) (mb i) 64).1) 8) 7) R) (va_A (wM am cy th (cS mf mb mv) sv X ln ap le fc f1 f2 (biF kn on) ha R) s.heap.size) s _ _ := G
          have hl : lv_has ls 3 [(0, .ref (am 0)), (1, .int (nI i)), (2, .int (nI 7))] := hl
          refine lv_iconst (v := 0) hx hb dX5_digest_151 (by decide) ?_
          refine lv_istore_n (lv' := [(2, .int 0), (0, .ref (am 0)), (1, .int (nI i))]) hx hb dX5_digest_152 rfl hl (by decide) rfl (fun ls hl => ?_)
          have hl := lv_sub hl (l' := [(0, .ref (am 0)), (1, .int (nI i)), (2, .int 0)]) [1, 2, 0] rfl
          refine g_loop (σ := Nat) (fun z => 64 - z) (fun z => wM am cy 0 (cS mf mb mv) sv X ln ap le fc f1 f2 (biF ((fa (sdW (mf i) (mb i)) (onW (mf i) (mb i))).1) ((fa (sdW (mf i) (mb i)) (onW (mf i) (mb i))).2)) (mlL (mf i) (mb i) (fa (sdW (mf i) (mb i)) (onW (mf i) (mb i))).1 (fa (sdW (mf i) (mb i)) (onW (mf i) (mb i))).2 (mrB (mf i) (mb i) (fa (sdW (mf i) (mb i)) (onW (mf i) (mb i))).1 (fa (sdW (mf i) (mb i)) (onW (mf i) (mb i))).2 (mrA (mf i) (mb i) (mv i) (mxL (mxL (mxL (mcL (mf i) (mb i) (mxL (dgH mf mb mv i) (nI (mv i))) 4) (nI (pc ((fa (sdW (mf i) (mb i)) (onW (mf i) (mb i))).1 ^^^ (-1))))) (nI (cnt (dgB (fa (sdW (mf i) (mb i)) (onW (mf i) (mb i))).1 (fa (sdW (mf i) (mb i)) (onW (mf i) (mb i))).2) 16))) (wcS (mf i) (mb i) 64).1) 8) 7) z) R) (fun z => [(0, .ref (am 0)), (1, .int (nI i)), (2, .int (nI z))]) (fun z => z ≤ 64) ?_ 0 (by show _ ≤ _; omega) G hl
          intro z hi_153 ih_153 H locs ls G hl
          have G : gW D (wM am cy 0 (cS mf mb mv) sv X ln ap le fc f1 f2 (biF ((fa (sdW (mf i) (mb i)) (onW (mf i) (mb i))).1) ((fa (sdW (mf i) (mb i)) (onW (mf i) (mb i))).2)) (mlL (mf i) (mb i) (fa (sdW (mf i) (mb i)) (onW (mf i) (mb i))).1 (fa (sdW (mf i) (mb i)) (onW (mf i) (mb i))).2 (mrB (mf i) (mb i) (fa (sdW (mf i) (mb i)) (onW (mf i) (mb i))).1 (fa (sdW (mf i) (mb i)) (onW (mf i) (mb i))).2 (mrA (mf i) (mb i) (mv i) (mxL (mxL (mxL (mcL (mf i) (mb i) (mxL (dgH mf mb mv i) (nI (mv i))) 4) (nI (pc ((fa (sdW (mf i) (mb i)) (onW (mf i) (mb i))).1 ^^^ (-1))))) (nI (cnt (dgB (fa (sdW (mf i) (mb i)) (onW (mf i) (mb i))).1 (fa (sdW (mf i) (mb i)) (onW (mf i) (mb i))).2) 16))) (wcS (mf i) (mb i) 64).1) 8) 7) z) R) (va_A (wM am cy th (cS mf mb mv) sv X ln ap le fc f1 f2 (biF kn on) ha R) s.heap.size) s H locs := G
          have hl : lv_has ls 3 [(0, .ref (am 0)), (1, .int (nI i)), (2, .int (nI z))] := hl
          refine lv_iload_n hx hb dX5_digest_153 rfl (lv_at hl 2 rfl) ?_
          refine lv_bipush (v := 64) hx hb dX5_digest_154 (by decide) ?_
          refine lv_icmp_ge (tgt := 187) hx hb dX5_digest_156 (by decide) (fun c_156 => ?_) (fun c_156 => ?_)
          · skip
            have c_156 : 64 ≤ z := (nI_leI (a := 64) (b := z) (by omega) (by omega)).mp c_156
            obtain rfl : z = 64 := by omega
            have G : gW D (wM am cy 0 (cS mf mb mv) sv X ln ap le fc f1 f2 (biF ((fa (sdW (mf i) (mb i)) (onW (mf i) (mb i))).1) ((fa (sdW (mf i) (mb i)) (onW (mf i) (mb i))).2)) (mlL (mf i) (mb i) (fa (sdW (mf i) (mb i)) (onW (mf i) (mb i))).1 (fa (sdW (mf i) (mb i)) (onW (mf i) (mb i))).2 (mrB (mf i) (mb i) (fa (sdW (mf i) (mb i)) (onW (mf i) (mb i))).1 (fa (sdW (mf i) (mb i)) (onW (mf i) (mb i))).2 (mrA (mf i) (mb i) (mv i) (mxL (mxL (mxL (mcL (mf i) (mb i) (mxL (dgH mf mb mv i) (nI (mv i))) 4) (nI (pc ((fa (sdW (mf i) (mb i)) (onW (mf i) (mb i))).1 ^^^ (-1))))) (nI (cnt (dgB (fa (sdW (mf i) (mb i)) (onW (mf i) (mb i))).1 (fa (sdW (mf i) (mb i)) (onW (mf i) (mb i))).2) 16))) (wcS (mf i) (mb i) 64).1) 8) 7) 64) R) (va_A (wM am cy th (cS mf mb mv) sv X ln ap le fc f1 f2 (biF kn on) ha R) s.heap.size) s _ _ := G
            have hl : lv_has ls 3 [(0, .ref (am 0)), (1, .int (nI i)), (2, .int (nI 64))] := hl
            refine lv_iinc (v := nI (i + 1)) (lv' := [(1, .int (nI (i + 1))), (0, .ref (am 0)), (2, .int (nI 64))]) hx hb dX5_digest_187 hl (k := 1) rfl (nI_add i 1) (by decide) rfl (fun ls hl => ?_)
            refine lv_goto (tgt := 14) hx hb dX5_digest_190 (by decide) ?_
            have hl := lv_sub hl (l' := _) [1, 0] rfl
            exact ih_14 (i + 1) (by show _ ≤ _; omega) (by show _ < _; omega) _ _ _ G hl
          · skip
            have c_156 : ¬ (64 ≤ z) := fun h => c_156 ((nI_leI (a := 64) (b := z) (by omega) (by omega)).mpr h)
            refine lv_aload_n hx hb dX5_digest_159 rfl (lv_at hl 0 rfl) ?_
            refine lv_aload_n hx hb dX5_digest_160 rfl (lv_at hl 0 rfl) ?_
            refine lv_iload_n hx hb dX5_digest_161 rfl (lv_at hl 1 rfl) ?_
            refine lv_iload_n hx hb dX5_digest_162 rfl (lv_at hl 2 rfl) ?_
            refine g_callV (As := [.int (nI i), .int (nI z)]) (rest := [.ref (am 0)]) (q0 := 0) C0 G (c_X5_of l D cy (am := am) (mf := mf) (mb := mb) (mv := mv) (th := 0) (sv := sv) (X := X) (ln := ln) (ap := ap) (le := le) (fc := fc) (f1 := f1) (f2 := f2) (ha := (mlL (mf i) (mb i) (fa (sdW (mf i) (mb i)) (onW (mf i) (mb i))).1 (fa (sdW (mf i) (mb i)) (onW (mf i) (mb i))).2 (mrB (mf i) (mb i) (fa (sdW (mf i) (mb i)) (onW (mf i) (mb i))).1 (fa (sdW (mf i) (mb i)) (onW (mf i) (mb i))).2 (mrA (mf i) (mb i) (mv i) (mxL (mxL (mxL (mcL (mf i) (mb i) (mxL (dgH mf mb mv i) (nI (mv i))) 4) (nI (pc ((fa (sdW (mf i) (mb i)) (onW (mf i) (mb i))).1 ^^^ (-1))))) (nI (cnt (dgB (fa (sdW (mf i) (mb i)) (onW (mf i) (mb i))).1 (fa (sdW (mf i) (mb i)) (onW (mf i) (mb i))).2) 16))) (wcS (mf i) (mb i) 64).1) 8) 7) z)) (R := R) (B := biF ((fa (sdW (mf i) (mb i)) (onW (mf i) (mb i))).1) ((fa (sdW (mf i) (mb i)) (onW (mf i) (mb i))).2)) (z := i) (k := z) (by omega) (by omega)) k_X5_of ml_X5_35 rfl rfl dX5_digest_163 rfl rfl hl.1 (Nat.le_of_ble_eq_true rfl) ⟨Nat.le_of_ble_eq_true rfl, Nat.le_of_ble_eq_true rfl⟩ ⟨Nat.le_of_ble_eq_true rfl, Nat.le_of_ble_eq_true rfl⟩ (fun r W2 H locs hp G => ?_)
            obtain ⟨rfl, hw⟩ := hp
            have G := g_wc hw G
            refine W.eq (g2 := F0 m 166 ls [.int (kdI (mf i) (mb i) z), .ref (am 0)]) rfl ?_
            refine lv_i2l hx hb dX5_digest_166 rfl ?_
            refine g_callV (As := [.long ((kdI (mf i) (mb i) z).toInt64)]) (rest := []) (q0 := 0) C0 G (c_X5_mix l D cy (am := am) (mf := mf) (mb := mb) (mv := mv) (kn := (fa (sdW (mf i) (mb i)) (onW (mf i) (mb i))).1) (on := (fa (sdW (mf i) (mb i)) (onW (mf i) (mb i))).2) (th := 0) (sv := sv) (X := X) (ln := ln) (ap := ap) (le := le) (fc := fc) (f1 := f1) (f2 := f2) (ha := (mlL (mf i) (mb i) (fa (sdW (mf i) (mb i)) (onW (mf i) (mb i))).1 (fa (sdW (mf i) (mb i)) (onW (mf i) (mb i))).2 (mrB (mf i) (mb i) (fa (sdW (mf i) (mb i)) (onW (mf i) (mb i))).1 (fa (sdW (mf i) (mb i)) (onW (mf i) (mb i))).2 (mrA (mf i) (mb i) (mv i) (mxL (mxL (mxL (mcL (mf i) (mb i) (mxL (dgH mf mb mv i) (nI (mv i))) 4) (nI (pc ((fa (sdW (mf i) (mb i)) (onW (mf i) (mb i))).1 ^^^ (-1))))) (nI (cnt (dgB (fa (sdW (mf i) (mb i)) (onW (mf i) (mb i))).1 (fa (sdW (mf i) (mb i)) (onW (mf i) (mb i))).2) 16))) (wcS (mf i) (mb i) 64).1) 8) 7) z)) (R := R) (v := (kdI (mf i) (mb i) z).toInt64) ) k_X5_mix ml_X5_189 rfl rfl dX5_digest_167 rfl rfl hl.1 (Nat.le_of_ble_eq_true rfl) ⟨Nat.le_of_ble_eq_true rfl, Nat.le_of_ble_eq_true rfl⟩ ⟨Nat.le_of_ble_eq_true rfl, Nat.le_of_ble_eq_true rfl⟩ (fun r W2 H locs hp G => ?_)
            obtain ⟨rfl, hw⟩ := hp
            have G := g_wc hw G
            refine W.eq (g2 := F0 m 170 ls []) rfl ?_
            refine lv_aload_n hx hb dX5_digest_170 rfl (lv_at hl 0 rfl) ?_
            refine lv_aload_n hx hb dX5_digest_171 rfl (lv_at hl 0 rfl) ?_
            refine g_get (q0 := 0) (v := .ref (am 3)) C0 G in_X5 rfl rfl 10 (by decide) fl_X5_16 (fun _ h => h) rfl dX5_digest_172 ?_
            refine lv_iload_n hx hb dX5_digest_175 rfl (lv_at hl 2 rfl) ?_
            refine g_iald (q0 := 3) (n := 64) C0 G rfl 1 rfl (vp_in_nI (n := z) (by omega) (by decide)) dX5_digest_176 ?_
            refine g_topi (x' := biF ((fa (sdW (mf i) (mb i)) (onW (mf i) (mb i))).1) ((fa (sdW (mf i) (mb i)) (onW (mf i) (mb i))).2) z) (congrArg (biF ((fa (sdW (mf i) (mb i)) (onW (mf i) (mb i))).1) ((fa (sdW (mf i) (mb i)) (onW (mf i) (mb i))).2)) (nI_clamp (n := z) (by omega))) ?_
            refine lv_i2l hx hb dX5_digest_177 rfl ?_
            refine g_callV (As := [.long ((biF ((fa (sdW (mf i) (mb i)) (onW (mf i) (mb i))).1) ((fa (sdW (mf i) (mb i)) (onW (mf i) (mb i))).2) z).toInt64)]) (rest := []) (q0 := 0) C0 G (c_X5_mix l D cy (am := am) (mf := mf) (mb := mb) (mv := mv) (kn := (fa (sdW (mf i) (mb i)) (onW (mf i) (mb i))).1) (on := (fa (sdW (mf i) (mb i)) (onW (mf i) (mb i))).2) (th := 0) (sv := sv) (X := X) (ln := ln) (ap := ap) (le := le) (fc := fc) (f1 := f1) (f2 := f2) (ha := 31 * (mlL (mf i) (mb i) (fa (sdW (mf i) (mb i)) (onW (mf i) (mb i))).1 (fa (sdW (mf i) (mb i)) (onW (mf i) (mb i))).2 (mrB (mf i) (mb i) (fa (sdW (mf i) (mb i)) (onW (mf i) (mb i))).1 (fa (sdW (mf i) (mb i)) (onW (mf i) (mb i))).2 (mrA (mf i) (mb i) (mv i) (mxL (mxL (mxL (mcL (mf i) (mb i) (mxL (dgH mf mb mv i) (nI (mv i))) 4) (nI (pc ((fa (sdW (mf i) (mb i)) (onW (mf i) (mb i))).1 ^^^ (-1))))) (nI (cnt (dgB (fa (sdW (mf i) (mb i)) (onW (mf i) (mb i))).1 (fa (sdW (mf i) (mb i)) (onW (mf i) (mb i))).2) 16))) (wcS (mf i) (mb i) 64).1) 8) 7) z) + ((kdI (mf i) (mb i) z).toInt64)) (R := R) (v := (biF ((fa (sdW (mf i) (mb i)) (onW (mf i) (mb i))).1) ((fa (sdW (mf i) (mb i)) (onW (mf i) (mb i))).2) z).toInt64) ) k_X5_mix ml_X5_189 rfl rfl dX5_digest_178 rfl rfl hl.1 (Nat.le_of_ble_eq_true rfl) ⟨Nat.le_of_ble_eq_true rfl, Nat.le_of_ble_eq_true rfl⟩ ⟨Nat.le_of_ble_eq_true rfl, Nat.le_of_ble_eq_true rfl⟩ (fun r W2 H locs hp G => ?_)
            obtain ⟨rfl, hw⟩ := hp
            have G := g_wc hw G
            refine W.eq (g2 := F0 m 181 ls []) rfl ?_
            refine lv_iinc (v := nI (z + 1)) (lv' := [(2, .int (nI (z + 1))), (0, .ref (am 0)), (1, .int (nI i))]) hx hb dX5_digest_181 hl (k := 2) rfl (nI_add z 1) (by decide) rfl (fun ls hl => ?_)
            refine lv_goto (tgt := 153) hx hb dX5_digest_184 (by decide) ?_
            have hl := lv_sub hl (l' := _) [1, 2, 0] rfl
            exact ih_153 (z + 1) (by show _ ≤ _; omega) (by show _ < _; omega) _ _ _ G hl
        · skip
          have c_121 : ¬ (7 ≤ t) := fun h => c_121 ((nI_leI (a := 7) (b := t) (by omega) (by omega)).mpr h)
          refine lv_aload_n hx hb dX5_digest_124 rfl (lv_at hl 0 rfl) ?_
          refine lv_aload_n hx hb dX5_digest_125 rfl (lv_at hl 0 rfl) ?_
          refine lv_iload_n hx hb dX5_digest_126 rfl (lv_at hl 1 rfl) ?_
          refine lv_iload_n hx hb dX5_digest_127 rfl (lv_at hl 2 rfl) ?_
          refine g_callV (As := [.int (nI i), .int (nI t)]) (rest := [.ref (am 0)]) (q0 := 0) C0 G (c_X5_readOf l D cy (am := am) (mf := mf) (mb := mb) (mv := mv) (th := 0) (sv := sv) (X := X) (ln := ln) (ap := ap) (le := le) (fc := fc) (f1 := f1) (f2 := f2) (ha := (mrB (mf i) (mb i) (fa (sdW (mf i) (mb i)) (onW (mf i) (mb i))).1 (fa (sdW (mf i) (mb i)) (onW (mf i) (mb i))).2 (mrA (mf i) (mb i) (mv i) (mxL (mxL (mxL (mcL (mf i) (mb i) (mxL (dgH mf mb mv i) (nI (mv i))) 4) (nI (pc ((fa (sdW (mf i) (mb i)) (onW (mf i) (mb i))).1 ^^^ (-1))))) (nI (cnt (dgB (fa (sdW (mf i) (mb i)) (onW (mf i) (mb i))).1 (fa (sdW (mf i) (mb i)) (onW (mf i) (mb i))).2) 16))) (wcS (mf i) (mb i) 64).1) 8) t)) (R := R) (B := biF ((fa (sdW (mf i) (mb i)) (onW (mf i) (mb i))).1) ((fa (sdW (mf i) (mb i)) (onW (mf i) (mb i))).2)) (z := i) (row := t) (by omega) (by omega)) k_X5_readOf ml_X5_123 rfl rfl dX5_digest_128 rfl rfl hl.1 (Nat.le_of_ble_eq_true rfl) ⟨Nat.le_of_ble_eq_true rfl, Nat.le_of_ble_eq_true rfl⟩ ⟨Nat.le_of_ble_eq_true rfl, Nat.le_of_ble_eq_true rfl⟩ (fun r W2 H locs hp G => ?_)
          obtain ⟨rfl, hw⟩ := hp
          have G := g_wc hw G
          refine W.eq (g2 := F0 m 131 ls [.int (rvI (sdW (mf i) (mb i)) (onW (mf i) (mb i)) t), .ref (am 0)]) rfl ?_
          refine lv_i2l hx hb dX5_digest_131 rfl ?_
          refine g_callV (As := [.long ((rvI (sdW (mf i) (mb i)) (onW (mf i) (mb i)) t).toInt64)]) (rest := []) (q0 := 0) C0 G (c_X5_mix l D cy (am := am) (mf := mf) (mb := mb) (mv := mv) (kn := (fa (sdW (mf i) (mb i)) (onW (mf i) (mb i))).1) (on := (fa (sdW (mf i) (mb i)) (onW (mf i) (mb i))).2) (th := 0) (sv := sv) (X := X) (ln := ln) (ap := ap) (le := le) (fc := fc) (f1 := f1) (f2 := f2) (ha := (mrB (mf i) (mb i) (fa (sdW (mf i) (mb i)) (onW (mf i) (mb i))).1 (fa (sdW (mf i) (mb i)) (onW (mf i) (mb i))).2 (mrA (mf i) (mb i) (mv i) (mxL (mxL (mxL (mcL (mf i) (mb i) (mxL (dgH mf mb mv i) (nI (mv i))) 4) (nI (pc ((fa (sdW (mf i) (mb i)) (onW (mf i) (mb i))).1 ^^^ (-1))))) (nI (cnt (dgB (fa (sdW (mf i) (mb i)) (onW (mf i) (mb i))).1 (fa (sdW (mf i) (mb i)) (onW (mf i) (mb i))).2) 16))) (wcS (mf i) (mb i) 64).1) 8) t)) (R := R) (v := (rvI (sdW (mf i) (mb i)) (onW (mf i) (mb i)) t).toInt64) ) k_X5_mix ml_X5_189 rfl rfl dX5_digest_132 rfl rfl hl.1 (Nat.le_of_ble_eq_true rfl) ⟨Nat.le_of_ble_eq_true rfl, Nat.le_of_ble_eq_true rfl⟩ ⟨Nat.le_of_ble_eq_true rfl, Nat.le_of_ble_eq_true rfl⟩ (fun r W2 H locs hp G => ?_)
          obtain ⟨rfl, hw⟩ := hp
          have G := g_wc hw G
          refine W.eq (g2 := F0 m 135 ls []) rfl ?_
          refine lv_aload_n hx hb dX5_digest_135 rfl (lv_at hl 0 rfl) ?_
          refine lv_aload_n hx hb dX5_digest_136 rfl (lv_at hl 0 rfl) ?_
          refine lv_iload_n hx hb dX5_digest_137 rfl (lv_at hl 2 rfl) ?_
          refine g_callV (As := [.int (nI t)]) (rest := [.ref (am 0)]) (q0 := 0) C0 G (c_X5_toldOf l D cy (am := am) (mf := mf) (mb := mb) (mv := mv) (kn := (fa (sdW (mf i) (mb i)) (onW (mf i) (mb i))).1) (on := (fa (sdW (mf i) (mb i)) (onW (mf i) (mb i))).2) (th := 0) (sv := sv) (X := X) (ln := ln) (ap := ap) (le := le) (fc := fc) (f1 := f1) (f2 := f2) (ha := 31 * (mrB (mf i) (mb i) (fa (sdW (mf i) (mb i)) (onW (mf i) (mb i))).1 (fa (sdW (mf i) (mb i)) (onW (mf i) (mb i))).2 (mrA (mf i) (mb i) (mv i) (mxL (mxL (mxL (mcL (mf i) (mb i) (mxL (dgH mf mb mv i) (nI (mv i))) 4) (nI (pc ((fa (sdW (mf i) (mb i)) (onW (mf i) (mb i))).1 ^^^ (-1))))) (nI (cnt (dgB (fa (sdW (mf i) (mb i)) (onW (mf i) (mb i))).1 (fa (sdW (mf i) (mb i)) (onW (mf i) (mb i))).2) 16))) (wcS (mf i) (mb i) 64).1) 8) t) + ((rvI (sdW (mf i) (mb i)) (onW (mf i) (mb i)) t).toInt64)) (R := R) (row := t) (by omega)) k_X5_toldOf ml_X5_126 rfl rfl dX5_digest_138 rfl rfl hl.1 (Nat.le_of_ble_eq_true rfl) ⟨Nat.le_of_ble_eq_true rfl, Nat.le_of_ble_eq_true rfl⟩ ⟨Nat.le_of_ble_eq_true rfl, Nat.le_of_ble_eq_true rfl⟩ (fun r W2 H locs hp G => ?_)
          obtain ⟨rfl, hw⟩ := hp
          have G := g_wc hw G
          refine W.eq (g2 := F0 m 141 ls [.int (rvI ((fa (sdW (mf i) (mb i)) (onW (mf i) (mb i))).1) ((fa (sdW (mf i) (mb i)) (onW (mf i) (mb i))).2) t), .ref (am 0)]) rfl ?_
          refine lv_i2l hx hb dX5_digest_141 rfl ?_
          refine g_callV (As := [.long ((rvI ((fa (sdW (mf i) (mb i)) (onW (mf i) (mb i))).1) ((fa (sdW (mf i) (mb i)) (onW (mf i) (mb i))).2) t).toInt64)]) (rest := []) (q0 := 0) C0 G (c_X5_mix l D cy (am := am) (mf := mf) (mb := mb) (mv := mv) (kn := (fa (sdW (mf i) (mb i)) (onW (mf i) (mb i))).1) (on := (fa (sdW (mf i) (mb i)) (onW (mf i) (mb i))).2) (th := 0) (sv := sv) (X := X) (ln := ln) (ap := ap) (le := le) (fc := fc) (f1 := f1) (f2 := f2) (ha := 31 * (mrB (mf i) (mb i) (fa (sdW (mf i) (mb i)) (onW (mf i) (mb i))).1 (fa (sdW (mf i) (mb i)) (onW (mf i) (mb i))).2 (mrA (mf i) (mb i) (mv i) (mxL (mxL (mxL (mcL (mf i) (mb i) (mxL (dgH mf mb mv i) (nI (mv i))) 4) (nI (pc ((fa (sdW (mf i) (mb i)) (onW (mf i) (mb i))).1 ^^^ (-1))))) (nI (cnt (dgB (fa (sdW (mf i) (mb i)) (onW (mf i) (mb i))).1 (fa (sdW (mf i) (mb i)) (onW (mf i) (mb i))).2) 16))) (wcS (mf i) (mb i) 64).1) 8) t) + ((rvI (sdW (mf i) (mb i)) (onW (mf i) (mb i)) t).toInt64)) (R := R) (v := (rvI ((fa (sdW (mf i) (mb i)) (onW (mf i) (mb i))).1) ((fa (sdW (mf i) (mb i)) (onW (mf i) (mb i))).2) t).toInt64) ) k_X5_mix ml_X5_189 rfl rfl dX5_digest_142 rfl rfl hl.1 (Nat.le_of_ble_eq_true rfl) ⟨Nat.le_of_ble_eq_true rfl, Nat.le_of_ble_eq_true rfl⟩ ⟨Nat.le_of_ble_eq_true rfl, Nat.le_of_ble_eq_true rfl⟩ (fun r W2 H locs hp G => ?_)
          obtain ⟨rfl, hw⟩ := hp
          have G := g_wc hw G
          refine W.eq (g2 := F0 m 145 ls []) rfl ?_
          refine lv_iinc (v := nI (t + 1)) (lv' := [(2, .int (nI (t + 1))), (0, .ref (am 0)), (1, .int (nI i))]) hx hb dX5_digest_145 hl (k := 2) rfl (nI_add t 1) (by decide) rfl (fun ls hl => ?_)
          refine lv_goto (tgt := 118) hx hb dX5_digest_148 (by decide) ?_
          have hl := lv_sub hl (l' := _) [1, 2, 0] rfl
          exact ih_118 (t + 1) (by show _ ≤ _; omega) (by show _ < _; omega) _ _ _ G hl
      · skip
        have c_89 : ¬ (8 ≤ r) := fun h => c_89 ((nI_leI (a := 8) (b := r) (by omega) (by omega)).mpr h)
        refine lv_aload_n hx hb dX5_digest_92 rfl (lv_at hl 0 rfl) ?_
        refine lv_aload_n hx hb dX5_digest_93 rfl (lv_at hl 0 rfl) ?_
        refine lv_iload_n hx hb dX5_digest_94 rfl (lv_at hl 1 rfl) ?_
        refine lv_iload_n hx hb dX5_digest_95 rfl (lv_at hl 2 rfl) ?_
        refine g_callV (As := [.int (nI i), .int (nI r)]) (rest := [.ref (am 0)]) (q0 := 0) C0 G (c_X5_rawOf l D cy (am := am) (mf := mf) (mb := mb) (mv := mv) (th := 0) (sv := sv) (X := X) (ln := ln) (ap := ap) (le := le) (fc := fc) (f1 := f1) (f2 := f2) (ha := (mrA (mf i) (mb i) (mv i) (mxL (mxL (mxL (mcL (mf i) (mb i) (mxL (dgH mf mb mv i) (nI (mv i))) 4) (nI (pc ((fa (sdW (mf i) (mb i)) (onW (mf i) (mb i))).1 ^^^ (-1))))) (nI (cnt (dgB (fa (sdW (mf i) (mb i)) (onW (mf i) (mb i))).1 (fa (sdW (mf i) (mb i)) (onW (mf i) (mb i))).2) 16))) (wcS (mf i) (mb i) 64).1) r)) (R := R) (B := biF ((wcF (mf i) (mb i) (((fa (sdW (mf i) (mb i)) (onW (mf i) (mb i))).1), ((fa (sdW (mf i) (mb i)) (onW (mf i) (mb i))).2)) 64).1) ((wcF (mf i) (mb i) (((fa (sdW (mf i) (mb i)) (onW (mf i) (mb i))).1), ((fa (sdW (mf i) (mb i)) (onW (mf i) (mb i))).2)) 64).2)) (z := i) (row := r) (by omega) (by omega) (by omega)) k_X5_rawOf ml_X5_120 rfl rfl dX5_digest_96 rfl rfl hl.1 (Nat.le_of_ble_eq_true rfl) ⟨Nat.le_of_ble_eq_true rfl, Nat.le_of_ble_eq_true rfl⟩ ⟨Nat.le_of_ble_eq_true rfl, Nat.le_of_ble_eq_true rfl⟩ (fun r W2 H locs hp G => ?_)
        obtain ⟨rfl, hw⟩ := hp
        have G := g_wc hw G
        refine W.eq (g2 := F0 m 99 ls [.int (nI (rwN (mf i) (mb i) (mv i) r 8)), .ref (am 0)]) rfl ?_
        refine lv_i2l hx hb dX5_digest_99 rfl ?_
        refine g_callV (As := [.long ((nI (rwN (mf i) (mb i) (mv i) r 8)).toInt64)]) (rest := []) (q0 := 0) C0 G (c_X5_mix l D cy (am := am) (mf := mf) (mb := mb) (mv := mv) (kn := (wcF (mf i) (mb i) (((fa (sdW (mf i) (mb i)) (onW (mf i) (mb i))).1), ((fa (sdW (mf i) (mb i)) (onW (mf i) (mb i))).2)) 64).1) (on := (wcF (mf i) (mb i) (((fa (sdW (mf i) (mb i)) (onW (mf i) (mb i))).1), ((fa (sdW (mf i) (mb i)) (onW (mf i) (mb i))).2)) 64).2) (th := 0) (sv := sv) (X := X) (ln := ln) (ap := ap) (le := le) (fc := fc) (f1 := f1) (f2 := f2) (ha := (mrA (mf i) (mb i) (mv i) (mxL (mxL (mxL (mcL (mf i) (mb i) (mxL (dgH mf mb mv i) (nI (mv i))) 4) (nI (pc ((fa (sdW (mf i) (mb i)) (onW (mf i) (mb i))).1 ^^^ (-1))))) (nI (cnt (dgB (fa (sdW (mf i) (mb i)) (onW (mf i) (mb i))).1 (fa (sdW (mf i) (mb i)) (onW (mf i) (mb i))).2) 16))) (wcS (mf i) (mb i) 64).1) r)) (R := R) (v := (nI (rwN (mf i) (mb i) (mv i) r 8)).toInt64) ) k_X5_mix ml_X5_189 rfl rfl dX5_digest_100 rfl rfl hl.1 (Nat.le_of_ble_eq_true rfl) ⟨Nat.le_of_ble_eq_true rfl, Nat.le_of_ble_eq_true rfl⟩ ⟨Nat.le_of_ble_eq_true rfl, Nat.le_of_ble_eq_true rfl⟩ (fun r W2 H locs hp G => ?_)
        obtain ⟨rfl, hw⟩ := hp
        have G := g_wc hw G
        refine W.eq (g2 := F0 m 103 ls []) rfl ?_
        refine lv_iinc (v := nI (r + 1)) (lv' := [(2, .int (nI (r + 1))), (0, .ref (am 0)), (1, .int (nI i))]) hx hb dX5_digest_103 hl (k := 2) rfl (nI_add r 1) (by decide) rfl (fun ls hl => ?_)
        refine lv_goto (tgt := 86) hx hb dX5_digest_106 (by decide) ?_
        have hl := lv_sub hl (l' := _) [1, 2, 0] rfl
        exact ih_86 (r + 1) (by show _ ≤ _; omega) (by show _ < _; omega) _ _ _ G hl
    · skip
      have c_33 : ¬ (3 < q) := fun h => c_33 ((nI_ltI (a := 3) (b := q) (by omega) (by omega)).mpr h)
      refine lv_aload_n hx hb dX5_digest_36 rfl (lv_at hl 0 rfl) ?_
      refine lv_aload_n hx hb dX5_digest_37 rfl (lv_at hl 0 rfl) ?_
      refine lv_iload_n hx hb dX5_digest_38 rfl (lv_at hl 1 rfl) ?_
      refine lv_iload_n hx hb dX5_digest_39 rfl (lv_at hl 2 rfl) ?_
      refine g_callV (As := [.int (nI i), .int (nI q)]) (rest := [.ref (am 0)]) (q0 := 0) C0 G (c_X5_counted l D cy (am := am) (mf := mf) (mb := mb) (mv := mv) (th := 0) (sv := sv) (X := X) (ln := ln) (ap := ap) (le := le) (fc := fc) (f1 := f1) (f2 := f2) (ha := (mcL (mf i) (mb i) (mxL (dgH mf mb mv i) (nI (mv i))) q)) (R := R) (B := biF ((dgT mf mb (kn, on) i).1) ((dgT mf mb (kn, on) i).2)) (z := i) (q := nI q) (by omega)) k_X5_counted ml_X5_107 rfl rfl dX5_digest_40 rfl rfl hl.1 (Nat.le_of_ble_eq_true rfl) ⟨Nat.le_of_ble_eq_true rfl, Nat.le_of_ble_eq_true rfl⟩ ⟨Nat.le_of_ble_eq_true rfl, Nat.le_of_ble_eq_true rfl⟩ (fun r W2 H locs hp G => ?_)
      obtain ⟨rfl, hw⟩ := hp
      have G := g_wc hw G
      refine W.eq (g2 := F0 m 43 ls [.int (nI (cuN (mf i) (mb i) (nI q))), .ref (am 0)]) rfl ?_
      refine g_topi (x' := nI (pc (kdW (mf i) (mb i) q))) (congrArg nI (cu_kd (by omega))) ?_
      refine lv_i2l hx hb dX5_digest_43 rfl ?_
      refine g_callV (As := [.long ((nI (pc (kdW (mf i) (mb i) q))).toInt64)]) (rest := []) (q0 := 0) C0 G (c_X5_mix l D cy (am := am) (mf := mf) (mb := mb) (mv := mv) (kn := (dgT mf mb (kn, on) i).1) (on := (dgT mf mb (kn, on) i).2) (th := 0) (sv := sv) (X := X) (ln := ln) (ap := ap) (le := le) (fc := fc) (f1 := f1) (f2 := f2) (ha := (mcL (mf i) (mb i) (mxL (dgH mf mb mv i) (nI (mv i))) q)) (R := R) (v := (nI (pc (kdW (mf i) (mb i) q))).toInt64) ) k_X5_mix ml_X5_189 rfl rfl dX5_digest_44 rfl rfl hl.1 (Nat.le_of_ble_eq_true rfl) ⟨Nat.le_of_ble_eq_true rfl, Nat.le_of_ble_eq_true rfl⟩ ⟨Nat.le_of_ble_eq_true rfl, Nat.le_of_ble_eq_true rfl⟩ (fun r W2 H locs hp G => ?_)
      obtain ⟨rfl, hw⟩ := hp
      have G := g_wc hw G
      refine W.eq (g2 := F0 m 47 ls []) rfl ?_
      refine lv_iinc (v := nI (q + 1)) (lv' := [(2, .int (nI (q + 1))), (0, .ref (am 0)), (1, .int (nI i))]) hx hb dX5_digest_47 hl (k := 2) rfl (nI_add q 1) (by decide) rfl (fun ls hl => ?_)
      refine lv_goto (tgt := 31) hx hb dX5_digest_50 (by decide) ?_
      have hl := lv_sub hl (l' := _) [1, 2, 0] rfl
      exact ih_31 (q + 1) (by show _ ≤ _; omega) (by show _ < _; omega) _ _ _ G hl

set_option maxHeartbeats 4000000 in
set_option maxRecDepth 100000 in
theorem c_X4_tryHole (l : Launch) (D : va_G) (cy : Nat → ClassId) (ad : Nat → Nat) (fr : Nat → Int64) (bk : Nat → Int64) (vw : Nat → Nat) (tk : Int64) (to : Int64) (fk : Int64) (fo : Int64) (kp : Nat) (sp : Nat) (lt : Nat) (ib : Bool) (rw : Nat) (cl : Nat) (nu : Nat) (tv : Nat) (tm : Nat) (ta : Nat → Int32) (ml : Int32) (tn : Nat) (R : va_W) (k : Nat) (ho : Bool) (h1 : k < 21) (h2 : 8 * rw + cl < 64) : GE l D (gts cy) yX4_tryHole cX4_tryHole 4 (some .boolean) 2 0 0 [.ref (ad 0), .ref (ad (10 + k)), .int (bI ho)] (wC ad cy fr bk vw tk to fk fo kp sp lt ib rw cl nu tv tm ta ml tn R) (gF (some (.int (bI (!decide (hoB (fr k) (bk k) ib (8 * rw + cl) = ho))))) (wC ad cy (va_up fr k (thF (fr k) (bk k) ib (8 * rw + cl) ho)) (va_up bk k (thB (fr k) (bk k) ib (8 * rw + cl) ho)) vw tk to fk fo kp sp lt ib rw cl nu tv tm ta ml tn R)) := by
  refine g_intro (by decide +kernel) (lv := [(0, .ref (ad 0)), (1, .ref (ad (10 + k))), (2, .int (bI ho))]) rfl (Nat.le_of_ble_eq_true rfl) ?_
  intro p e s m below meth c C0 G ls hl
  have hx := C0.1
  have hb := C0.2.1
  have hown := C0.2.2.2.2.2.1
  have hts := C0.2.2.2.2.2.2.1
  refine lv_aload_n hx hb dX4_tryHole_0 rfl (lv_at hl 0 rfl) ?_
  refine g_get (q0 := 0) (v := .ref (ad 6)) C0 G in_X4 rfl rfl 4 (by decide) fl_X4_36 (fun _ h => h) rfl dX4_tryHole_1 ?_
  refine g_getN (q0 := 6) (v := .int (nI rw)) C0 G in_X2 rfl rfl 3 (by decide) nf_X4_300 (fun _ h => h) rfl dX4_tryHole_4 ?_
  refine lv_aload_n hx hb dX4_tryHole_7 rfl (lv_at hl 0 rfl) ?_
  refine g_get (q0 := 0) (v := .ref (ad 6)) C0 G in_X4 rfl rfl 4 (by decide) fl_X4_36 (fun _ h => h) rfl dX4_tryHole_8 ?_
  refine g_getN (q0 := 6) (v := .int (nI cl)) C0 G in_X2 rfl rfl 4 (by decide) nf_X4_317 (fun _ h => h) rfl dX4_tryHole_11 ?_
  refine g_callS (As := [.int (nI rw), .int (nI cl)]) (rest := []) C0 G (c_X4_cellNumber l D cy (W1 := wC ad cy fr bk vw tk to fk fo kp sp lt ib rw cl nu tv tm ta ml tn R) (row := rw) (col := cl) ) k_X4_cellNumber ml_X4_165 dX4_tryHole_14 rfl rfl hl.1 (Nat.le_of_ble_eq_true rfl) ⟨Nat.le_of_ble_eq_true rfl, Nat.le_of_ble_eq_true rfl⟩ ⟨Nat.le_of_ble_eq_true rfl, Nat.le_of_ble_eq_true rfl⟩ (fun r W2 H locs hp G => ?_)
  obtain ⟨rfl, hw⟩ := hp
  have G := g_wc hw G
  refine W.eq (g2 := F0 m 17 ls [.int (nI (8 * rw + cl))]) rfl ?_
  refine lv_istore_n (lv' := [(3, .int (nI (8 * rw + cl))), (0, .ref (ad 0)), (1, .ref (ad (10 + k))), (2, .int (bI ho))]) hx hb dX4_tryHole_17 rfl hl (by decide) rfl (fun ls hl => ?_)
  refine lv_aload_n hx hb dX4_tryHole_18 rfl (lv_at hl 2 rfl) ?_
  refine lv_aload_n hx hb dX4_tryHole_19 rfl (lv_at hl 1 rfl) ?_
  refine g_get (q0 := 0) (v := .ref (ad 6)) C0 G in_X4 rfl rfl 4 (by decide) fl_X4_36 (fun _ h => h) rfl dX4_tryHole_20 ?_
  refine g_getN (q0 := 6) (v := .int (bI ib)) C0 G in_X2 rfl rfl 2 (by decide) nf_X4_320 (fun _ h => h) rfl dX4_tryHole_23 ?_
  refine lv_iload_n hx hb dX4_tryHole_26 rfl (lv_at hl 0 rfl) ?_
  refine g_callVN (As := [.int (bI ib), .int (nI (8 * rw + cl))]) (rest := []) (q0 := k + 9) C0 G (GE.at (i := k + 9) (wC_at (k := k) (by omega)) (fun R => (c_X0_hasHole l D cy (R := R) (h := ad (10 + k)) (f := fr k) (b := bk k) (v := vw k) (ib := ib) (k := 8 * rw + cl) (by omega)))) k_X0_hasHole nm_X4_133 (wC_at (k := k) (by omega)) rfl dX4_tryHole_27 rfl rfl hl.1 (Nat.le_of_ble_eq_true rfl) ⟨Nat.le_of_ble_eq_true rfl, Nat.le_of_ble_eq_true rfl⟩ ⟨Nat.le_of_ble_eq_true rfl, Nat.le_of_ble_eq_true rfl⟩ (fun r W2 H locs hp G => ?_)
  obtain ⟨rfl, hw⟩ := hp
  have G : gW D (wC ad cy fr bk vw tk to fk fo kp sp lt ib rw cl nu tv tm ta ml tn R) (va_A (wC ad cy fr bk vw tk to fk fo kp sp lt ib rw cl nu tv tm ta ml tn R) s.heap.size) s H locs := g_wc (hw.trans (wC_set (k := k) (by omega) (va_up_s _ _) (va_up_s _ _) (va_up_s _ _))) G
  refine W.eq (g2 := F0 m 30 ls [.int (bI (hoB (fr k) (bk k) ib (8 * rw + cl)))]) rfl ?_
  refine lv_iload_n hx hb dX4_tryHole_30 rfl (lv_at hl 3 rfl) ?_
  refine lv_icmp_ne (tgt := 36) hx hb dX4_tryHole_31 (by decide) (fun c_31 => ?_) (fun c_31 => ?_)
  · skip
    have c_31 : ¬ (hoB (fr k) (bk k) ib (8 * rw + cl)) = ho := fun h => c_31 (congrArg bI h)
    refine lv_aload_n hx hb dX4_tryHole_36 rfl (lv_at hl 2 rfl) ?_
    refine lv_aload_n hx hb dX4_tryHole_37 rfl (lv_at hl 1 rfl) ?_
    refine g_get (q0 := 0) (v := .ref (ad 6)) C0 G in_X4 rfl rfl 4 (by decide) fl_X4_36 (fun _ h => h) rfl dX4_tryHole_38 ?_
    refine g_getN (q0 := 6) (v := .int (bI ib)) C0 G in_X2 rfl rfl 2 (by decide) nf_X4_320 (fun _ h => h) rfl dX4_tryHole_41 ?_
    refine lv_iload_n hx hb dX4_tryHole_44 rfl (lv_at hl 0 rfl) ?_
    refine lv_iload_n hx hb dX4_tryHole_45 rfl (lv_at hl 3 rfl) ?_
    refine g_callVN (As := [.int (bI ib), .int (nI (8 * rw + cl)), .int (bI ho)]) (rest := []) (q0 := k + 9) C0 G (GE.at (i := k + 9) (wC_at (k := k) (by omega)) (fun R => (c_X0_setHole l D cy (R := R) (h := ad (10 + k)) (f := fr k) (b := bk k) (v := vw k) (ib := ib) (k := 8 * rw + cl) (ho := ho) (by omega)))) k_X0_setHole nm_X4_139 (wC_at (k := k) (by omega)) rfl dX4_tryHole_46 rfl rfl hl.1 (Nat.le_of_ble_eq_true rfl) ⟨Nat.le_of_ble_eq_true rfl, Nat.le_of_ble_eq_true rfl⟩ ⟨Nat.le_of_ble_eq_true rfl, Nat.le_of_ble_eq_true rfl⟩ (fun r W2 H locs hp G => ?_)
    obtain ⟨rfl, hw⟩ := hp
    have G : gW D (wC ad cy (va_up fr k (shF (fr k) ib (8 * rw + cl) ho)) (va_up bk k (shB (bk k) ib (8 * rw + cl) ho)) vw tk to fk fo kp sp lt ib rw cl nu tv tm ta ml tn R) (va_A (wC ad cy fr bk vw tk to fk fo kp sp lt ib rw cl nu tv tm ta ml tn R) s.heap.size) s H locs := g_wc (hw.trans (wC_set (k := k) (by omega) rfl rfl (va_up_s _ _))) G
    refine W.eq (g2 := F0 m 49 ls []) rfl ?_
    refine lv_iconst (v := 1) hx hb dX4_tryHole_49 (by decide) ?_
    exact g_zret C0 G rfl ⟨by first | rfl | (exfalso; omega) | (simp only [thF, thB, va_up_s, bI, decide_true, decide_false, Bool.not_true, Bool.not_false, c_31, Bool.false_eq_true, ↓reduceIte, eq_self, decide_true, decide_false, not_true_eq_false, not_false_eq_true, Bool.true_and, Bool.false_and, Bool.and_true, Bool.and_false]; done) | (simp [thF, thB, va_up_s, bI, decide_true, decide_false, Bool.not_true, Bool.not_false, c_31]; done) | (simp [thF, thB, va_up_s, bI, decide_true, decide_false, Bool.not_true, Bool.not_false, c_31]; rfl) | (simp [thF, thB, va_up_s, bI, decide_true, decide_false, Bool.not_true, Bool.not_false, c_31]; omega), by first | rfl | (exfalso; omega) | (simp only [thF, thB, va_up_s, bI, decide_true, decide_false, Bool.not_true, Bool.not_false, c_31, Bool.false_eq_true, ↓reduceIte, eq_self, decide_true, decide_false, not_true_eq_false, not_false_eq_true, Bool.true_and, Bool.false_and, Bool.and_true, Bool.and_false]; done) | (simp [thF, thB, va_up_s, bI, decide_true, decide_false, Bool.not_true, Bool.not_false, c_31]; done) | (simp [thF, thB, va_up_s, bI, decide_true, decide_false, Bool.not_true, Bool.not_false, c_31]; rfl) | (simp [thF, thB, va_up_s, bI, decide_true, decide_false, Bool.not_true, Bool.not_false, c_31]; omega)⟩ dX4_tryHole_50
  · skip
    have c_31 : (hoB (fr k) (bk k) ib (8 * rw + cl)) = ho := bI_inj c_31
    refine lv_iconst (v := 0) hx hb dX4_tryHole_34 (by decide) ?_
    exact g_zret C0 G rfl ⟨by first | rfl | (exfalso; omega) | (simp only [thF, thB, va_up_s, bI, decide_true, decide_false, Bool.not_true, Bool.not_false, c_31, Bool.false_eq_true, ↓reduceIte, eq_self, decide_true, decide_false, not_true_eq_false, not_false_eq_true, Bool.true_and, Bool.false_and, Bool.and_true, Bool.and_false]; done) | (simp [thF, thB, va_up_s, bI, decide_true, decide_false, Bool.not_true, Bool.not_false, c_31]; done) | (simp [thF, thB, va_up_s, bI, decide_true, decide_false, Bool.not_true, Bool.not_false, c_31]; rfl) | (simp [thF, thB, va_up_s, bI, decide_true, decide_false, Bool.not_true, Bool.not_false, c_31]; omega), by first | rfl | (exfalso; omega) | (simp only [thF, thB, va_up_s, bI, decide_true, decide_false, Bool.not_true, Bool.not_false, c_31, Bool.false_eq_true, ↓reduceIte, eq_self, decide_true, decide_false, not_true_eq_false, not_false_eq_true, Bool.true_and, Bool.false_and, Bool.and_true, Bool.and_false]; done) | (simp [thF, thB, va_up_s, bI, decide_true, decide_false, Bool.not_true, Bool.not_false, c_31]; done) | (simp [thF, thB, va_up_s, bI, decide_true, decide_false, Bool.not_true, Bool.not_false, c_31]; rfl) | (simp [thF, thB, va_up_s, bI, decide_true, decide_false, Bool.not_true, Bool.not_false, c_31]; omega)⟩ dX4_tryHole_35

set_option maxHeartbeats 4000000 in
set_option maxRecDepth 100000 in
theorem c_X4_tryPart (l : Launch) (D : va_G) (cy : Nat → ClassId) (ad : Nat → Nat) (fr : Nat → Int64) (bk : Nat → Int64) (vw : Nat → Nat) (tk : Int64) (to : Int64) (fk : Int64) (fo : Int64) (kp : Nat) (sp : Nat) (lt : Nat) (ib : Bool) (rw : Nat) (cl : Nat) (nu : Nat) (tv : Nat) (tm : Nat) (ta : Nat → Int32) (ml : Int32) (tn : Nat) (R : va_W) (k : Nat) (h1 : k < 21) (hp : lt = 112 → rw < 7 ∧ nu < 128) (h8 : 8 * rw + cl < 64) (hlt : lt < 65536) : GE l D (gts cy) yX4_tryPart cX4_tryPart 2 (some .boolean) 4 0 0 [.ref (ad 0), .ref (ad (10 + k))] (wC ad cy fr bk vw tk to fk fo kp sp lt ib rw cl nu tv tm ta ml tn R) (gF (some (.int (bI (tpO (fr k) (bk k) lt ib rw cl)))) (wC ad cy (va_up fr k (tpF (fr k) (bk k) lt ib rw cl nu)) (va_up bk k (tpB (fr k) (bk k) lt ib rw cl nu)) (va_up vw k (tpV (vw k) lt nu)) tk to fk fo kp sp lt ib rw cl nu tv tm ta ml tn R)) := by
  refine g_intro (by decide +kernel) (lv := [(0, .ref (ad 0)), (1, .ref (ad (10 + k)))]) rfl (Nat.le_of_ble_eq_true rfl) ?_
  intro p e s m below meth c C0 G ls hl
  have hx := C0.1
  have hb := C0.2.1
  have hown := C0.2.2.2.2.2.1
  have hts := C0.2.2.2.2.2.2.1
  refine lv_aload_n hx hb dX4_tryPart_0 rfl (lv_at hl 0 rfl) ?_
  refine g_get (q0 := 0) (v := .ref (ad 6)) C0 G in_X4 rfl rfl 4 (by decide) fl_X4_36 (fun _ h => h) rfl dX4_tryPart_1 ?_
  refine g_getN (q0 := 6) (v := .int (nI lt)) C0 G in_X2 rfl rfl 1 (by decide) nf_X4_296 (fun _ h => h) rfl dX4_tryPart_4 ?_
  by_cases s_7_99 : lt = 99
  · skip
    refine lv_lookup (off := 60) (tgt := 67) hx hb dX4_tryPart_7 (by decide) (by rw [s_7_99]; decide) (by decide) ?_
    refine lv_aload_n hx hb dX4_tryPart_67 rfl (lv_at hl 1 rfl) ?_
    refine g_callS (As := [.ref (ad (10 + k))]) (rest := []) C0 G (GE.at (i := k + 9) (wC_at (k := k) (by omega)) (fun R => (c_X4_tryClosing l D cy (R := R) (h := ad (10 + k)) (f := fr k) (b := bk k) (v := vw k)  ))) k_X4_tryClosing ml_X4_310 dX4_tryPart_68 rfl rfl hl.1 (Nat.le_of_ble_eq_true rfl) ⟨Nat.le_of_ble_eq_true rfl, Nat.le_of_ble_eq_true rfl⟩ ⟨Nat.le_of_ble_eq_true rfl, Nat.le_of_ble_eq_true rfl⟩ (fun r W2 H locs hp G => ?_)
    obtain ⟨rfl, hw⟩ := hp
    have G : gW D (wC ad cy (va_up fr k (if ccB (fr k) (bk k) then clF (fr k) (bk k) else (fr k))) (va_up bk k (if ccB (fr k) (bk k) then clB (fr k) (bk k) else (bk k))) vw tk to fk fo kp sp lt ib rw cl nu tv tm ta ml tn R) (va_A (wC ad cy fr bk vw tk to fk fo kp sp lt ib rw cl nu tv tm ta ml tn R) s.heap.size) s H locs := g_wc (hw.trans (wC_set (k := k) (by omega) rfl rfl (va_up_s _ _))) G
    refine W.eq (g2 := F0 m 71 ls [.int (bI (ccB (fr k) (bk k)))]) rfl ?_
    exact g_zret C0 G (g_nz _) ⟨by first | rfl | (exfalso; omega) | (simp only [tpO, tpF, tpB, tpV, va_up_s, s_7_99, Bool.false_eq_true, ↓reduceIte, eq_self, decide_true, decide_false, not_true_eq_false, not_false_eq_true, Bool.true_and, Bool.false_and, Bool.and_true, Bool.and_false]; done) | (simp [tpO, tpF, tpB, tpV, va_up_s, s_7_99]; done) | (simp [tpO, tpF, tpB, tpV, va_up_s, s_7_99]; rfl) | (simp [tpO, tpF, tpB, tpV, va_up_s, s_7_99]; omega), by first | rfl | (exfalso; omega) | (simp only [tpO, tpF, tpB, tpV, va_up_s, s_7_99, Bool.false_eq_true, ↓reduceIte, eq_self, decide_true, decide_false, not_true_eq_false, not_false_eq_true, Bool.true_and, Bool.false_and, Bool.and_true, Bool.and_false]; done) | (simp [tpO, tpF, tpB, tpV, va_up_s, s_7_99]; done) | (simp [tpO, tpF, tpB, tpV, va_up_s, s_7_99]; rfl) | (simp [tpO, tpF, tpB, tpV, va_up_s, s_7_99]; omega)⟩ dX4_tryPart_71
  by_cases s_7_112 : lt = 112
  · skip
    refine lv_lookup (off := 41) (tgt := 48) hx hb dX4_tryPart_7 (by decide) (by rw [s_7_112]; decide) (by decide) ?_
    obtain ⟨hp1, hp2⟩ := hp s_7_112
    refine lv_aload_n hx hb dX4_tryPart_48 rfl (lv_at hl 1 rfl) ?_
    refine lv_aload_n hx hb dX4_tryPart_49 rfl (lv_at hl 0 rfl) ?_
    refine g_get (q0 := 0) (v := .ref (ad 6)) C0 G in_X4 rfl rfl 4 (by decide) fl_X4_36 (fun _ h => h) rfl dX4_tryPart_50 ?_
    refine g_getN (q0 := 6) (v := .int (nI rw)) C0 G in_X2 rfl rfl 3 (by decide) nf_X4_300 (fun _ h => h) rfl dX4_tryPart_53 ?_
    refine lv_aload_n hx hb dX4_tryPart_56 rfl (lv_at hl 0 rfl) ?_
    refine g_get (q0 := 0) (v := .ref (ad 6)) C0 G in_X4 rfl rfl 4 (by decide) fl_X4_36 (fun _ h => h) rfl dX4_tryPart_57 ?_
    refine g_getN (q0 := 6) (v := .int (nI nu)) C0 G in_X2 rfl rfl 5 (by decide) nf_X4_303 (fun _ h => h) rfl dX4_tryPart_60 ?_
    refine g_callS (As := [.ref (ad (10 + k)), .int (nI rw), .int (nI nu)]) (rest := []) C0 G (GE.at (i := k + 9) (wC_at (k := k) (by omega)) (fun R => (c_X4_tryPunching l D cy (R := R) (h := ad (10 + k)) (f := fr k) (b := bk k) (v := vw k) (row := rw) (x := nu) (by omega) (by omega)))) k_X4_tryPunching ml_X4_306 dX4_tryPart_63 rfl rfl hl.1 (Nat.le_of_ble_eq_true rfl) ⟨Nat.le_of_ble_eq_true rfl, Nat.le_of_ble_eq_true rfl⟩ ⟨Nat.le_of_ble_eq_true rfl, Nat.le_of_ble_eq_true rfl⟩ (fun r W2 H locs hp G => ?_)
    obtain ⟨rfl, hw⟩ := hp
    have G : gW D (wC ad cy (va_up fr k (if cpB (fr k) (bk k) rw then pwF (fr k) rw nu else (fr k))) (va_up bk k (if cpB (fr k) (bk k) rw then pwB (bk k) rw nu else (bk k))) vw tk to fk fo kp sp lt ib rw cl nu tv tm ta ml tn R) (va_A (wC ad cy fr bk vw tk to fk fo kp sp lt ib rw cl nu tv tm ta ml tn R) s.heap.size) s H locs := g_wc (hw.trans (wC_set (k := k) (by omega) rfl rfl (va_up_s _ _))) G
    refine W.eq (g2 := F0 m 66 ls [.int (bI (cpB (fr k) (bk k) rw))]) rfl ?_
    exact g_zret C0 G (g_nz _) ⟨by first | rfl | (exfalso; omega) | (simp only [tpO, tpF, tpB, tpV, va_up_s, s_7_99, s_7_112, Bool.false_eq_true, ↓reduceIte, eq_self, decide_true, decide_false, not_true_eq_false, not_false_eq_true, Bool.true_and, Bool.false_and, Bool.and_true, Bool.and_false]; done) | (simp [tpO, tpF, tpB, tpV, va_up_s, s_7_99, s_7_112]; done) | (simp [tpO, tpF, tpB, tpV, va_up_s, s_7_99, s_7_112]; rfl) | (simp [tpO, tpF, tpB, tpV, va_up_s, s_7_99, s_7_112]; omega), by first | rfl | (exfalso; omega) | (simp only [tpO, tpF, tpB, tpV, va_up_s, s_7_99, s_7_112, Bool.false_eq_true, ↓reduceIte, eq_self, decide_true, decide_false, not_true_eq_false, not_false_eq_true, Bool.true_and, Bool.false_and, Bool.and_true, Bool.and_false]; done) | (simp [tpO, tpF, tpB, tpV, va_up_s, s_7_99, s_7_112]; done) | (simp [tpO, tpF, tpB, tpV, va_up_s, s_7_99, s_7_112]; rfl) | (simp [tpO, tpF, tpB, tpV, va_up_s, s_7_99, s_7_112]; omega)⟩ dX4_tryPart_66
  by_cases s_7_118 : lt = 118
  · skip
    refine lv_lookup (off := 65) (tgt := 72) hx hb dX4_tryPart_7 (by decide) (by rw [s_7_118]; decide) (by decide) ?_
    refine lv_aload_n hx hb dX4_tryPart_72 rfl (lv_at hl 1 rfl) ?_
    refine lv_aload_n hx hb dX4_tryPart_73 rfl (lv_at hl 0 rfl) ?_
    refine g_get (q0 := 0) (v := .ref (ad 6)) C0 G in_X4 rfl rfl 4 (by decide) fl_X4_36 (fun _ h => h) rfl dX4_tryPart_74 ?_
    refine g_getN (q0 := 6) (v := .int (nI nu)) C0 G in_X2 rfl rfl 5 (by decide) nf_X4_303 (fun _ h => h) rfl dX4_tryPart_77 ?_
    refine g_putN (q0 := k + 9) (W2 := wC ad cy fr bk (va_up vw k nu) tk to fk fo kp sp lt ib rw cl nu tv tm ta ml tn R) C0 G ft_X0 in_X0 (wC_at (k := k) (by omega)) rfl 2 (by decide) nf_X4_151 (fun _ h => h) rfl rfl rfl (Nat.le_of_ble_eq_true rfl) (wC_set (k := k) (by omega) (va_up_s _ _) (va_up_s _ _) rfl) dX4_tryPart_80 (fun H locs G => ?_)
    refine lv_iconst (v := 1) hx hb dX4_tryPart_83 (by decide) ?_
    exact g_zret C0 G rfl ⟨by first | rfl | (exfalso; omega) | (simp only [tpO, tpF, tpB, tpV, va_up_s, s_7_99, s_7_112, s_7_118, Bool.false_eq_true, ↓reduceIte, eq_self, decide_true, decide_false, not_true_eq_false, not_false_eq_true, Bool.true_and, Bool.false_and, Bool.and_true, Bool.and_false]; done) | (simp [tpO, tpF, tpB, tpV, va_up_s, s_7_99, s_7_112, s_7_118]; done) | (simp [tpO, tpF, tpB, tpV, va_up_s, s_7_99, s_7_112, s_7_118]; rfl) | (simp [tpO, tpF, tpB, tpV, va_up_s, s_7_99, s_7_112, s_7_118]; omega), by first | rfl | (exfalso; omega) | (simp only [tpO, tpF, tpB, tpV, va_up_s, s_7_99, s_7_112, s_7_118, Bool.false_eq_true, ↓reduceIte, eq_self, decide_true, decide_false, not_true_eq_false, not_false_eq_true, Bool.true_and, Bool.false_and, Bool.and_true, Bool.and_false]; done) | (simp [tpO, tpF, tpB, tpV, va_up_s, s_7_99, s_7_112, s_7_118]; done) | (simp [tpO, tpF, tpB, tpV, va_up_s, s_7_99, s_7_112, s_7_118]; rfl) | (simp [tpO, tpF, tpB, tpV, va_up_s, s_7_99, s_7_112, s_7_118]; omega)⟩ dX4_tryPart_84
  by_cases s_7_119 : lt = 119
  · skip
    refine lv_lookup (off := 78) (tgt := 85) hx hb dX4_tryPart_7 (by decide) (by rw [s_7_119]; decide) (by decide) ?_
    refine lv_aload_n hx hb dX4_tryPart_85 rfl (lv_at hl 0 rfl) ?_
    refine lv_aload_n hx hb dX4_tryPart_86 rfl (lv_at hl 1 rfl) ?_
    refine lv_iconst (v := 1) hx hb dX4_tryPart_87 (by decide) ?_
    refine g_callV (As := [.ref (ad (10 + k)), .int 1]) (rest := []) (q0 := 0) C0 G (c_X4_tryHole l D cy (ad := ad) (fr := fr) (bk := bk) (vw := vw) (tk := tk) (to := to) (fk := fk) (fo := fo) (kp := kp) (sp := sp) (lt := lt) (ib := ib) (rw := rw) (cl := cl) (nu := nu) (tv := tv) (tm := tm) (ta := ta) (ml := ml) (tn := tn) (R := R) (k := k) (ho := true) (by omega) (by omega)) k_X4_tryHole ml_X4_313 rfl rfl dX4_tryPart_88 rfl rfl hl.1 (Nat.le_of_ble_eq_true rfl) ⟨Nat.le_of_ble_eq_true rfl, Nat.le_of_ble_eq_true rfl⟩ ⟨Nat.le_of_ble_eq_true rfl, Nat.le_of_ble_eq_true rfl⟩ (fun r W2 H locs hp G => ?_)
    obtain ⟨rfl, hw⟩ := hp
    have G := g_wc hw G
    refine W.eq (g2 := F0 m 91 ls [.int (bI (!decide (hoB (fr k) (bk k) ib (8 * rw + cl) = true)))]) rfl ?_
    exact g_zret C0 G (g_nz _) ⟨by first | rfl | (exfalso; omega) | (simp only [tpO, tpF, tpB, tpV, va_up_s, s_7_99, s_7_112, s_7_118, s_7_119, Bool.false_eq_true, ↓reduceIte, eq_self, decide_true, decide_false, not_true_eq_false, not_false_eq_true, Bool.true_and, Bool.false_and, Bool.and_true, Bool.and_false]; done) | (simp [tpO, tpF, tpB, tpV, va_up_s, s_7_99, s_7_112, s_7_118, s_7_119]; done) | (simp [tpO, tpF, tpB, tpV, va_up_s, s_7_99, s_7_112, s_7_118, s_7_119]; rfl) | (simp [tpO, tpF, tpB, tpV, va_up_s, s_7_99, s_7_112, s_7_118, s_7_119]; omega), by first | rfl | (exfalso; omega) | (simp only [tpO, tpF, tpB, tpV, va_up_s, s_7_99, s_7_112, s_7_118, s_7_119, Bool.false_eq_true, ↓reduceIte, eq_self, decide_true, decide_false, not_true_eq_false, not_false_eq_true, Bool.true_and, Bool.false_and, Bool.and_true, Bool.and_false]; done) | (simp [tpO, tpF, tpB, tpV, va_up_s, s_7_99, s_7_112, s_7_118, s_7_119]; done) | (simp [tpO, tpF, tpB, tpV, va_up_s, s_7_99, s_7_112, s_7_118, s_7_119]; rfl) | (simp [tpO, tpF, tpB, tpV, va_up_s, s_7_99, s_7_112, s_7_118, s_7_119]; omega)⟩ dX4_tryPart_91
  refine lv_lookup (off := 85) (tgt := 92) hx hb dX4_tryPart_7 (by decide) (g_lkd (by omega) (by decide) (by simp; omega)) (by decide) ?_
  refine lv_aload_n hx hb dX4_tryPart_92 rfl (lv_at hl 0 rfl) ?_
  refine lv_aload_n hx hb dX4_tryPart_93 rfl (lv_at hl 1 rfl) ?_
  refine lv_iconst (v := 0) hx hb dX4_tryPart_94 (by decide) ?_
  refine g_callV (As := [.ref (ad (10 + k)), .int 0]) (rest := []) (q0 := 0) C0 G (c_X4_tryHole l D cy (ad := ad) (fr := fr) (bk := bk) (vw := vw) (tk := tk) (to := to) (fk := fk) (fo := fo) (kp := kp) (sp := sp) (lt := lt) (ib := ib) (rw := rw) (cl := cl) (nu := nu) (tv := tv) (tm := tm) (ta := ta) (ml := ml) (tn := tn) (R := R) (k := k) (ho := false) (by omega) (by omega)) k_X4_tryHole ml_X4_313 rfl rfl dX4_tryPart_95 rfl rfl hl.1 (Nat.le_of_ble_eq_true rfl) ⟨Nat.le_of_ble_eq_true rfl, Nat.le_of_ble_eq_true rfl⟩ ⟨Nat.le_of_ble_eq_true rfl, Nat.le_of_ble_eq_true rfl⟩ (fun r W2 H locs hp G => ?_)
  obtain ⟨rfl, hw⟩ := hp
  have G := g_wc hw G
  refine W.eq (g2 := F0 m 98 ls [.int (bI (!decide (hoB (fr k) (bk k) ib (8 * rw + cl) = false)))]) rfl ?_
  exact g_zret C0 G (g_nz _) ⟨by first | rfl | (exfalso; omega) | (simp only [tpO, tpF, tpB, tpV, va_up_s, s_7_99, s_7_112, s_7_118, s_7_119, Bool.false_eq_true, ↓reduceIte, eq_self, decide_true, decide_false, not_true_eq_false, not_false_eq_true, Bool.true_and, Bool.false_and, Bool.and_true, Bool.and_false]; done) | (simp [tpO, tpF, tpB, tpV, va_up_s, s_7_99, s_7_112, s_7_118, s_7_119]; done) | (simp [tpO, tpF, tpB, tpV, va_up_s, s_7_99, s_7_112, s_7_118, s_7_119]; rfl) | (simp [tpO, tpF, tpB, tpV, va_up_s, s_7_99, s_7_112, s_7_118, s_7_119]; omega), by first | rfl | (exfalso; omega) | (simp only [tpO, tpF, tpB, tpV, va_up_s, s_7_99, s_7_112, s_7_118, s_7_119, Bool.false_eq_true, ↓reduceIte, eq_self, decide_true, decide_false, not_true_eq_false, not_false_eq_true, Bool.true_and, Bool.false_and, Bool.and_true, Bool.and_false]; done) | (simp [tpO, tpF, tpB, tpV, va_up_s, s_7_99, s_7_112, s_7_118, s_7_119]; done) | (simp [tpO, tpF, tpB, tpV, va_up_s, s_7_99, s_7_112, s_7_118, s_7_119]; rfl) | (simp [tpO, tpF, tpB, tpV, va_up_s, s_7_99, s_7_112, s_7_118, s_7_119]; omega)⟩ dX4_tryPart_98
