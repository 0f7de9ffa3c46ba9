/-! the law's small methods: pure -/
theorem kdN_eq {f b : Int64} {k q : Nat} (hq : q < 4) : decide (kdN f b k = q) = decide (kdI f b k = nI q) := by
  have h := kdN_lt f b k
  rw [kd_n]
  exact decide_eq_decide.mpr (nI_eq (by omega) (by omega)).symm
theorem allB_cong {p q : Nat → Bool} (h : ∀ k, p k = q k) (n : Nat) : allB p n = allB q n := by rw [funext h]
theorem cpn_all {f b : Int64} {row : Nat} (hr : row < 8) : allB (fun k => decide (kdN f b (8 * row + k) = 2)) 8 = cpB f b row := by
  rw [← cp_all hr]
  exact allB_cong (fun k => kdN_eq (by decide)) 8
theorem ccn_all {f b : Int64} : (cpB f b 7 && allB (fun k => decide (kdN f b k < 2)) 56) = ccB f b := by
  rw [← cc_all]
  congr 1
  exact allB_cong (fun k => by rw [kdN_sd, kd_sd]) 56
def kiH (cs : Nat → Cd) : Nat → Int64
  | 0 => 131
  | i + 1 => 31 * kiH cs i + (nI (kdN (cs (i / 64)).1 (cs (i / 64)).2.1 (8 * (i / 8 % 8) + i % 8))).toInt64
def kiC (cs : Nat → Cd) : Int64 := 31 * (31 * (31 * kiH cs 192 + (nI (cs 0).2.2).toInt64) + (nI (cs 1).2.2).toInt64) + (nI (cs 2).2.2).toInt64
def rvR (x : Nat) : Nat → Nat
  | 0 => 0
  | i + 1 => 2 * rvR x i + x / 2 ^ i % 2
def upN (v : Int32) (n : Nat) : Nat := (v &&& 2147483647).toBitVec.toNat % n
theorem up_and (v : Int32) : (v &&& 2147483647).toBitVec.toNat < 2147483648 ∧ v &&& 2147483647 = nI (v &&& 2147483647).toBitVec.toNat := by
  constructor
  · rw [Int32.toBitVec_and, BitVec.toNat_and]
    have h : v.toBitVec.toNat &&& (2147483647 : Int32).toBitVec.toNat ≤ (2147483647 : Int32).toBitVec.toNat := Nat.and_le_right
    have h2 : (2147483647 : Int32).toBitVec.toNat = 2147483647 := by decide
    omega
  · apply Int32.toBitVec_inj.mp
    show _ = BitVec.ofNat 32 _
    simp
theorem upN_lt (v : Int32) {n : Nat} (h : 0 < n) : upN v n < n := Nat.mod_lt _ h
theorem up_rem (v : Int32) {n : Nat} (h : 0 < n) (h2 : n < 1000) : (v &&& 2147483647) - (v &&& 2147483647) / nI n * nI n = nI (upN v n) := by
  obtain ⟨h3, h4⟩ := up_and v
  have h5 := pk_rem (a := (v &&& 2147483647).toBitVec.toNat) (d := n) (by omega) h (by omega)
  rw [← h4] at h5
  exact h5
set_option maxRecDepth 100000 in
theorem c_L_up (l : Launch) (D : va_G) (cy : Nat → ClassId) (W1 : va_W) (v : Int32) (n : Nat) (h1 : 0 < n) (h2 : n < 1000) : GE l D (gts cy) yL_up cL_up 2 (some .int) 0 0 0 [.int v, .int (nI n)] W1 (gF (some (.int (nI (upN v n)))) W1) := by
  refine g_intro (by decide +kernel) (lv := [(0, .int v), (1, .int (nI n))]) rfl (Nat.le_of_ble_eq_true rfl) ?_
  intro p e s m below meth c C0 G ls hl
  have hx := C0.1
  have hb := C0.2.1
  have hown := C0.2.2.2.2.2.1
  have hts := C0.2.2.2.2.2.2.1
  refine lv_iload_n hx hb dL_up_0 rfl (lv_at hl 0 rfl) ?_
  refine lv_ldc (v := 2147483647) hx hb hown (hts _ ki_L_8) dL_up_1 ?_
  refine lv_iand hx hb dL_up_3 ?_
  refine lv_iload_n hx hb dL_up_4 rfl (lv_at hl 1 rfl) ?_
  refine lv_irem hx hb dL_up_5 (fun h => by
    have h9 := (nI_eq (a := n) (b := 0) (by omega) (by omega)).mp h
    omega) ?_
  refine g_topi (x' := nI (upN v n)) (up_rem v h1 h2) ?_
  exact g_iret C0 G ⟨rfl, rfl⟩ dL_up_6
set_option maxHeartbeats 4000000 in
set_option maxRecDepth 100000 in
theorem c_L_reversed (l : Launch) (D : va_G) (cy : Nat → ClassId) (W1 : va_W) (x : Nat) (h1 : x < 256) : GE l D (gts cy) yL_reversed cL_reversed 3 (some .int) 0 0 0 [.int (nI x)] (W1) (gF (some (.int (nI (rvR x 8)))) (W1)) := by
  refine g_intro (by decide +kernel) (lv := [(0, .int (nI x))]) rfl (Nat.le_of_ble_eq_true rfl) ?_
  intro p e s m below meth c C0 G ls hl
  have hx := C0.1
  have hb := C0.2.1
  have hown := C0.2.2.2.2.2.1
  have hts := C0.2.2.2.2.2.2.1
  refine lv_iconst (v := 0) hx hb dL_reversed_0 (by decide) ?_
  refine lv_istore_n (lv' := [(1, .int 0), (0, .int (nI x))]) hx hb dL_reversed_1 rfl hl (by decide) rfl (fun ls hl => ?_)
  refine lv_iconst (v := 0) hx hb dL_reversed_2 (by decide) ?_
  refine lv_istore_n (lv' := [(2, .int 0), (1, .int 0), (0, .int (nI x))]) hx hb dL_reversed_3 rfl hl (by decide) rfl (fun ls hl => ?_)
  have hl := lv_sub hl (l' := [(0, .int (nI x)), (1, .int 0), (2, .int 0)]) [2, 1, 0] rfl
  refine g_loop (σ := Nat) (fun i => 8 - i) (fun i => W1) (fun i => [(0, .int (nI x)), (1, .int (nI (rvR x i))), (2, .int (nI i))]) (fun i => i ≤ 8) ?_ 0 (by show _ ≤ _; omega) G hl
  intro i hi_4 ih_4 H locs ls G hl
  have G : gW D (W1) (va_A (W1) s.heap.size) s H locs := G
  have hl : lv_has ls 3 [(0, .int (nI x)), (1, .int (nI (rvR x i))), (2, .int (nI i))] := hl
  refine lv_iload_n hx hb dL_reversed_4 rfl (lv_at hl 2 rfl) ?_
  refine lv_bipush (v := 8) hx hb dL_reversed_5 (by decide) ?_
  refine lv_icmp_ge (tgt := 26) hx hb dL_reversed_7 (by decide) (fun c_7 => ?_) (fun c_7 => ?_)
  · skip
    have c_7 : 8 ≤ i := (nI_leI (a := 8) (b := i) (by omega) (by omega)).mp c_7
    obtain rfl : i = 8 := by omega
    have G : gW D (W1) (va_A (W1) s.heap.size) s _ _ := G
    have hl : lv_has ls 3 [(0, .int (nI x)), (1, .int (nI (rvR x 8))), (2, .int (nI 8))] := hl
    refine lv_iload_n hx hb dL_reversed_26 rfl (lv_at hl 1 rfl) ?_
    exact g_iret C0 G ⟨by first | rfl | (exfalso; omega) | (simp only [c_7, Bool.false_eq_true, ↓reduceIte, eq_self, decide_true, decide_false, not_true_eq_false, not_false_eq_true, Bool.true_and, Bool.false_and, Bool.and_true, Bool.and_false]; done) | (simp [c_7]; done) | (simp [c_7]; rfl) | (simp [c_7]; omega), by first | rfl | (exfalso; omega) | (simp only [c_7, Bool.false_eq_true, ↓reduceIte, eq_self, decide_true, decide_false, not_true_eq_false, not_false_eq_true, Bool.true_and, Bool.false_and, Bool.and_true, Bool.and_false]; done) | (simp [c_7]; done) | (simp [c_7]; rfl) | (simp [c_7]; omega)⟩ dL_reversed_27
  · skip
    have c_7 : ¬ (8 ≤ i) := fun h => c_7 ((nI_leI (a := 8) (b := i) (by omega) (by omega)).mpr h)
    refine lv_iconst (v := 2) hx hb dL_reversed_10 (by decide) ?_
    refine lv_iload_n hx hb dL_reversed_11 rfl (lv_at hl 1 rfl) ?_
    refine lv_imul hx hb dL_reversed_12 ?_
    refine g_topi (x' := nI (2 * (rvR x i))) (pk_mul 2 (rvR x i)) ?_
    refine lv_iload_n hx hb dL_reversed_13 rfl (lv_at hl 0 rfl) ?_
    refine lv_iload_n hx hb dL_reversed_14 rfl (lv_at hl 2 rfl) ?_
    refine lv_ishr hx hb dL_reversed_15 ?_
    refine g_topi (x' := nI (x / 2 ^ i)) (shrN (a := x) (n := i) (by omega) (by omega)) ?_
    refine lv_iconst (v := 1) hx hb dL_reversed_16 (by decide) ?_
    refine lv_iand hx hb dL_reversed_17 ?_
    refine g_topi (x' := nI ((x / 2 ^ i) % 2)) (and1 (x / 2 ^ i)) ?_
    refine lv_iadd hx hb dL_reversed_18 ?_
    refine g_topi (x' := nI ((2 * (rvR x i)) + ((x / 2 ^ i) % 2))) (nI_add (2 * (rvR x i)) ((x / 2 ^ i) % 2)) ?_
    refine lv_istore_n (lv' := [(1, .int (nI ((2 * (rvR x i)) + ((x / 2 ^ i) % 2)))), (0, .int (nI x)), (2, .int (nI i))]) hx hb dL_reversed_19 rfl hl (by decide) rfl (fun ls hl => ?_)
    refine lv_iinc (v := nI (i + 1)) (lv' := [(2, .int (nI (i + 1))), (1, .int (nI ((2 * (rvR x i)) + ((x / 2 ^ i) % 2)))), (0, .int (nI x))]) hx hb dL_reversed_20 hl (k := 2) rfl (nI_add i 1) (by decide) rfl (fun ls hl => ?_)
    refine lv_goto (tgt := 4) hx hb dL_reversed_23 (by decide) ?_
    have hl := lv_sub hl (l' := _) [2, 1, 0] rfl
    exact ih_4 (i + 1) (by show _ ≤ _; omega) (by show _ < _; omega) _ _ _ G hl
set_option maxHeartbeats 4000000 in
set_option maxRecDepth 100000 in
theorem h_kinds (l : Launch) (D : va_G) (cy : Nat → ClassId) (ad : Nat → Nat) (tv : Nat) (cs : Nat → Cd) (hs : List (Nat → Cd))   : GL l D cy ad tv yL_kinds cL_kinds 4 (some .long) 3 [.ref (ad 0)] cs hs (.long (kiC cs)) cs hs := by
  refine l_intro (by decide +kernel) (lv := [(0, .ref (ad 0))]) rfl (Nat.le_of_ble_eq_true rfl) ?_
  intro p e s m below meth c A C0 G ls hl
  have hx := C0.1
  have hb := C0.2.1
  have hown := C0.2.2.2.2.2.1
  have hts := C0.2.2.2.2.2.2.1
  refine lv_ldc2 (v := (131)) hx hb hown (hts _ kl_L_9) dL_kinds_0 ?_
  refine lv_lstore_n (lv' := [(1, .long ((131) : Int64)), (0, .ref (ad 0))]) hx hb dL_kinds_3 rfl hl (by decide) rfl (fun ls hl => ?_)
  refine lv_iconst (v := 0) hx hb dL_kinds_4 (by decide) ?_
  refine lv_istore_n (lv' := [(3, .int 0), (1, .long ((131) : Int64)), (0, .ref (ad 0))]) hx hb dL_kinds_5 rfl hl (by decide) rfl (fun ls hl => ?_)
  have hl := lv_sub hl (l' := [(0, .ref (ad 0)), (1, .long ((131) : Int64)), (3, .int 0)]) [2, 1, 0] rfl
  refine l_loop (σ := Nat) (fun i => 192 - i) (fun i => [(0, .ref (ad 0)), (1, .long (kiH cs i)), (3, .int (nI i))]) (fun i => i ≤ 192) ?_ 0 (by show _ ≤ _; omega) G hl
  intro i hi_6 ih_6 H locs ls G hl
  have hl : lv_has ls 4 [(0, .ref (ad 0)), (1, .long (kiH cs i)), (3, .int (nI i))] := hl
  refine lv_iload_n hx hb dL_kinds_6 rfl (lv_at hl 2 rfl) ?_
  refine lv_sipush (v := 192) hx hb dL_kinds_7 (by decide) ?_
  refine lv_icmp_ge (tgt := 46) hx hb dL_kinds_10 (by decide) (fun c_10 => ?_) (fun c_10 => ?_)
  · skip
    have c_10 : 192 ≤ i := (nI_leI (a := 192) (b := i) (by omega) (by omega)).mp c_10
    obtain rfl : i = 192 := by omega
    have hl : lv_has ls 4 [(0, .ref (ad 0)), (1, .long (kiH cs 192)), (3, .int (nI 192))] := hl
    refine lv_ldc2 (v := (31)) hx hb hown (hts _ kl_L_11) dL_kinds_46 ?_
    refine lv_ldc2 (v := (31)) hx hb hown (hts _ kl_L_11) dL_kinds_49 ?_
    refine lv_ldc2 (v := (31)) hx hb hown (hts _ kl_L_11) dL_kinds_52 ?_
    refine lv_lload_n hx hb dL_kinds_55 rfl (lv_at hl 1 rfl) ?_
    refine lv_lmul hx hb dL_kinds_56 ?_
    refine lv_aload_n hx hb dL_kinds_57 rfl (lv_at hl 0 rfl) ?_
    refine lv_iconst (v := 0) hx hb dL_kinds_58 (by decide) ?_
    refine l_callV (As := [.int 0]) (rest := [.long (((31) : Int64) * (kiH cs 192)), .long ((31) : Int64), .long ((31) : Int64)]) (cs' := cs) (hs' := hs) (r := .int (nI ((cs 0).2.2))) C0 G (l_view l D cy ad tv cs (hs) 0 (by omega)) k_X4_view ml_L_19 dL_kinds_59 rfl rfl hl.1 (Nat.le_of_ble_eq_true rfl) ⟨Nat.le_of_ble_eq_true rfl, Nat.le_of_ble_eq_true rfl⟩ ⟨Nat.le_of_ble_eq_true rfl, Nat.le_of_ble_eq_true rfl⟩ (fun H locs G => ?_)
    refine lv_i2l hx hb dL_kinds_62 rfl ?_
    refine lv_ladd hx hb dL_kinds_63 ?_
    refine lv_lmul hx hb dL_kinds_64 ?_
    refine lv_aload_n hx hb dL_kinds_65 rfl (lv_at hl 0 rfl) ?_
    refine lv_iconst (v := 1) hx hb dL_kinds_66 (by decide) ?_
    refine l_callV (As := [.int 1]) (rest := [.long (((31) : Int64) * ((((31) : Int64) * (kiH cs 192)) + ((nI ((cs 0).2.2)).toInt64))), .long ((31) : Int64)]) (cs' := cs) (hs' := hs) (r := .int (nI ((cs 1).2.2))) C0 G (l_view l D cy ad tv cs (hs) 1 (by omega)) k_X4_view ml_L_19 dL_kinds_67 rfl rfl hl.1 (Nat.le_of_ble_eq_true rfl) ⟨Nat.le_of_ble_eq_true rfl, Nat.le_of_ble_eq_true rfl⟩ ⟨Nat.le_of_ble_eq_true rfl, Nat.le_of_ble_eq_true rfl⟩ (fun H locs G => ?_)
    refine lv_i2l hx hb dL_kinds_70 rfl ?_
    refine lv_ladd hx hb dL_kinds_71 ?_
    refine lv_lmul hx hb dL_kinds_72 ?_
    refine lv_aload_n hx hb dL_kinds_73 rfl (lv_at hl 0 rfl) ?_
    refine lv_iconst (v := 2) hx hb dL_kinds_74 (by decide) ?_
    refine l_callV (As := [.int 2]) (rest := [.long (((31) : Int64) * ((((31) : Int64) * ((((31) : Int64) * (kiH cs 192)) + ((nI ((cs 0).2.2)).toInt64))) + ((nI ((cs 1).2.2)).toInt64)))]) (cs' := cs) (hs' := hs) (r := .int (nI ((cs 2).2.2))) C0 G (l_view l D cy ad tv cs (hs) 2 (by omega)) k_X4_view ml_L_19 dL_kinds_75 rfl rfl hl.1 (Nat.le_of_ble_eq_true rfl) ⟨Nat.le_of_ble_eq_true rfl, Nat.le_of_ble_eq_true rfl⟩ ⟨Nat.le_of_ble_eq_true rfl, Nat.le_of_ble_eq_true rfl⟩ (fun H locs G => ?_)
    refine lv_i2l hx hb dL_kinds_78 rfl ?_
    refine lv_ladd hx hb dL_kinds_79 ?_
    refine g_topl (x' := kiC cs) rfl ?_
    exact l_lret C0 G dL_kinds_80
  · skip
    have c_10 : ¬ (192 ≤ i) := fun h => c_10 ((nI_leI (a := 192) (b := i) (by omega) (by omega)).mpr h)
    refine lv_ldc2 (v := (31)) hx hb hown (hts _ kl_L_11) dL_kinds_13 ?_
    refine lv_lload_n hx hb dL_kinds_16 rfl (lv_at hl 1 rfl) ?_
    refine lv_lmul hx hb dL_kinds_17 ?_
    refine lv_aload_n hx hb dL_kinds_18 rfl (lv_at hl 0 rfl) ?_
    refine lv_iload_n hx hb dL_kinds_19 rfl (lv_at hl 2 rfl) ?_
    refine lv_bipush (v := 64) hx hb dL_kinds_20 (by decide) ?_
    refine lv_idiv hx hb dL_kinds_22 (by decide) ?_
    refine g_topi (x' := nI (i / 64)) (pk_div (a := i) (d := 64) (by omega) (by decide) (by decide)) ?_
    refine lv_iload_n hx hb dL_kinds_23 rfl (lv_at hl 2 rfl) ?_
    refine lv_bipush (v := 8) hx hb dL_kinds_24 (by decide) ?_
    refine lv_idiv hx hb dL_kinds_26 (by decide) ?_
    refine g_topi (x' := nI (i / 8)) (pk_div (a := i) (d := 8) (by omega) (by decide) (by decide)) ?_
    refine lv_bipush (v := 8) hx hb dL_kinds_27 (by decide) ?_
    refine lv_irem hx hb dL_kinds_29 (by decide) ?_
    refine g_topi (x' := nI ((i / 8) % 8)) (pk_rem (a := i / 8) (d := 8) (by omega) (by decide) (by decide)) ?_
    refine lv_iload_n hx hb dL_kinds_30 rfl (lv_at hl 2 rfl) ?_
    refine lv_bipush (v := 8) hx hb dL_kinds_31 (by decide) ?_
    refine lv_irem hx hb dL_kinds_33 (by decide) ?_
    refine g_topi (x' := nI (i % 8)) (pk_rem (a := i) (d := 8) (by omega) (by decide) (by decide)) ?_
    refine l_callV (As := [.int (nI (i / 64)), .int (nI ((i / 8) % 8)), .int (nI (i % 8))]) (rest := [.long (((31) : Int64) * (kiH cs i))]) (cs' := cs) (hs' := hs) (r := .int (nI (kdN (cs (i / 64)).1 (cs (i / 64)).2.1 (8 * ((i / 8) % 8) + (i % 8))))) C0 G (l_kind l D cy ad tv cs (hs) (i / 64) ((i / 8) % 8) (i % 8) (by omega) (by omega) (by omega)) k_X4_kind ml_L_13 dL_kinds_34 rfl rfl hl.1 (Nat.le_of_ble_eq_true rfl) ⟨Nat.le_of_ble_eq_true rfl, Nat.le_of_ble_eq_true rfl⟩ ⟨Nat.le_of_ble_eq_true rfl, Nat.le_of_ble_eq_true rfl⟩ (fun H locs G => ?_)
    refine lv_i2l hx hb dL_kinds_37 rfl ?_
    refine lv_ladd hx hb dL_kinds_38 ?_
    refine lv_lstore_n (lv' := [(1, .long ((((31) : Int64) * (kiH cs i)) + ((nI (kdN (cs (i / 64)).1 (cs (i / 64)).2.1 (8 * ((i / 8) % 8) + (i % 8)))).toInt64))), (0, .ref (ad 0)), (3, .int (nI i))]) hx hb dL_kinds_39 rfl hl (by decide) rfl (fun ls hl => ?_)
    refine lv_iinc (v := nI (i + 1)) (lv' := [(3, .int (nI (i + 1))), (1, .long ((((31) : Int64) * (kiH cs i)) + ((nI (kdN (cs (i / 64)).1 (cs (i / 64)).2.1 (8 * ((i / 8) % 8) + (i % 8)))).toInt64))), (0, .ref (ad 0))]) hx hb dL_kinds_40 hl (k := 2) rfl (nI_add i 1) (by decide) rfl (fun ls hl => ?_)
    refine lv_goto (tgt := 6) hx hb dL_kinds_43 (by decide) ?_
    have hl := lv_sub hl (l' := _) [2, 1, 0] rfl
    exact ih_6 (i + 1) (by show _ ≤ _; omega) (by show _ < _; omega) _ _ _ G hl

set_option maxHeartbeats 4000000 in
set_option maxRecDepth 100000 in
theorem h_isBlank (l : Launch) (D : va_G) (cy : Nat → ClassId) (ad : Nat → Nat) (tv : Nat) (cs : Nat → Cd) (hs : List (Nat → Cd)) (k : Nat) (row : Nat) (hk : k < 3) (hr : row < 8) : GL l D cy ad tv yL_isBlank cL_isBlank 5 (some .boolean) 3 [.ref (ad 0), .int (nI k), .int (nI row)] cs hs (.int (bI (cpB (cs k).1 (cs k).2.1 row))) cs hs := by
  refine l_intro (by decide +kernel) (lv := [(0, .ref (ad 0)), (1, .int (nI k)), (2, .int (nI row))]) rfl (Nat.le_of_ble_eq_true rfl) ?_
  intro p e s m below meth c A C0 G ls hl
  have hx := C0.1
  have hb := C0.2.1
  have hown := C0.2.2.2.2.2.1
  have hts := C0.2.2.2.2.2.2.1
  refine lv_iconst (v := 1) hx hb dL_isBlank_0 (by decide) ?_
  refine lv_istore_n (lv' := [(3, .int 1), (0, .ref (ad 0)), (1, .int (nI k)), (2, .int (nI row))]) hx hb dL_isBlank_1 rfl hl (by decide) rfl (fun ls hl => ?_)
  refine lv_iconst (v := 0) hx hb dL_isBlank_2 (by decide) ?_
  refine lv_istore (lv' := [(4, .int 0), (3, .int 1), (0, .ref (ad 0)), (1, .int (nI k)), (2, .int (nI row))]) hx hb dL_isBlank_3 hl (by decide) rfl (fun ls hl => ?_)
  have hl := lv_sub hl (l' := [(0, .ref (ad 0)), (1, .int (nI k)), (2, .int (nI row)), (3, .int 1), (4, .int 0)]) [2, 3, 4, 1, 0] rfl
  refine l_loop (σ := Nat) (fun i => 8 - i) (fun i => [(0, .ref (ad 0)), (1, .int (nI k)), (2, .int (nI row)), (3, .int (bI (allB (fun z => decide (kdN (cs k).1 (cs k).2.1 (8 * row + z) = 2)) i))), (4, .int (nI i))]) (fun i => i ≤ 8) ?_ 0 (by show _ ≤ _; omega) G hl
  intro i hi_5 ih_5 H locs ls G hl
  have hkd := kdN_lt (cs k).1 (cs k).2.1 (8 * row + i)
  have hl : lv_has ls 5 [(0, .ref (ad 0)), (1, .int (nI k)), (2, .int (nI row)), (3, .int (bI (allB (fun z => decide (kdN (cs k).1 (cs k).2.1 (8 * row + z) = 2)) i))), (4, .int (nI i))] := hl
  refine lv_iload hx hb dL_isBlank_5 (lv_at hl 4 rfl) ?_
  refine lv_bipush (v := 8) hx hb dL_isBlank_7 (by decide) ?_
  refine lv_icmp_ge (tgt := 40) hx hb dL_isBlank_9 (by decide) (fun c_9 => ?_) (fun c_9 => ?_)
  · skip
    have c_9 : 8 ≤ i := (nI_leI (a := 8) (b := i) (by omega) (by omega)).mp c_9
    obtain rfl : i = 8 := by omega
    have hl : lv_has ls 5 [(0, .ref (ad 0)), (1, .int (nI k)), (2, .int (nI row)), (3, .int (bI (allB (fun z => decide (kdN (cs k).1 (cs k).2.1 (8 * row + z) = 2)) 8))), (4, .int (nI 8))] := hl
    refine lv_iload_n hx hb dL_isBlank_40 rfl (lv_at hl 3 rfl) ?_
    refine g_topi (x' := bI (cpB (cs k).1 (cs k).2.1 row)) (congrArg bI (cpn_all hr)) ?_
    exact l_zret C0 G (g_nz _) dL_isBlank_41
  · skip
    have c_9 : ¬ (8 ≤ i) := fun h => c_9 ((nI_leI (a := 8) (b := i) (by omega) (by omega)).mpr h)
    refine lv_iload_n hx hb dL_isBlank_12 rfl (lv_at hl 3 rfl) ?_
    refine lv_if_eq (tgt := 32) hx hb dL_isBlank_13 (by decide) (fun c_13 => ?_) (fun c_13 => ?_)
    · skip
      have c_13 : (allB (fun z => decide (kdN (cs k).1 (cs k).2.1 (8 * row + z) = 2)) i) = false := bI_f c_13
      refine lv_iconst (v := 0) hx hb dL_isBlank_32 (by decide) ?_
      refine lv_istore_n (lv' := [(3, .int 0), (0, .ref (ad 0)), (1, .int (nI k)), (2, .int (nI row)), (4, .int (nI i))]) hx hb dL_isBlank_33 rfl hl (by decide) rfl (fun ls hl => ?_)
      refine lv_iinc (v := nI (i + 1)) (lv' := [(4, .int (nI (i + 1))), (3, .int 0), (0, .ref (ad 0)), (1, .int (nI k)), (2, .int (nI row))]) hx hb dL_isBlank_34 hl (k := 4) rfl (nI_add i 1) (by decide) rfl (fun ls hl => ?_)
      refine lv_goto (tgt := 5) hx hb dL_isBlank_37 (by decide) ?_
      have hl := lv_sub hl (l' := _) [2, 3, 4, 1, 0] rfl
      exact ih_5 (i + 1) (by show _ ≤ _; omega) (by show _ < _; omega) _ _ _ G (by rw [show allB (fun z => decide (kdN (cs k).1 (cs k).2.1 (8 * row + z) = 2)) (i + 1) = false from by simp [allB, c_13]]; exact hl)
    · skip
      have c_13 : (allB (fun z => decide (kdN (cs k).1 (cs k).2.1 (8 * row + z) = 2)) i) = true := bI_t c_13
      refine lv_aload_n hx hb dL_isBlank_16 rfl (lv_at hl 0 rfl) ?_
      refine lv_iload_n hx hb dL_isBlank_17 rfl (lv_at hl 1 rfl) ?_
      refine lv_iload_n hx hb dL_isBlank_18 rfl (lv_at hl 2 rfl) ?_
      refine lv_iload hx hb dL_isBlank_19 (lv_at hl 4 rfl) ?_
      refine l_callV (As := [.int (nI k), .int (nI row), .int (nI i)]) (rest := []) (cs' := cs) (hs' := hs) (r := .int (nI (kdN (cs k).1 (cs k).2.1 (8 * row + i)))) C0 G (l_kind l D cy ad tv cs (hs) k row i (by omega) (by omega) (by omega)) k_X4_kind ml_L_13 dL_isBlank_21 rfl rfl hl.1 (Nat.le_of_ble_eq_true rfl) ⟨Nat.le_of_ble_eq_true rfl, Nat.le_of_ble_eq_true rfl⟩ ⟨Nat.le_of_ble_eq_true rfl, Nat.le_of_ble_eq_true rfl⟩ (fun H locs G => ?_)
      refine lv_iconst (v := 2) hx hb dL_isBlank_24 (by decide) ?_
      refine lv_icmp_ne (tgt := 32) hx hb dL_isBlank_25 (by decide) (fun c_25 => ?_) (fun c_25 => ?_)
      · skip
        have c_25 : ¬ ((kdN (cs k).1 (cs k).2.1 (8 * row + i)) = 2) := fun h => c_25 ((nI_eq (a := kdN (cs k).1 (cs k).2.1 (8 * row + i)) (b := 2) (by omega) (by omega)).mpr h)
        refine lv_iconst (v := 0) hx hb dL_isBlank_32 (by decide) ?_
        refine lv_istore_n (lv' := [(3, .int 0), (0, .ref (ad 0)), (1, .int (nI k)), (2, .int (nI row)), (4, .int (nI i))]) hx hb dL_isBlank_33 rfl hl (by decide) rfl (fun ls hl => ?_)
        refine lv_iinc (v := nI (i + 1)) (lv' := [(4, .int (nI (i + 1))), (3, .int 0), (0, .ref (ad 0)), (1, .int (nI k)), (2, .int (nI row))]) hx hb dL_isBlank_34 hl (k := 4) rfl (nI_add i 1) (by decide) rfl (fun ls hl => ?_)
        refine lv_goto (tgt := 5) hx hb dL_isBlank_37 (by decide) ?_
        have hl := lv_sub hl (l' := _) [2, 3, 4, 1, 0] rfl
        exact ih_5 (i + 1) (by show _ ≤ _; omega) (by show _ < _; omega) _ _ _ G (by rw [show allB (fun z => decide (kdN (cs k).1 (cs k).2.1 (8 * row + z) = 2)) (i + 1) = false from by simp [allB, c_25]]; exact hl)
      · skip
        have c_25 : (kdN (cs k).1 (cs k).2.1 (8 * row + i)) = 2 := (nI_eq (a := kdN (cs k).1 (cs k).2.1 (8 * row + i)) (b := 2) (by omega) (by omega)).mp c_25
        refine lv_iconst (v := 1) hx hb dL_isBlank_28 (by decide) ?_
        refine lv_goto (tgt := 33) hx hb dL_isBlank_29 (by decide) ?_
        refine lv_istore_n (lv' := [(3, .int 1), (0, .ref (ad 0)), (1, .int (nI k)), (2, .int (nI row)), (4, .int (nI i))]) hx hb dL_isBlank_33 rfl hl (by decide) rfl (fun ls hl => ?_)
        refine lv_iinc (v := nI (i + 1)) (lv' := [(4, .int (nI (i + 1))), (3, .int 1), (0, .ref (ad 0)), (1, .int (nI k)), (2, .int (nI row))]) hx hb dL_isBlank_34 hl (k := 4) rfl (nI_add i 1) (by decide) rfl (fun ls hl => ?_)
        refine lv_goto (tgt := 5) hx hb dL_isBlank_37 (by decide) ?_
        have hl := lv_sub hl (l' := _) [2, 3, 4, 1, 0] rfl
        exact ih_5 (i + 1) (by show _ ≤ _; omega) (by show _ < _; omega) _ _ _ G (by rw [show allB (fun z => decide (kdN (cs k).1 (cs k).2.1 (8 * row + z) = 2)) (i + 1) = true from by simp [allB, c_13, c_25]]; exact hl)

set_option maxHeartbeats 4000000 in
set_option maxRecDepth 100000 in
theorem h_canClose (l : Launch) (D : va_G) (cy : Nat → ClassId) (ad : Nat → Nat) (tv : Nat) (cs : Nat → Cd) (hs : List (Nat → Cd)) (k : Nat) (hk : k < 3) : GL l D cy ad tv yL_canClose cL_canClose 4 (some .boolean) 4 [.ref (ad 0), .int (nI k)] cs hs (.int (bI (ccB (cs k).1 (cs k).2.1))) cs hs := by
  refine l_intro (by decide +kernel) (lv := [(0, .ref (ad 0)), (1, .int (nI k))]) rfl (Nat.le_of_ble_eq_true rfl) ?_
  intro p e s m below meth c A C0 G ls hl
  have hx := C0.1
  have hb := C0.2.1
  have hown := C0.2.2.2.2.2.1
  have hts := C0.2.2.2.2.2.2.1
  refine lv_aload_n hx hb dL_canClose_0 rfl (lv_at hl 0 rfl) ?_
  refine lv_iload_n hx hb dL_canClose_1 rfl (lv_at hl 1 rfl) ?_
  refine lv_bipush (v := 7) hx hb dL_canClose_2 (by decide) ?_
  refine l_callS (As := [.ref (ad 0), .int (nI k), .int 7]) (rest := []) (cs' := cs) (hs' := hs) (r := .int (bI (cpB (cs k).1 (cs k).2.1 7))) C0 G (h_isBlank l D cy ad tv cs (hs) k 7 (by omega) (by omega)) k_L_isBlank ml_L_23 dL_canClose_4 rfl rfl hl.1 (Nat.le_of_ble_eq_true rfl) ⟨Nat.le_of_ble_eq_true rfl, Nat.le_of_ble_eq_true rfl⟩ ⟨Nat.le_of_ble_eq_true rfl, Nat.le_of_ble_eq_true rfl⟩ (fun H locs G => ?_)
  refine lv_istore_n (lv' := [(2, .int (bI (cpB (cs k).1 (cs k).2.1 7))), (0, .ref (ad 0)), (1, .int (nI k))]) hx hb dL_canClose_7 rfl hl (by decide) rfl (fun ls hl => ?_)
  refine lv_iconst (v := 0) hx hb dL_canClose_8 (by decide) ?_
  refine lv_istore_n (lv' := [(3, .int 0), (2, .int (bI (cpB (cs k).1 (cs k).2.1 7))), (0, .ref (ad 0)), (1, .int (nI k))]) hx hb dL_canClose_9 rfl hl (by decide) rfl (fun ls hl => ?_)
  have hl := lv_sub hl (l' := [(0, .ref (ad 0)), (1, .int (nI k)), (2, .int (bI (cpB (cs k).1 (cs k).2.1 7))), (3, .int 0)]) [2, 3, 1, 0] rfl
  refine l_loop (σ := Nat) (fun i => 56 - i) (fun i => [(0, .ref (ad 0)), (1, .int (nI k)), (2, .int (bI (cpB (cs k).1 (cs k).2.1 7 && allB (fun z => decide (kdN (cs k).1 (cs k).2.1 z < 2)) i))), (3, .int (nI i))]) (fun i => i ≤ 56) ?_ 0 (by show _ ≤ _; omega) G (by rw [show (cpB (cs k).1 (cs k).2.1 7 && allB (fun z => decide (kdN (cs k).1 (cs k).2.1 z < 2)) 0) = cpB (cs k).1 (cs k).2.1 7 from by simp [allB]]; exact hl)
  intro i hi_10 ih_10 H locs ls G hl
  have hkd := kdN_lt (cs k).1 (cs k).2.1 i
  have hl : lv_has ls 4 [(0, .ref (ad 0)), (1, .int (nI k)), (2, .int (bI (cpB (cs k).1 (cs k).2.1 7 && allB (fun z => decide (kdN (cs k).1 (cs k).2.1 z < 2)) i))), (3, .int (nI i))] := hl
  refine lv_iload_n hx hb dL_canClose_10 rfl (lv_at hl 3 rfl) ?_
  refine lv_bipush (v := 56) hx hb dL_canClose_11 (by decide) ?_
  refine lv_icmp_ge (tgt := 49) hx hb dL_canClose_13 (by decide) (fun c_13 => ?_) (fun c_13 => ?_)
  · skip
    have c_13 : 56 ≤ i := (nI_leI (a := 56) (b := i) (by omega) (by omega)).mp c_13
    obtain rfl : i = 56 := by omega
    have hl : lv_has ls 4 [(0, .ref (ad 0)), (1, .int (nI k)), (2, .int (bI (cpB (cs k).1 (cs k).2.1 7 && allB (fun z => decide (kdN (cs k).1 (cs k).2.1 z < 2)) 56))), (3, .int (nI 56))] := hl
    refine lv_iload_n hx hb dL_canClose_49 rfl (lv_at hl 2 rfl) ?_
    refine g_topi (x' := bI (ccB (cs k).1 (cs k).2.1)) (congrArg bI ccn_all) ?_
    exact l_zret C0 G (g_nz _) dL_canClose_50
  · skip
    have c_13 : ¬ (56 ≤ i) := fun h => c_13 ((nI_leI (a := 56) (b := i) (by omega) (by omega)).mpr h)
    refine lv_iload_n hx hb dL_canClose_16 rfl (lv_at hl 2 rfl) ?_
    refine lv_if_eq (tgt := 41) hx hb dL_canClose_17 (by decide) (fun c_17 => ?_) (fun c_17 => ?_)
    · skip
      have c_17 : (cpB (cs k).1 (cs k).2.1 7 && allB (fun z => decide (kdN (cs k).1 (cs k).2.1 z < 2)) i) = false := bI_f c_17
      refine lv_iconst (v := 0) hx hb dL_canClose_41 (by decide) ?_
      refine lv_istore_n (lv' := [(2, .int 0), (0, .ref (ad 0)), (1, .int (nI k)), (3, .int (nI i))]) hx hb dL_canClose_42 rfl hl (by decide) rfl (fun ls hl => ?_)
      refine lv_iinc (v := nI (i + 1)) (lv' := [(3, .int (nI (i + 1))), (2, .int 0), (0, .ref (ad 0)), (1, .int (nI k))]) hx hb dL_canClose_43 hl (k := 3) rfl (nI_add i 1) (by decide) rfl (fun ls hl => ?_)
      refine lv_goto (tgt := 10) hx hb dL_canClose_46 (by decide) ?_
      have hl := lv_sub hl (l' := _) [2, 3, 1, 0] rfl
      exact ih_10 (i + 1) (by show _ ≤ _; omega) (by show _ < _; omega) _ _ _ G (by rw [show (cpB (cs k).1 (cs k).2.1 7 && allB (fun z => decide (kdN (cs k).1 (cs k).2.1 z < 2)) (i + 1)) = false from by rw [show allB (fun z => decide (kdN (cs k).1 (cs k).2.1 z < 2)) (i + 1) = (allB (fun z => decide (kdN (cs k).1 (cs k).2.1 z < 2)) i && decide (kdN (cs k).1 (cs k).2.1 i < 2)) from rfl, ← Bool.and_assoc, c_17, Bool.false_and]]; exact hl)
    · skip
      have c_17 : (cpB (cs k).1 (cs k).2.1 7 && allB (fun z => decide (kdN (cs k).1 (cs k).2.1 z < 2)) i) = true := bI_t c_17
      refine lv_aload_n hx hb dL_canClose_20 rfl (lv_at hl 0 rfl) ?_
      refine lv_iload_n hx hb dL_canClose_21 rfl (lv_at hl 1 rfl) ?_
      refine lv_iload_n hx hb dL_canClose_22 rfl (lv_at hl 3 rfl) ?_
      refine lv_bipush (v := 8) hx hb dL_canClose_23 (by decide) ?_
      refine lv_idiv hx hb dL_canClose_25 (by decide) ?_
      refine g_topi (x' := nI (i / 8)) (pk_div (a := i) (d := 8) (by omega) (by decide) (by decide)) ?_
      refine lv_iload_n hx hb dL_canClose_26 rfl (lv_at hl 3 rfl) ?_
      refine lv_bipush (v := 8) hx hb dL_canClose_27 (by decide) ?_
      refine lv_irem hx hb dL_canClose_29 (by decide) ?_
      refine g_topi (x' := nI (i % 8)) (pk_rem (a := i) (d := 8) (by omega) (by decide) (by decide)) ?_
      refine l_callV (As := [.int (nI k), .int (nI (i / 8)), .int (nI (i % 8))]) (rest := []) (cs' := cs) (hs' := hs) (r := .int (nI (kdN (cs k).1 (cs k).2.1 (8 * (i / 8) + (i % 8))))) C0 G (l_kind l D cy ad tv cs (hs) k (i / 8) (i % 8) (by omega) (by omega) (by omega)) k_X4_kind ml_L_13 dL_canClose_30 rfl rfl hl.1 (Nat.le_of_ble_eq_true rfl) ⟨Nat.le_of_ble_eq_true rfl, Nat.le_of_ble_eq_true rfl⟩ ⟨Nat.le_of_ble_eq_true rfl, Nat.le_of_ble_eq_true rfl⟩ (fun H locs G => ?_)
      refine g_topi (x' := nI (kdN (cs k).1 (cs k).2.1 i)) (by rw [show 8 * (i / 8) + i % 8 = i by omega]) ?_
      refine lv_iconst (v := 2) hx hb dL_canClose_33 (by decide) ?_
      refine lv_icmp_ge (tgt := 41) hx hb dL_canClose_34 (by decide) (fun c_34 => ?_) (fun c_34 => ?_)
      · skip
        have c_34 : 2 ≤ (kdN (cs k).1 (cs k).2.1 i) := (nI_leI (a := 2) (b := kdN (cs k).1 (cs k).2.1 i) (by omega) (by omega)).mp c_34
        refine lv_iconst (v := 0) hx hb dL_canClose_41 (by decide) ?_
        refine lv_istore_n (lv' := [(2, .int 0), (0, .ref (ad 0)), (1, .int (nI k)), (3, .int (nI i))]) hx hb dL_canClose_42 rfl hl (by decide) rfl (fun ls hl => ?_)
        refine lv_iinc (v := nI (i + 1)) (lv' := [(3, .int (nI (i + 1))), (2, .int 0), (0, .ref (ad 0)), (1, .int (nI k))]) hx hb dL_canClose_43 hl (k := 3) rfl (nI_add i 1) (by decide) rfl (fun ls hl => ?_)
        refine lv_goto (tgt := 10) hx hb dL_canClose_46 (by decide) ?_
        have hl := lv_sub hl (l' := _) [2, 3, 1, 0] rfl
        exact ih_10 (i + 1) (by show _ ≤ _; omega) (by show _ < _; omega) _ _ _ G (by rw [show (cpB (cs k).1 (cs k).2.1 7 && allB (fun z => decide (kdN (cs k).1 (cs k).2.1 z < 2)) (i + 1)) = false from by rw [show allB (fun z => decide (kdN (cs k).1 (cs k).2.1 z < 2)) (i + 1) = (allB (fun z => decide (kdN (cs k).1 (cs k).2.1 z < 2)) i && decide (kdN (cs k).1 (cs k).2.1 i < 2)) from rfl, ← Bool.and_assoc, decide_eq_false (by omega), Bool.and_false]]; exact hl)
      · skip
        have c_34 : ¬ (2 ≤ (kdN (cs k).1 (cs k).2.1 i)) := fun h => c_34 ((nI_leI (a := 2) (b := kdN (cs k).1 (cs k).2.1 i) (by omega) (by omega)).mpr h)
        refine lv_iconst (v := 1) hx hb dL_canClose_37 (by decide) ?_
        refine lv_goto (tgt := 42) hx hb dL_canClose_38 (by decide) ?_
        refine lv_istore_n (lv' := [(2, .int 1), (0, .ref (ad 0)), (1, .int (nI k)), (3, .int (nI i))]) hx hb dL_canClose_42 rfl hl (by decide) rfl (fun ls hl => ?_)
        refine lv_iinc (v := nI (i + 1)) (lv' := [(3, .int (nI (i + 1))), (2, .int 1), (0, .ref (ad 0)), (1, .int (nI k))]) hx hb dL_canClose_43 hl (k := 3) rfl (nI_add i 1) (by decide) rfl (fun ls hl => ?_)
        refine lv_goto (tgt := 10) hx hb dL_canClose_46 (by decide) ?_
        have hl := lv_sub hl (l' := _) [2, 3, 1, 0] rfl
        exact ih_10 (i + 1) (by show _ ≤ _; omega) (by show _ < _; omega) _ _ _ G (by rw [show (cpB (cs k).1 (cs k).2.1 7 && allB (fun z => decide (kdN (cs k).1 (cs k).2.1 z < 2)) (i + 1)) = true from by rw [show allB (fun z => decide (kdN (cs k).1 (cs k).2.1 z < 2)) (i + 1) = (allB (fun z => decide (kdN (cs k).1 (cs k).2.1 z < 2)) i && decide (kdN (cs k).1 (cs k).2.1 i < 2)) from rfl, ← Bool.and_assoc, c_17, decide_eq_true (by omega), Bool.and_self]]; exact hl)
