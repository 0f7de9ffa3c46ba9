set_option maxHeartbeats 4000000 in
set_option maxRecDepth 100000 in
theorem h_acts (l : Launch) (D : va_G) (cy : Nat → ClassId) (ad : Nat → Nat) (tv : Nat) (cs : Nat → Cd) (hs : List (Nat → Cd)) (px : Int32) (py : Int32) (hv : Vk cs) : GL l D cy ad tv yL_acts cL_acts 19 (some .boolean) 6 [.ref (ad 0), .int px, .int py] cs hs (.int 1) (actS px py cs) (ps cs hs) := by
  refine l_intro (by decide +kernel) (lv := [(0, .ref (ad 0)), (1, .int px), (2, .int py)]) rfl (Nat.le_of_ble_eq_true rfl) ?_
  intro p e s m below meth c A C0 G ls hl
  have hx := C0.1
  have hb := C0.2.1
  have hown := C0.2.2.2.2.2.1
  have hts := C0.2.2.2.2.2.2.1
  obtain ⟨nn, en⟩ : ∃ g9 : Nat, g9 = upN px 16 := ⟨_, rfl⟩
  have h_nn : nn < 16 := by rw [en]; exact upN_lt _ (by decide)
  obtain ⟨k, ek⟩ : ∃ g9 : Nat, g9 = upN py 3 := ⟨_, rfl⟩
  have h_k : k < 3 := by rw [ek]; exact upN_lt _ (by decide)
  obtain ⟨r, er⟩ : ∃ g9 : Nat, g9 = upN (py >>> (2 &&& 31)) 8 := ⟨_, rfl⟩
  have h_r : r < 8 := by rw [er]; exact upN_lt _ (by decide)
  obtain ⟨q, e_q⟩ : ∃ g9 : Nat, g9 = upN (py >>> (5 &&& 31)) 8 := ⟨_, rfl⟩
  have h_q : q < 8 := by rw [e_q]; exact upN_lt _ (by decide)
  obtain ⟨j2, ej2⟩ : ∃ g9 : Nat, g9 = upN (py >>> (2 &&& 31)) 2 := ⟨_, rfl⟩
  have h_j2 : j2 < 2 := by rw [ej2]; exact upN_lt _ (by decide)
  obtain ⟨v4, ev4⟩ : ∃ g9 : Nat, g9 = upN (py >>> (2 &&& 31)) 4 := ⟨_, rfl⟩
  have h_v4 : v4 < 4 := by rw [ev4]; exact upN_lt _ (by decide)
  obtain ⟨u, eu⟩ : ∃ g9 : Nat, g9 = upN (py >>> (5 &&& 31)) 128 := ⟨_, rfl⟩
  have h_u : u < 128 := by rw [eu]; exact upN_lt _ (by decide)
  have hact : actS px py cs = actW nn k r q j2 v4 u cs := by unfold actS; rw [← en, ← ek, ← er, ← e_q, ← ej2, ← ev4, ← eu]
  have hvk := hv k h_k
  have hpf := pc_le (cs k).1
  have hpb := pc_le (cs k).2.1
  have hpt := pc_le ((tK (cs k)) ^^^ (-1))
  have hp7 := pc7_le u
  have hb8 := by8_lt (shB1 (cs k).1 (cs k).2.1 (cs k).2.2 r)
  have hpq := pc_le (onW (clF (cs k).1 (cs k).2.1) (clB (cs k).1 (cs k).2.1) &&& rowM 7)
  refine lv_iload_n hx hb dL_acts_0 rfl (lv_at hl 2 rfl) ?_
  refine lv_iconst (v := 3) hx hb dL_acts_1 (by decide) ?_
  refine l_callS (As := [.int py, .int 3]) (rest := []) (cs' := cs) (hs' := hs) (r := .int (nI (upN py 3))) C0 G (GL.pure (fun W1 => c_L_up l D cy W1 py 3 (by omega) (by omega))) k_L_up ml_L_29 dL_acts_2 rfl rfl hl.1 (Nat.le_of_ble_eq_true rfl) ⟨Nat.le_of_ble_eq_true rfl, Nat.le_of_ble_eq_true rfl⟩ ⟨Nat.le_of_ble_eq_true rfl, Nat.le_of_ble_eq_true rfl⟩ (fun H locs G => ?_)
  refine g_topi (x' := nI k) (congrArg nI ek.symm) ?_
  refine lv_istore_n (lv' := [(3, .int (nI k)), (0, .ref (ad 0)), (1, .int px), (2, .int py)]) hx hb dL_acts_5 rfl hl (by decide) rfl (fun ls hl => ?_)
  refine lv_iload_n hx hb dL_acts_6 rfl (lv_at hl 3 rfl) ?_
  refine lv_iconst (v := 2) hx hb dL_acts_7 (by decide) ?_
  refine lv_ishr hx hb dL_acts_8 ?_
  refine lv_bipush (v := 8) hx hb dL_acts_9 (by decide) ?_
  refine l_callS (As := [.int (py >>> (2 &&& 31)), .int 8]) (rest := []) (cs' := cs) (hs' := hs) (r := .int (nI (upN (py >>> (2 &&& 31)) 8))) C0 G (GL.pure (fun W1 => c_L_up l D cy W1 (py >>> (2 &&& 31)) 8 (by omega) (by omega))) k_L_up ml_L_29 dL_acts_11 rfl rfl hl.1 (Nat.le_of_ble_eq_true rfl) ⟨Nat.le_of_ble_eq_true rfl, Nat.le_of_ble_eq_true rfl⟩ ⟨Nat.le_of_ble_eq_true rfl, Nat.le_of_ble_eq_true rfl⟩ (fun H locs G => ?_)
  refine g_topi (x' := nI r) (congrArg nI er.symm) ?_
  refine lv_istore (lv' := [(4, .int (nI r)), (3, .int (nI k)), (0, .ref (ad 0)), (1, .int px), (2, .int py)]) hx hb dL_acts_14 hl (by decide) rfl (fun ls hl => ?_)
  refine lv_iload_n hx hb dL_acts_16 rfl (lv_at hl 4 rfl) ?_
  refine lv_iconst (v := 5) hx hb dL_acts_17 (by decide) ?_
  refine lv_ishr hx hb dL_acts_18 ?_
  refine lv_bipush (v := 8) hx hb dL_acts_19 (by decide) ?_
  refine l_callS (As := [.int (py >>> (5 &&& 31)), .int 8]) (rest := []) (cs' := cs) (hs' := hs) (r := .int (nI (upN (py >>> (5 &&& 31)) 8))) C0 G (GL.pure (fun W1 => c_L_up l D cy W1 (py >>> (5 &&& 31)) 8 (by omega) (by omega))) k_L_up ml_L_29 dL_acts_21 rfl rfl hl.1 (Nat.le_of_ble_eq_true rfl) ⟨Nat.le_of_ble_eq_true rfl, Nat.le_of_ble_eq_true rfl⟩ ⟨Nat.le_of_ble_eq_true rfl, Nat.le_of_ble_eq_true rfl⟩ (fun H locs G => ?_)
  refine g_topi (x' := nI q) (congrArg nI e_q.symm) ?_
  refine lv_istore (lv' := [(5, .int (nI q)), (4, .int (nI r)), (3, .int (nI k)), (0, .ref (ad 0)), (1, .int px), (2, .int py)]) hx hb dL_acts_24 hl (by decide) rfl (fun ls hl => ?_)
  refine lv_aload_n hx hb dL_acts_26 rfl (lv_at hl 3 rfl) ?_
  refine lv_iload_n hx hb dL_acts_27 rfl (lv_at hl 2 rfl) ?_
  refine l_callV (As := [.int (nI k)]) (rest := []) (cs' := cs) (hs' := hs) (r := .int (nI ((cs k).2.2))) C0 G (l_view l D cy ad tv cs (hs) k (by omega)) k_X4_view ml_L_19 dL_acts_28 rfl rfl hl.1 (Nat.le_of_ble_eq_true rfl) ⟨Nat.le_of_ble_eq_true rfl, Nat.le_of_ble_eq_true rfl⟩ ⟨Nat.le_of_ble_eq_true rfl, Nat.le_of_ble_eq_true rfl⟩ (fun H locs G => ?_)
  refine lv_istore (lv' := [(6, .int (nI ((cs k).2.2))), (5, .int (nI q)), (4, .int (nI r)), (3, .int (nI k)), (0, .ref (ad 0)), (1, .int px), (2, .int py)]) hx hb dL_acts_31 hl (by decide) rfl (fun ls hl => ?_)
  refine lv_iload_n hx hb dL_acts_33 rfl (lv_at hl 5 rfl) ?_
  refine lv_bipush (v := 16) hx hb dL_acts_34 (by decide) ?_
  refine l_callS (As := [.int px, .int 16]) (rest := []) (cs' := cs) (hs' := hs) (r := .int (nI (upN px 16))) C0 G (GL.pure (fun W1 => c_L_up l D cy W1 px 16 (by omega) (by omega))) k_L_up ml_L_29 dL_acts_36 rfl rfl hl.1 (Nat.le_of_ble_eq_true rfl) ⟨Nat.le_of_ble_eq_true rfl, Nat.le_of_ble_eq_true rfl⟩ ⟨Nat.le_of_ble_eq_true rfl, Nat.le_of_ble_eq_true rfl⟩ (fun H locs G => ?_)
  refine g_topi (x' := nI nn) (congrArg nI en.symm) ?_
  by_cases s_39_0 : nn = 0
  · skip
    refine lv_tableIn (off := 45) (tgt := 84) hx hb dL_acts_39 (by rw [s_39_0]; decide) (by rw [s_39_0]; decide) (by rw [s_39_0]; rfl) (by decide) ?_
    refine lv_aload_n hx hb dL_acts_84 rfl (lv_at hl 4 rfl) ?_
    refine lv_iload_n hx hb dL_acts_85 rfl (lv_at hl 3 rfl) ?_
    refine l_callV (As := [.int (nI k)]) (rest := []) (cs' := va_up cs k (0, 0, 0)) (hs' := ps cs (hs)) (r := .int (nI (pc (cs k).1 + pc (cs k).2.1))) C0 G (l_renew l D cy ad tv cs (hs) k (by omega)) k_X4_renew ml_L_33 dL_acts_86 rfl rfl hl.1 (Nat.le_of_ble_eq_true rfl) ⟨Nat.le_of_ble_eq_true rfl, Nat.le_of_ble_eq_true rfl⟩ ⟨Nat.le_of_ble_eq_true rfl, Nat.le_of_ble_eq_true rfl⟩ (fun H locs G => ?_)
    obtain ⟨c1, hc1⟩ : ∃ g9 : Nat → Cd, g9 = va_up cs k (0, 0, 0) := ⟨_, rfl⟩
    have G : gL D cy ad tv c1 (ps cs (hs)) A s _ _ := l_eq hc1.symm rfl G
    have ec1 : c1 k = (0, 0, 0) := by rw [hc1]; exact va_up_e _ _ _
    refine lv_if_lt (tgt := 115) hx hb dL_acts_89 (by decide) (fun c_89 => ?_) (fun c_89 => ?_)
    · skip
      have c_89 : (pc (cs k).1 + pc (cs k).2.1) < 0 := (nI_ltI (a := pc (cs k).1 + pc (cs k).2.1) (b := 0) (by omega) (by omega)).mp c_89
      exact absurd c_89 (by omega)
    · skip
      have c_89 : ¬ ((pc (cs k).1 + pc (cs k).2.1) < 0) := fun h => c_89 ((nI_ltI (a := pc (cs k).1 + pc (cs k).2.1) (b := 0) (by omega) (by omega)).mpr h)
      refine lv_aload_n hx hb dL_acts_92 rfl (lv_at hl 4 rfl) ?_
      refine lv_iload_n hx hb dL_acts_93 rfl (lv_at hl 3 rfl) ?_
      refine lv_iconst (v := 2) hx hb dL_acts_94 (by decide) ?_
      refine l_callV (As := [.int (nI k), .int 2]) (rest := []) (cs' := c1) (hs' := ps cs (hs)) (r := .int (nI (pc (kdW (c1 k).1 (c1 k).2.1 2)))) C0 G (l_count l D cy ad tv c1 (ps cs (hs)) k 2 (by omega) (by omega)) k_X4_count ml_L_36 dL_acts_95 rfl rfl hl.1 (Nat.le_of_ble_eq_true rfl) ⟨Nat.le_of_ble_eq_true rfl, Nat.le_of_ble_eq_true rfl⟩ ⟨Nat.le_of_ble_eq_true rfl, Nat.le_of_ble_eq_true rfl⟩ (fun H locs G => ?_)
      refine g_topi (x' := 64) (congrArg nI (by rw [ec1]; exact pc_bl0)) ?_
      refine lv_bipush (v := 64) hx hb dL_acts_98 (by decide) ?_
      refine lv_icmp_ne (tgt := 115) hx hb dL_acts_100 (by decide) (fun c_100 => ?_) (fun c_100 => ?_)
      · exact absurd c_100 (by decide)
      · skip
        refine lv_aload_n hx hb dL_acts_103 rfl (lv_at hl 4 rfl) ?_
        refine lv_iload_n hx hb dL_acts_104 rfl (lv_at hl 3 rfl) ?_
        refine l_callV (As := [.int (nI k)]) (rest := []) (cs' := c1) (hs' := ps cs (hs)) (r := .int (nI ((c1 k).2.2))) C0 G (l_view l D cy ad tv c1 (ps cs (hs)) k (by omega)) k_X4_view ml_L_19 dL_acts_105 rfl rfl hl.1 (Nat.le_of_ble_eq_true rfl) ⟨Nat.le_of_ble_eq_true rfl, Nat.le_of_ble_eq_true rfl⟩ ⟨Nat.le_of_ble_eq_true rfl, Nat.le_of_ble_eq_true rfl⟩ (fun H locs G => ?_)
        refine g_topi (x' := 0) (by rw [ec1]; rfl) ?_
        refine lv_if_ne (tgt := 115) hx hb dL_acts_108 (by decide) (fun c_108 => ?_) (fun c_108 => ?_)
        · exact absurd c_108 (by decide)
        · skip
          refine lv_iconst (v := 1) hx hb dL_acts_111 (by decide) ?_
          refine lv_goto (tgt := 116) hx hb dL_acts_112 (by decide) ?_
          have G : gL D cy ad tv (actS px py cs) (ps cs hs) A s _ _ := l_eq (hc1.trans (hact.trans (by unfold actW; rw [if_pos (by omega)])).symm) rfl G
          exact l_zret C0 G rfl dL_acts_116
  by_cases s_39_1 : nn = 1
  · skip
    refine lv_tableIn (off := 78) (tgt := 117) hx hb dL_acts_39 (by rw [s_39_1]; decide) (by rw [s_39_1]; decide) (by rw [s_39_1]; rfl) (by decide) ?_
    refine lv_iload_n hx hb dL_acts_117 rfl (lv_at hl 3 rfl) ?_
    refine lv_iconst (v := 1) hx hb dL_acts_118 (by decide) ?_
    refine lv_iadd hx hb dL_acts_119 ?_
    refine g_topi (x' := nI (k + 1)) (nI_add k 1) ?_
    refine lv_iload_n hx hb dL_acts_120 rfl (lv_at hl 6 rfl) ?_
    refine lv_iconst (v := 2) hx hb dL_acts_121 (by decide) ?_
    refine lv_ishr hx hb dL_acts_122 ?_
    refine lv_iconst (v := 2) hx hb dL_acts_123 (by decide) ?_
    refine l_callS (As := [.int (py >>> (2 &&& 31)), .int 2]) (rest := [.int (nI (k + 1))]) (cs' := cs) (hs' := hs) (r := .int (nI (upN (py >>> (2 &&& 31)) 2))) C0 G (GL.pure (fun W1 => c_L_up l D cy W1 (py >>> (2 &&& 31)) 2 (by omega) (by omega))) k_L_up ml_L_29 dL_acts_124 rfl rfl hl.1 (Nat.le_of_ble_eq_true rfl) ⟨Nat.le_of_ble_eq_true rfl, Nat.le_of_ble_eq_true rfl⟩ ⟨Nat.le_of_ble_eq_true rfl, Nat.le_of_ble_eq_true rfl⟩ (fun H locs G => ?_)
    refine g_topi (x' := nI j2) (congrArg nI ej2.symm) ?_
    refine lv_iadd hx hb dL_acts_127 ?_
    refine g_topi (x' := nI ((k + 1) + j2)) (nI_add (k + 1) j2) ?_
    refine lv_iconst (v := 3) hx hb dL_acts_128 (by decide) ?_
    refine lv_irem hx hb dL_acts_129 (by decide) ?_
    refine g_topi (x' := nI (((k + 1) + j2) % 3)) (pk_rem (a := (k + 1) + j2) (d := 3) (by omega) (by decide) (by decide)) ?_
    obtain ⟨j, ej⟩ : ∃ g9 : Nat, g9 = (k + 1 + j2) % 3 := ⟨_, rfl⟩
    have hj : j < 3 := by omega
    have hjk : ¬ k = j := by omega
    refine g_topi (x' := nI j) (congrArg nI (by rw [ej])) ?_
    refine lv_istore (lv' := [(7, .int (nI j)), (6, .int (nI ((cs k).2.2))), (5, .int (nI q)), (4, .int (nI r)), (3, .int (nI k)), (0, .ref (ad 0)), (1, .int px), (2, .int py)]) hx hb dL_acts_130 hl (by decide) rfl (fun ls hl => ?_)
    refine lv_aload_n hx hb dL_acts_132 rfl (lv_at hl 5 rfl) ?_
    refine lv_iload_n hx hb dL_acts_133 rfl (lv_at hl 4 rfl) ?_
    refine l_callV (As := [.int (nI k)]) (rest := []) (cs' := cs) (hs' := hs) (r := .int (nI (pc ((tK (cs k)) ^^^ (-1))))) C0 G (l_untold l D cy ad tv cs (hs) k (by omega)) k_X4_untold ml_L_39 dL_acts_134 rfl rfl hl.1 (Nat.le_of_ble_eq_true rfl) ⟨Nat.le_of_ble_eq_true rfl, Nat.le_of_ble_eq_true rfl⟩ ⟨Nat.le_of_ble_eq_true rfl, Nat.le_of_ble_eq_true rfl⟩ (fun H locs G => ?_)
    refine lv_istore (lv' := [(8, .int (nI (pc ((tK (cs k)) ^^^ (-1))))), (7, .int (nI j)), (6, .int (nI ((cs k).2.2))), (5, .int (nI q)), (4, .int (nI r)), (3, .int (nI k)), (0, .ref (ad 0)), (1, .int px), (2, .int py)]) hx hb dL_acts_137 hl (by decide) rfl (fun ls hl => ?_)
    refine lv_aload_n hx hb dL_acts_139 rfl (lv_at hl 6 rfl) ?_
    refine lv_iload_n hx hb dL_acts_140 rfl (lv_at hl 5 rfl) ?_
    refine lv_iload hx hb dL_acts_141 (lv_at hl 1 rfl) ?_
    refine l_callV (As := [.int (nI k), .int (nI j)]) (rest := []) (cs' := va_up cs j (tO (cs k), tK (cs k) &&& (tO (cs k) ^^^ (-1)), 0)) (hs' := ps cs (hs)) (r := .int (nI (pc (blW (tO (cs k)) (tK (cs k) &&& (tO (cs k) ^^^ (-1))))))) C0 G (l_copy l D cy ad tv cs (hs) k j (by omega) (by omega) hjk) k_X4_copy ml_L_42 dL_acts_143 rfl rfl hl.1 (Nat.le_of_ble_eq_true rfl) ⟨Nat.le_of_ble_eq_true rfl, Nat.le_of_ble_eq_true rfl⟩ ⟨Nat.le_of_ble_eq_true rfl, Nat.le_of_ble_eq_true rfl⟩ (fun H locs G => ?_)
    obtain ⟨c1, hc1⟩ : ∃ g9 : Nat → Cd, g9 = va_up cs j (tO (cs k), tK (cs k) &&& (tO (cs k) ^^^ (-1)), 0) := ⟨_, rfl⟩
    have G : gL D cy ad tv c1 (ps cs (hs)) A s _ _ := l_eq hc1.symm rfl G
    have ec1 : c1 j = (tO (cs k), tK (cs k) &&& (tO (cs k) ^^^ (-1)), 0) := by rw [hc1]; exact va_up_e _ _ _
    have ek1 : c1 k = cs k := by rw [hc1]; exact va_up_n _ _ hjk
    refine g_topi (x' := nI (pc ((tK (cs k)) ^^^ (-1)))) (congrArg nI (by rw [cp_bl])) ?_
    refine lv_iload hx hb dL_acts_146 (lv_at hl 0 rfl) ?_
    refine lv_icmp_ne (tgt := 196) hx hb dL_acts_148 (by decide) (fun c_148 => ?_) (fun c_148 => ?_)
    · skip
      have c_148 : ¬ ((pc ((tK (cs k)) ^^^ (-1))) = (pc ((tK (cs k)) ^^^ (-1)))) := fun h => c_148 ((nI_eq (a := pc ((tK (cs k)) ^^^ (-1))) (b := pc ((tK (cs k)) ^^^ (-1))) (by omega) (by omega)).mpr h)
      exact absurd rfl c_148
    · skip
      have c_148 : (pc ((tK (cs k)) ^^^ (-1))) = (pc ((tK (cs k)) ^^^ (-1))) := (nI_eq (a := pc ((tK (cs k)) ^^^ (-1))) (b := pc ((tK (cs k)) ^^^ (-1))) (by omega) (by omega)).mp c_148
      refine lv_aload_n hx hb dL_acts_151 rfl (lv_at hl 6 rfl) ?_
      refine lv_iload hx hb dL_acts_152 (lv_at hl 1 rfl) ?_
      refine lv_iconst (v := 2) hx hb dL_acts_154 (by decide) ?_
      refine l_callV (As := [.int (nI j), .int 2]) (rest := []) (cs' := c1) (hs' := ps cs (hs)) (r := .int (nI (pc (kdW (c1 j).1 (c1 j).2.1 2)))) C0 G (l_count l D cy ad tv c1 (ps cs (hs)) j 2 (by omega) (by omega)) k_X4_count ml_L_36 dL_acts_155 rfl rfl hl.1 (Nat.le_of_ble_eq_true rfl) ⟨Nat.le_of_ble_eq_true rfl, Nat.le_of_ble_eq_true rfl⟩ ⟨Nat.le_of_ble_eq_true rfl, Nat.le_of_ble_eq_true rfl⟩ (fun H locs G => ?_)
      refine g_topi (x' := nI (pc ((tK (cs k)) ^^^ (-1)))) (congrArg nI (by rw [ec1]; exact congrArg pc (cp_bl _))) ?_
      refine lv_iload hx hb dL_acts_158 (lv_at hl 0 rfl) ?_
      refine lv_icmp_ne (tgt := 196) hx hb dL_acts_160 (by decide) (fun c_160 => ?_) (fun c_160 => ?_)
      · skip
        have c_160 : ¬ ((pc ((tK (cs k)) ^^^ (-1))) = (pc ((tK (cs k)) ^^^ (-1)))) := fun h => c_160 ((nI_eq (a := pc ((tK (cs k)) ^^^ (-1))) (b := pc ((tK (cs k)) ^^^ (-1))) (by omega) (by omega)).mpr h)
        exact absurd rfl c_160
      · skip
        have c_160 : (pc ((tK (cs k)) ^^^ (-1))) = (pc ((tK (cs k)) ^^^ (-1))) := (nI_eq (a := pc ((tK (cs k)) ^^^ (-1))) (b := pc ((tK (cs k)) ^^^ (-1))) (by omega) (by omega)).mp c_160
        refine lv_aload_n hx hb dL_acts_163 rfl (lv_at hl 6 rfl) ?_
        refine lv_iload hx hb dL_acts_164 (lv_at hl 1 rfl) ?_
        refine lv_iconst (v := 3) hx hb dL_acts_166 (by decide) ?_
        refine l_callV (As := [.int (nI j), .int 3]) (rest := []) (cs' := c1) (hs' := ps cs (hs)) (r := .int (nI (pc (kdW (c1 j).1 (c1 j).2.1 3)))) C0 G (l_count l D cy ad tv c1 (ps cs (hs)) j 3 (by omega) (by omega)) k_X4_count ml_L_36 dL_acts_167 rfl rfl hl.1 (Nat.le_of_ble_eq_true rfl) ⟨Nat.le_of_ble_eq_true rfl, Nat.le_of_ble_eq_true rfl⟩ ⟨Nat.le_of_ble_eq_true rfl, Nat.le_of_ble_eq_true rfl⟩ (fun H locs G => ?_)
        refine g_topi (x' := 0) (congrArg nI (by rw [ec1]; exact cp_3 _)) ?_
        refine lv_if_ne (tgt := 196) hx hb dL_acts_170 (by decide) (fun c_170 => ?_) (fun c_170 => ?_)
        · exact absurd c_170 (by decide)
        · skip
          refine lv_aload_n hx hb dL_acts_173 rfl (lv_at hl 6 rfl) ?_
          refine lv_iload_n hx hb dL_acts_174 rfl (lv_at hl 5 rfl) ?_
          refine lv_iload hx hb dL_acts_175 (lv_at hl 1 rfl) ?_
          refine l_callV (As := [.int (nI k), .int (nI j)]) (rest := []) (cs' := c1) (hs' := ps cs (hs)) (r := .int (nI (pc ((tK (c1 k) &&& tK (c1 j)) &&& (tO (c1 k) ^^^ tO (c1 j)))))) C0 G (l_difference l D cy ad tv c1 (ps cs (hs)) k j (by omega) (by omega)) k_X4_difference ml_L_45 dL_acts_177 rfl rfl hl.1 (Nat.le_of_ble_eq_true rfl) ⟨Nat.le_of_ble_eq_true rfl, Nat.le_of_ble_eq_true rfl⟩ ⟨Nat.le_of_ble_eq_true rfl, Nat.le_of_ble_eq_true rfl⟩ (fun H locs G => ?_)
          refine g_topi (x' := 0) (congrArg nI (by rw [ec1, ek1, cp_K, cp_O]; exact pc_xx _ _)) ?_
          refine lv_if_ne (tgt := 196) hx hb dL_acts_180 (by decide) (fun c_180 => ?_) (fun c_180 => ?_)
          · exact absurd c_180 (by decide)
          · skip
            refine lv_aload_n hx hb dL_acts_183 rfl (lv_at hl 6 rfl) ?_
            refine lv_iload hx hb dL_acts_184 (lv_at hl 1 rfl) ?_
            refine l_callV (As := [.int (nI j)]) (rest := []) (cs' := c1) (hs' := ps cs (hs)) (r := .int (nI ((c1 j).2.2))) C0 G (l_view l D cy ad tv c1 (ps cs (hs)) j (by omega)) k_X4_view ml_L_19 dL_acts_186 rfl rfl hl.1 (Nat.le_of_ble_eq_true rfl) ⟨Nat.le_of_ble_eq_true rfl, Nat.le_of_ble_eq_true rfl⟩ ⟨Nat.le_of_ble_eq_true rfl, Nat.le_of_ble_eq_true rfl⟩ (fun H locs G => ?_)
            refine g_topi (x' := 0) (by rw [ec1]; rfl) ?_
            refine lv_if_ne (tgt := 196) hx hb dL_acts_189 (by decide) (fun c_189 => ?_) (fun c_189 => ?_)
            · exact absurd c_189 (by decide)
            · skip
              refine lv_iconst (v := 1) hx hb dL_acts_192 (by decide) ?_
              refine lv_goto (tgt := 197) hx hb dL_acts_193 (by decide) ?_
              have G : gL D cy ad tv (actS px py cs) (ps cs hs) A s _ _ := l_eq (hc1.trans (hact.trans (by unfold actW; rw [if_neg (by omega), if_pos (by omega), ← ej])).symm) rfl G
              exact l_zret C0 G rfl dL_acts_197
  by_cases s_39_2 : nn = 2
  · skip
    refine lv_tableIn (off := 159) (tgt := 198) hx hb dL_acts_39 (by rw [s_39_2]; decide) (by rw [s_39_2]; decide) (by rw [s_39_2]; rfl) (by decide) ?_
    refine lv_aload_n hx hb dL_acts_198 rfl (lv_at hl 4 rfl) ?_
    refine l_callS (As := [.ref (ad 0)]) (rest := []) (cs' := cs) (hs' := hs) (r := .long (kiC cs)) C0 G (h_kinds l D cy ad tv cs (hs)  ) k_L_kinds ml_L_48 dL_acts_199 rfl rfl hl.1 (Nat.le_of_ble_eq_true rfl) ⟨Nat.le_of_ble_eq_true rfl, Nat.le_of_ble_eq_true rfl⟩ ⟨Nat.le_of_ble_eq_true rfl, Nat.le_of_ble_eq_true rfl⟩ (fun H locs G => ?_)
    refine lv_aload_n hx hb dL_acts_202 rfl (lv_at hl 4 rfl) ?_
    refine lv_iconst (v := 2) hx hb dL_acts_203 (by decide) ?_
    refine l_callV (As := [.int 2]) (rest := [.long (kiC cs)]) (cs' := cs) (hs' := hs) (r := .int (nI ((cs 2).2.2))) C0 G (l_view l D cy ad tv cs (hs) 2 (by omega)) k_X4_view ml_L_19 dL_acts_204 rfl rfl hl.1 (Nat.le_of_ble_eq_true rfl) ⟨Nat.le_of_ble_eq_true rfl, Nat.le_of_ble_eq_true rfl⟩ ⟨Nat.le_of_ble_eq_true rfl, Nat.le_of_ble_eq_true rfl⟩ (fun H locs G => ?_)
    refine lv_i2l hx hb dL_acts_207 rfl ?_
    refine lv_lsub hx hb dL_acts_208 ?_
    refine lv_ldc2 (v := (31)) hx hb hown (hts _ kl_L_11) dL_acts_209 ?_
    refine lv_aload_n hx hb dL_acts_212 rfl (lv_at hl 4 rfl) ?_
    refine lv_iconst (v := 1) hx hb dL_acts_213 (by decide) ?_
    refine l_callV (As := [.int 1]) (rest := [.long ((31) : Int64), .long ((kiC cs) - ((nI ((cs 2).2.2)).toInt64))]) (cs' := cs) (hs' := hs) (r := .int (nI ((cs 1).2.2))) C0 G (l_view l D cy ad tv cs (hs) 1 (by omega)) k_X4_view ml_L_19 dL_acts_214 rfl rfl hl.1 (Nat.le_of_ble_eq_true rfl) ⟨Nat.le_of_ble_eq_true rfl, Nat.le_of_ble_eq_true rfl⟩ ⟨Nat.le_of_ble_eq_true rfl, Nat.le_of_ble_eq_true rfl⟩ (fun H locs G => ?_)
    refine lv_i2l hx hb dL_acts_217 rfl ?_
    refine lv_lmul hx hb dL_acts_218 ?_
    refine lv_lsub hx hb dL_acts_219 ?_
    refine lv_ldc2 (v := (961)) hx hb hown (hts _ kl_L_52) dL_acts_220 ?_
    refine lv_aload_n hx hb dL_acts_223 rfl (lv_at hl 4 rfl) ?_
    refine lv_iconst (v := 0) hx hb dL_acts_224 (by decide) ?_
    refine l_callV (As := [.int 0]) (rest := [.long ((961) : Int64), .long (((kiC cs) - ((nI ((cs 2).2.2)).toInt64)) - (((31) : Int64) * ((nI ((cs 1).2.2)).toInt64)))]) (cs' := cs) (hs' := hs) (r := .int (nI ((cs 0).2.2))) C0 G (l_view l D cy ad tv cs (hs) 0 (by omega)) k_X4_view ml_L_19 dL_acts_225 rfl rfl hl.1 (Nat.le_of_ble_eq_true rfl) ⟨Nat.le_of_ble_eq_true rfl, Nat.le_of_ble_eq_true rfl⟩ ⟨Nat.le_of_ble_eq_true rfl, Nat.le_of_ble_eq_true rfl⟩ (fun H locs G => ?_)
    refine lv_i2l hx hb dL_acts_228 rfl ?_
    refine lv_lmul hx hb dL_acts_229 ?_
    refine lv_lsub hx hb dL_acts_230 ?_
    refine g_topl (x' := kq cs) (ki_q cs) ?_
    refine lv_lstore (lv' := [(9, .long (kq cs)), (6, .int (nI ((cs k).2.2))), (5, .int (nI q)), (4, .int (nI r)), (3, .int (nI k)), (0, .ref (ad 0)), (1, .int px), (2, .int py)]) hx hb dL_acts_231 hl (by decide) rfl (fun ls hl => ?_)
    refine lv_aload_n hx hb dL_acts_233 rfl (lv_at hl 5 rfl) ?_
    refine lv_iload_n hx hb dL_acts_234 rfl (lv_at hl 4 rfl) ?_
    refine l_callV (As := [.int (nI k)]) (rest := []) (cs' := cs) (hs' := hs) (r := .int (nI (pc ((tK (cs k)) ^^^ (-1))))) C0 G (l_untold l D cy ad tv cs (hs) k (by omega)) k_X4_untold ml_L_39 dL_acts_235 rfl rfl hl.1 (Nat.le_of_ble_eq_true rfl) ⟨Nat.le_of_ble_eq_true rfl, Nat.le_of_ble_eq_true rfl⟩ ⟨Nat.le_of_ble_eq_true rfl, Nat.le_of_ble_eq_true rfl⟩ (fun H locs G => ?_)
    refine lv_istore (lv' := [(11, .int (nI (pc ((tK (cs k)) ^^^ (-1))))), (9, .long (kq cs)), (6, .int (nI ((cs k).2.2))), (5, .int (nI q)), (4, .int (nI r)), (3, .int (nI k)), (0, .ref (ad 0)), (1, .int px), (2, .int py)]) hx hb dL_acts_238 hl (by decide) rfl (fun ls hl => ?_)
    refine lv_aload_n hx hb dL_acts_240 rfl (lv_at hl 6 rfl) ?_
    refine lv_iload_n hx hb dL_acts_241 rfl (lv_at hl 5 rfl) ?_
    refine lv_iload_n hx hb dL_acts_242 rfl (lv_at hl 8 rfl) ?_
    refine lv_iconst (v := 2) hx hb dL_acts_243 (by decide) ?_
    refine lv_ishr hx hb dL_acts_244 ?_
    refine lv_iconst (v := 4) hx hb dL_acts_245 (by decide) ?_
    refine l_callS (As := [.int (py >>> (2 &&& 31)), .int 4]) (rest := [.int (nI k), .ref (ad 0)]) (cs' := cs) (hs' := hs) (r := .int (nI (upN (py >>> (2 &&& 31)) 4))) C0 G (GL.pure (fun W1 => c_L_up l D cy W1 (py >>> (2 &&& 31)) 4 (by omega) (by omega))) k_L_up ml_L_29 dL_acts_246 rfl rfl hl.1 (Nat.le_of_ble_eq_true rfl) ⟨Nat.le_of_ble_eq_true rfl, Nat.le_of_ble_eq_true rfl⟩ ⟨Nat.le_of_ble_eq_true rfl, Nat.le_of_ble_eq_true rfl⟩ (fun H locs G => ?_)
    refine g_topi (x' := nI v4) (congrArg nI ev4.symm) ?_
    refine l_callV (As := [.int (nI k), .int (nI v4)]) (rest := []) (cs' := va_up cs k ((cs k).1, (cs k).2.1, v4)) (hs' := ps cs (hs)) (r := .int (nI ((cs k).2.2))) C0 G (l_turn l D cy ad tv cs (hs) k v4 (by omega) (by omega)) k_X4_turn ml_L_54 dL_acts_249 rfl rfl hl.1 (Nat.le_of_ble_eq_true rfl) ⟨Nat.le_of_ble_eq_true rfl, Nat.le_of_ble_eq_true rfl⟩ ⟨Nat.le_of_ble_eq_true rfl, Nat.le_of_ble_eq_true rfl⟩ (fun H locs G => ?_)
    obtain ⟨c1, hc1⟩ : ∃ g9 : Nat → Cd, g9 = va_up cs k ((cs k).1, (cs k).2.1, v4) := ⟨_, rfl⟩
    have G : gL D cy ad tv c1 (ps cs (hs)) A s _ _ := l_eq hc1.symm rfl G
    have ec1 : c1 k = ((cs k).1, (cs k).2.1, v4) := by rw [hc1]; exact va_up_e _ _ _
    refine lv_iload hx hb dL_acts_252 (lv_at hl 2 rfl) ?_
    refine lv_icmp_ne (tgt := 325) hx hb dL_acts_254 (by decide) (fun c_254 => ?_) (fun c_254 => ?_)
    · skip
      have c_254 : ¬ (((cs k).2.2) = ((cs k).2.2)) := fun h => c_254 ((nI_eq (a := (cs k).2.2) (b := (cs k).2.2) (by omega) (by omega)).mpr h)
      exact absurd rfl c_254
    · skip
      have c_254 : ((cs k).2.2) = ((cs k).2.2) := (nI_eq (a := (cs k).2.2) (b := (cs k).2.2) (by omega) (by omega)).mp c_254
      refine lv_aload_n hx hb dL_acts_257 rfl (lv_at hl 6 rfl) ?_
      refine lv_iload_n hx hb dL_acts_258 rfl (lv_at hl 5 rfl) ?_
      refine l_callV (As := [.int (nI k)]) (rest := []) (cs' := c1) (hs' := ps cs (hs)) (r := .int (nI ((c1 k).2.2))) C0 G (l_view l D cy ad tv c1 (ps cs (hs)) k (by omega)) k_X4_view ml_L_19 dL_acts_259 rfl rfl hl.1 (Nat.le_of_ble_eq_true rfl) ⟨Nat.le_of_ble_eq_true rfl, Nat.le_of_ble_eq_true rfl⟩ ⟨Nat.le_of_ble_eq_true rfl, Nat.le_of_ble_eq_true rfl⟩ (fun H locs G => ?_)
      refine g_topi (x' := nI v4) (congrArg nI (by rw [ec1])) ?_
      refine lv_iload_n hx hb dL_acts_262 rfl (lv_at hl 8 rfl) ?_
      refine lv_iconst (v := 2) hx hb dL_acts_263 (by decide) ?_
      refine lv_ishr hx hb dL_acts_264 ?_
      refine lv_iconst (v := 4) hx hb dL_acts_265 (by decide) ?_
      refine l_callS (As := [.int (py >>> (2 &&& 31)), .int 4]) (rest := [.int (nI v4)]) (cs' := c1) (hs' := ps cs (hs)) (r := .int (nI (upN (py >>> (2 &&& 31)) 4))) C0 G (GL.pure (fun W1 => c_L_up l D cy W1 (py >>> (2 &&& 31)) 4 (by omega) (by omega))) k_L_up ml_L_29 dL_acts_266 rfl rfl hl.1 (Nat.le_of_ble_eq_true rfl) ⟨Nat.le_of_ble_eq_true rfl, Nat.le_of_ble_eq_true rfl⟩ ⟨Nat.le_of_ble_eq_true rfl, Nat.le_of_ble_eq_true rfl⟩ (fun H locs G => ?_)
      refine g_topi (x' := nI v4) (congrArg nI ev4.symm) ?_
      refine lv_icmp_ne (tgt := 325) hx hb dL_acts_269 (by decide) (fun c_269 => ?_) (fun c_269 => ?_)
      · skip
        have c_269 : ¬ (v4 = v4) := fun h => c_269 ((nI_eq (a := v4) (b := v4) (by omega) (by omega)).mpr h)
        exact absurd rfl c_269
      · skip
        have c_269 : v4 = v4 := (nI_eq (a := v4) (b := v4) (by omega) (by omega)).mp c_269
        refine lv_aload_n hx hb dL_acts_272 rfl (lv_at hl 6 rfl) ?_
        refine l_callS (As := [.ref (ad 0)]) (rest := []) (cs' := c1) (hs' := ps cs (hs)) (r := .long (kiC c1)) C0 G (h_kinds l D cy ad tv c1 (ps cs (hs))  ) k_L_kinds ml_L_48 dL_acts_273 rfl rfl hl.1 (Nat.le_of_ble_eq_true rfl) ⟨Nat.le_of_ble_eq_true rfl, Nat.le_of_ble_eq_true rfl⟩ ⟨Nat.le_of_ble_eq_true rfl, Nat.le_of_ble_eq_true rfl⟩ (fun H locs G => ?_)
        refine lv_aload_n hx hb dL_acts_276 rfl (lv_at hl 6 rfl) ?_
        refine lv_iconst (v := 2) hx hb dL_acts_277 (by decide) ?_
        refine l_callV (As := [.int 2]) (rest := [.long (kiC c1)]) (cs' := c1) (hs' := ps cs (hs)) (r := .int (nI ((c1 2).2.2))) C0 G (l_view l D cy ad tv c1 (ps cs (hs)) 2 (by omega)) k_X4_view ml_L_19 dL_acts_278 rfl rfl hl.1 (Nat.le_of_ble_eq_true rfl) ⟨Nat.le_of_ble_eq_true rfl, Nat.le_of_ble_eq_true rfl⟩ ⟨Nat.le_of_ble_eq_true rfl, Nat.le_of_ble_eq_true rfl⟩ (fun H locs G => ?_)
        refine lv_i2l hx hb dL_acts_281 rfl ?_
        refine lv_lsub hx hb dL_acts_282 ?_
        refine lv_ldc2 (v := (31)) hx hb hown (hts _ kl_L_11) dL_acts_283 ?_
        refine lv_aload_n hx hb dL_acts_286 rfl (lv_at hl 6 rfl) ?_
        refine lv_iconst (v := 1) hx hb dL_acts_287 (by decide) ?_
        refine l_callV (As := [.int 1]) (rest := [.long ((31) : Int64), .long ((kiC c1) - ((nI ((c1 2).2.2)).toInt64))]) (cs' := c1) (hs' := ps cs (hs)) (r := .int (nI ((c1 1).2.2))) C0 G (l_view l D cy ad tv c1 (ps cs (hs)) 1 (by omega)) k_X4_view ml_L_19 dL_acts_288 rfl rfl hl.1 (Nat.le_of_ble_eq_true rfl) ⟨Nat.le_of_ble_eq_true rfl, Nat.le_of_ble_eq_true rfl⟩ ⟨Nat.le_of_ble_eq_true rfl, Nat.le_of_ble_eq_true rfl⟩ (fun H locs G => ?_)
        refine lv_i2l hx hb dL_acts_291 rfl ?_
        refine lv_lmul hx hb dL_acts_292 ?_
        refine lv_lsub hx hb dL_acts_293 ?_
        refine lv_ldc2 (v := (961)) hx hb hown (hts _ kl_L_52) dL_acts_294 ?_
        refine lv_aload_n hx hb dL_acts_297 rfl (lv_at hl 6 rfl) ?_
        refine lv_iconst (v := 0) hx hb dL_acts_298 (by decide) ?_
        refine l_callV (As := [.int 0]) (rest := [.long ((961) : Int64), .long (((kiC c1) - ((nI ((c1 2).2.2)).toInt64)) - (((31) : Int64) * ((nI ((c1 1).2.2)).toInt64)))]) (cs' := c1) (hs' := ps cs (hs)) (r := .int (nI ((c1 0).2.2))) C0 G (l_view l D cy ad tv c1 (ps cs (hs)) 0 (by omega)) k_X4_view ml_L_19 dL_acts_299 rfl rfl hl.1 (Nat.le_of_ble_eq_true rfl) ⟨Nat.le_of_ble_eq_true rfl, Nat.le_of_ble_eq_true rfl⟩ ⟨Nat.le_of_ble_eq_true rfl, Nat.le_of_ble_eq_true rfl⟩ (fun H locs G => ?_)
        refine lv_i2l hx hb dL_acts_302 rfl ?_
        refine lv_lmul hx hb dL_acts_303 ?_
        refine lv_lsub hx hb dL_acts_304 ?_
        refine g_topl (x' := kq cs) ((ki_q c1).trans (by rw [hc1]; exact kq_turn cs k v4)) ?_
        refine lv_lload hx hb dL_acts_305 (lv_at hl 1 rfl) ?_
        refine W.lcmp hx hb dL_acts_307 ?_
        refine lv_if_ne (tgt := 325) hx hb dL_acts_308 (by decide) (fun c_308 => ?_) (fun c_308 => ?_)
        · skip
          have c_308 : ¬ (kq cs) = (kq cs) := fun h => c_308 (lgc_eq.mpr h)
          exact absurd rfl c_308
        · skip
          have c_308 : (kq cs) = (kq cs) := lgc_eq.mp c_308
          refine lv_aload_n hx hb dL_acts_311 rfl (lv_at hl 6 rfl) ?_
          refine lv_iload_n hx hb dL_acts_312 rfl (lv_at hl 5 rfl) ?_
          refine l_callV (As := [.int (nI k)]) (rest := []) (cs' := c1) (hs' := ps cs (hs)) (r := .int (nI (pc ((tK (c1 k)) ^^^ (-1))))) C0 G (l_untold l D cy ad tv c1 (ps cs (hs)) k (by omega)) k_X4_untold ml_L_39 dL_acts_313 rfl rfl hl.1 (Nat.le_of_ble_eq_true rfl) ⟨Nat.le_of_ble_eq_true rfl, Nat.le_of_ble_eq_true rfl⟩ ⟨Nat.le_of_ble_eq_true rfl, Nat.le_of_ble_eq_true rfl⟩ (fun H locs G => ?_)
          refine g_topi (x' := nI (pc ((tK (cs k)) ^^^ (-1)))) (congrArg nI (by rw [ec1]; rfl)) ?_
          refine lv_iload hx hb dL_acts_316 (lv_at hl 0 rfl) ?_
          refine lv_icmp_ne (tgt := 325) hx hb dL_acts_318 (by decide) (fun c_318 => ?_) (fun c_318 => ?_)
          · skip
            have c_318 : ¬ ((pc ((tK (cs k)) ^^^ (-1))) = (pc ((tK (cs k)) ^^^ (-1)))) := fun h => c_318 ((nI_eq (a := pc ((tK (cs k)) ^^^ (-1))) (b := pc ((tK (cs k)) ^^^ (-1))) (by omega) (by omega)).mpr h)
            exact absurd rfl c_318
          · skip
            have c_318 : (pc ((tK (cs k)) ^^^ (-1))) = (pc ((tK (cs k)) ^^^ (-1))) := (nI_eq (a := pc ((tK (cs k)) ^^^ (-1))) (b := pc ((tK (cs k)) ^^^ (-1))) (by omega) (by omega)).mp c_318
            refine lv_iconst (v := 1) hx hb dL_acts_321 (by decide) ?_
            refine lv_goto (tgt := 326) hx hb dL_acts_322 (by decide) ?_
            have G : gL D cy ad tv (actS px py cs) (ps cs hs) A s _ _ := l_eq (hc1.trans (hact.trans (by unfold actW; rw [if_neg (by omega), if_neg (by omega), if_pos (by omega)])).symm) rfl G
            exact l_zret C0 G rfl dL_acts_326
  by_cases s_39_3 : nn = 3
  · skip
    refine lv_tableIn (off := 288) (tgt := 327) hx hb dL_acts_39 (by rw [s_39_3]; decide) (by rw [s_39_3]; decide) (by rw [s_39_3]; rfl) (by decide) ?_
    refine lv_aload_n hx hb dL_acts_327 rfl (lv_at hl 4 rfl) ?_
    refine lv_iload_n hx hb dL_acts_328 rfl (lv_at hl 3 rfl) ?_
    refine l_callS (As := [.ref (ad 0), .int (nI k)]) (rest := []) (cs' := cs) (hs' := hs) (r := .int (bI (ccB (cs k).1 (cs k).2.1))) C0 G (h_canClose l D cy ad tv cs (hs) k (by omega)) k_L_canClose ml_L_57 dL_acts_329 rfl rfl hl.1 (Nat.le_of_ble_eq_true rfl) ⟨Nat.le_of_ble_eq_true rfl, Nat.le_of_ble_eq_true rfl⟩ ⟨Nat.le_of_ble_eq_true rfl, Nat.le_of_ble_eq_true rfl⟩ (fun H locs G => ?_)
    refine lv_if_eq (tgt := 361) hx hb dL_acts_332 (by decide) (fun c_332 => ?_) (fun c_332 => ?_)
    · skip
      have c_332 : (ccB (cs k).1 (cs k).2.1) = false := bI_f c_332
      refine lv_aload_n hx hb dL_acts_361 rfl (lv_at hl 4 rfl) ?_
      refine lv_iload_n hx hb dL_acts_362 rfl (lv_at hl 3 rfl) ?_
      refine lv_iload hx hb dL_acts_363 (lv_at hl 0 rfl) ?_
      refine l_callV (As := [.int (nI k), .int (nI ((cs k).2.2))]) (rest := []) (cs' := va_up cs k ((cs k).1, (cs k).2.1, ((cs k).2.2))) (hs' := ps cs (hs)) (r := .int (nI ((cs k).2.2))) C0 G (l_turn l D cy ad tv cs (hs) k ((cs k).2.2) (by omega) (by omega)) k_X4_turn ml_L_54 dL_acts_365 rfl rfl hl.1 (Nat.le_of_ble_eq_true rfl) ⟨Nat.le_of_ble_eq_true rfl, Nat.le_of_ble_eq_true rfl⟩ ⟨Nat.le_of_ble_eq_true rfl, Nat.le_of_ble_eq_true rfl⟩ (fun H locs G => ?_)
      obtain ⟨c1, hc1⟩ : ∃ g9 : Nat → Cd, g9 = va_up cs k ((cs k).1, (cs k).2.1, ((cs k).2.2)) := ⟨_, rfl⟩
      have G : gL D cy ad tv c1 (ps cs (hs)) A s _ _ := l_eq hc1.symm rfl G
      have ec1 : c1 k = ((cs k).1, (cs k).2.1, ((cs k).2.2)) := by rw [hc1]; exact va_up_e _ _ _
      refine lv_iload hx hb dL_acts_368 (lv_at hl 0 rfl) ?_
      refine lv_icmp_ne (tgt := 377) hx hb dL_acts_370 (by decide) (fun c_370 => ?_) (fun c_370 => ?_)
      · skip
        have c_370 : ¬ (((cs k).2.2) = ((cs k).2.2)) := fun h => c_370 ((nI_eq (a := (cs k).2.2) (b := (cs k).2.2) (by omega) (by omega)).mpr h)
        exact absurd rfl c_370
      · skip
        have c_370 : ((cs k).2.2) = ((cs k).2.2) := (nI_eq (a := (cs k).2.2) (b := (cs k).2.2) (by omega) (by omega)).mp c_370
        refine lv_iconst (v := 1) hx hb dL_acts_373 (by decide) ?_
        refine lv_goto (tgt := 378) hx hb dL_acts_374 (by decide) ?_
        have G : gL D cy ad tv (actS px py cs) (ps cs hs) A s _ _ := l_eq (hc1.trans (hact.trans (by unfold actW; rw [if_neg (by omega), if_neg (by omega), if_neg (by omega), if_pos (by omega), if_neg (by rw [c_332]; decide)])).symm) rfl G
        exact l_zret C0 G rfl dL_acts_378
    · skip
      have c_332 : (ccB (cs k).1 (cs k).2.1) = true := bI_t c_332
      refine lv_aload_n hx hb dL_acts_335 rfl (lv_at hl 4 rfl) ?_
      refine lv_iload_n hx hb dL_acts_336 rfl (lv_at hl 3 rfl) ?_
      refine l_callV (As := [.int (nI k)]) (rest := []) (cs' := va_up cs k (clF (cs k).1 (cs k).2.1, clB (cs k).1 (cs k).2.1, (cs k).2.2)) (hs' := ps cs (hs)) (r := .int (nI (pc (onW (clF (cs k).1 (cs k).2.1) (clB (cs k).1 (cs k).2.1) &&& rowM 7)))) C0 G (l_close l D cy ad tv cs (hs) k (by omega) c_332) k_X4_close ml_L_61 dL_acts_337 rfl rfl hl.1 (Nat.le_of_ble_eq_true rfl) ⟨Nat.le_of_ble_eq_true rfl, Nat.le_of_ble_eq_true rfl⟩ ⟨Nat.le_of_ble_eq_true rfl, Nat.le_of_ble_eq_true rfl⟩ (fun H locs G => ?_)
      obtain ⟨c1, hc1⟩ : ∃ g9 : Nat → Cd, g9 = va_up cs k (clF (cs k).1 (cs k).2.1, clB (cs k).1 (cs k).2.1, (cs k).2.2) := ⟨_, rfl⟩
      have G : gL D cy ad tv c1 (ps cs (hs)) A s _ _ := l_eq hc1.symm rfl G
      have ec1 : c1 k = (clF (cs k).1 (cs k).2.1, clB (cs k).1 (cs k).2.1, (cs k).2.2) := by rw [hc1]; exact va_up_e _ _ _
      refine lv_if_lt (tgt := 357) hx hb dL_acts_340 (by decide) (fun c_340 => ?_) (fun c_340 => ?_)
      · skip
        have c_340 : (pc (onW (clF (cs k).1 (cs k).2.1) (clB (cs k).1 (cs k).2.1) &&& rowM 7)) < 0 := (nI_ltI (a := pc (onW (clF (cs k).1 (cs k).2.1) (clB (cs k).1 (cs k).2.1) &&& rowM 7)) (b := 0) (by omega) (by omega)).mp c_340
        exact absurd c_340 (by omega)
      · skip
        have c_340 : ¬ ((pc (onW (clF (cs k).1 (cs k).2.1) (clB (cs k).1 (cs k).2.1) &&& rowM 7)) < 0) := fun h => c_340 ((nI_ltI (a := pc (onW (clF (cs k).1 (cs k).2.1) (clB (cs k).1 (cs k).2.1) &&& rowM 7)) (b := 0) (by omega) (by omega)).mpr h)
        refine lv_aload_n hx hb dL_acts_343 rfl (lv_at hl 4 rfl) ?_
        refine lv_iload_n hx hb dL_acts_344 rfl (lv_at hl 3 rfl) ?_
        refine l_callV (As := [.int (nI k)]) (rest := []) (cs' := c1) (hs' := ps cs (hs)) (r := .double (n64 (pc (sdW (c1 k).1 (c1 k).2.1)))) C0 G (l_soundShare l D cy ad tv c1 (ps cs (hs)) k (by omega)) k_X4_soundShare ml_L_64 dL_acts_345 rfl rfl hl.1 (Nat.le_of_ble_eq_true rfl) ⟨Nat.le_of_ble_eq_true rfl, Nat.le_of_ble_eq_true rfl⟩ ⟨Nat.le_of_ble_eq_true rfl, Nat.le_of_ble_eq_true rfl⟩ (fun H locs G => ?_)
        refine g_topv (x' := .double (n64 64)) (congrArg Value.double (by rw [ec1]; exact congrArg n64 (cl_sd c_332))) ?_
        refine lv_dconst1 hx hb dL_acts_348 ?_
        refine lv_dcmp hx hb dL_acts_349 ?_
        refine g_topi (x' := 0) dc_1 ?_
        refine lv_if_ne (tgt := 357) hx hb dL_acts_350 (by decide) (fun c_350 => ?_) (fun c_350 => ?_)
        · exact absurd c_350 (by decide)
        · skip
          refine lv_iconst (v := 1) hx hb dL_acts_353 (by decide) ?_
          refine lv_goto (tgt := 378) hx hb dL_acts_354 (by decide) ?_
          have G : gL D cy ad tv (actS px py cs) (ps cs hs) A s _ _ := l_eq (hc1.trans (hact.trans (by unfold actW; rw [if_neg (by omega), if_neg (by omega), if_neg (by omega), if_pos (by omega), if_pos c_332])).symm) rfl G
          exact l_zret C0 G rfl dL_acts_378
  by_cases s_39_4 : nn = 4
  · skip
    refine lv_tableIn (off := 288) (tgt := 327) hx hb dL_acts_39 (by rw [s_39_4]; decide) (by rw [s_39_4]; decide) (by rw [s_39_4]; rfl) (by decide) ?_
    refine lv_aload_n hx hb dL_acts_327 rfl (lv_at hl 4 rfl) ?_
    refine lv_iload_n hx hb dL_acts_328 rfl (lv_at hl 3 rfl) ?_
    refine l_callS (As := [.ref (ad 0), .int (nI k)]) (rest := []) (cs' := cs) (hs' := hs) (r := .int (bI (ccB (cs k).1 (cs k).2.1))) C0 G (h_canClose l D cy ad tv cs (hs) k (by omega)) k_L_canClose ml_L_57 dL_acts_329 rfl rfl hl.1 (Nat.le_of_ble_eq_true rfl) ⟨Nat.le_of_ble_eq_true rfl, Nat.le_of_ble_eq_true rfl⟩ ⟨Nat.le_of_ble_eq_true rfl, Nat.le_of_ble_eq_true rfl⟩ (fun H locs G => ?_)
    refine lv_if_eq (tgt := 361) hx hb dL_acts_332 (by decide) (fun c_332 => ?_) (fun c_332 => ?_)
    · skip
      have c_332 : (ccB (cs k).1 (cs k).2.1) = false := bI_f c_332
      refine lv_aload_n hx hb dL_acts_361 rfl (lv_at hl 4 rfl) ?_
      refine lv_iload_n hx hb dL_acts_362 rfl (lv_at hl 3 rfl) ?_
      refine lv_iload hx hb dL_acts_363 (lv_at hl 0 rfl) ?_
      refine l_callV (As := [.int (nI k), .int (nI ((cs k).2.2))]) (rest := []) (cs' := va_up cs k ((cs k).1, (cs k).2.1, ((cs k).2.2))) (hs' := ps cs (hs)) (r := .int (nI ((cs k).2.2))) C0 G (l_turn l D cy ad tv cs (hs) k ((cs k).2.2) (by omega) (by omega)) k_X4_turn ml_L_54 dL_acts_365 rfl rfl hl.1 (Nat.le_of_ble_eq_true rfl) ⟨Nat.le_of_ble_eq_true rfl, Nat.le_of_ble_eq_true rfl⟩ ⟨Nat.le_of_ble_eq_true rfl, Nat.le_of_ble_eq_true rfl⟩ (fun H locs G => ?_)
      obtain ⟨c1, hc1⟩ : ∃ g9 : Nat → Cd, g9 = va_up cs k ((cs k).1, (cs k).2.1, ((cs k).2.2)) := ⟨_, rfl⟩
      have G : gL D cy ad tv c1 (ps cs (hs)) A s _ _ := l_eq hc1.symm rfl G
      have ec1 : c1 k = ((cs k).1, (cs k).2.1, ((cs k).2.2)) := by rw [hc1]; exact va_up_e _ _ _
      refine lv_iload hx hb dL_acts_368 (lv_at hl 0 rfl) ?_
      refine lv_icmp_ne (tgt := 377) hx hb dL_acts_370 (by decide) (fun c_370 => ?_) (fun c_370 => ?_)
      · skip
        have c_370 : ¬ (((cs k).2.2) = ((cs k).2.2)) := fun h => c_370 ((nI_eq (a := (cs k).2.2) (b := (cs k).2.2) (by omega) (by omega)).mpr h)
        exact absurd rfl c_370
      · skip
        have c_370 : ((cs k).2.2) = ((cs k).2.2) := (nI_eq (a := (cs k).2.2) (b := (cs k).2.2) (by omega) (by omega)).mp c_370
        refine lv_iconst (v := 1) hx hb dL_acts_373 (by decide) ?_
        refine lv_goto (tgt := 378) hx hb dL_acts_374 (by decide) ?_
        have G : gL D cy ad tv (actS px py cs) (ps cs hs) A s _ _ := l_eq (hc1.trans (hact.trans (by unfold actW; rw [if_neg (by omega), if_neg (by omega), if_neg (by omega), if_pos (by omega), if_neg (by rw [c_332]; decide)])).symm) rfl G
        exact l_zret C0 G rfl dL_acts_378
    · skip
      have c_332 : (ccB (cs k).1 (cs k).2.1) = true := bI_t c_332
      refine lv_aload_n hx hb dL_acts_335 rfl (lv_at hl 4 rfl) ?_
      refine lv_iload_n hx hb dL_acts_336 rfl (lv_at hl 3 rfl) ?_
      refine l_callV (As := [.int (nI k)]) (rest := []) (cs' := va_up cs k (clF (cs k).1 (cs k).2.1, clB (cs k).1 (cs k).2.1, (cs k).2.2)) (hs' := ps cs (hs)) (r := .int (nI (pc (onW (clF (cs k).1 (cs k).2.1) (clB (cs k).1 (cs k).2.1) &&& rowM 7)))) C0 G (l_close l D cy ad tv cs (hs) k (by omega) c_332) k_X4_close ml_L_61 dL_acts_337 rfl rfl hl.1 (Nat.le_of_ble_eq_true rfl) ⟨Nat.le_of_ble_eq_true rfl, Nat.le_of_ble_eq_true rfl⟩ ⟨Nat.le_of_ble_eq_true rfl, Nat.le_of_ble_eq_true rfl⟩ (fun H locs G => ?_)
      obtain ⟨c1, hc1⟩ : ∃ g9 : Nat → Cd, g9 = va_up cs k (clF (cs k).1 (cs k).2.1, clB (cs k).1 (cs k).2.1, (cs k).2.2) := ⟨_, rfl⟩
      have G : gL D cy ad tv c1 (ps cs (hs)) A s _ _ := l_eq hc1.symm rfl G
      have ec1 : c1 k = (clF (cs k).1 (cs k).2.1, clB (cs k).1 (cs k).2.1, (cs k).2.2) := by rw [hc1]; exact va_up_e _ _ _
      refine lv_if_lt (tgt := 357) hx hb dL_acts_340 (by decide) (fun c_340 => ?_) (fun c_340 => ?_)
      · skip
        have c_340 : (pc (onW (clF (cs k).1 (cs k).2.1) (clB (cs k).1 (cs k).2.1) &&& rowM 7)) < 0 := (nI_ltI (a := pc (onW (clF (cs k).1 (cs k).2.1) (clB (cs k).1 (cs k).2.1) &&& rowM 7)) (b := 0) (by omega) (by omega)).mp c_340
        exact absurd c_340 (by omega)
      · skip
        have c_340 : ¬ ((pc (onW (clF (cs k).1 (cs k).2.1) (clB (cs k).1 (cs k).2.1) &&& rowM 7)) < 0) := fun h => c_340 ((nI_ltI (a := pc (onW (clF (cs k).1 (cs k).2.1) (clB (cs k).1 (cs k).2.1) &&& rowM 7)) (b := 0) (by omega) (by omega)).mpr h)
        refine lv_aload_n hx hb dL_acts_343 rfl (lv_at hl 4 rfl) ?_
        refine lv_iload_n hx hb dL_acts_344 rfl (lv_at hl 3 rfl) ?_
        refine l_callV (As := [.int (nI k)]) (rest := []) (cs' := c1) (hs' := ps cs (hs)) (r := .double (n64 (pc (sdW (c1 k).1 (c1 k).2.1)))) C0 G (l_soundShare l D cy ad tv c1 (ps cs (hs)) k (by omega)) k_X4_soundShare ml_L_64 dL_acts_345 rfl rfl hl.1 (Nat.le_of_ble_eq_true rfl) ⟨Nat.le_of_ble_eq_true rfl, Nat.le_of_ble_eq_true rfl⟩ ⟨Nat.le_of_ble_eq_true rfl, Nat.le_of_ble_eq_true rfl⟩ (fun H locs G => ?_)
        refine g_topv (x' := .double (n64 64)) (congrArg Value.double (by rw [ec1]; exact congrArg n64 (cl_sd c_332))) ?_
        refine lv_dconst1 hx hb dL_acts_348 ?_
        refine lv_dcmp hx hb dL_acts_349 ?_
        refine g_topi (x' := 0) dc_1 ?_
        refine lv_if_ne (tgt := 357) hx hb dL_acts_350 (by decide) (fun c_350 => ?_) (fun c_350 => ?_)
        · exact absurd c_350 (by decide)
        · skip
          refine lv_iconst (v := 1) hx hb dL_acts_353 (by decide) ?_
          refine lv_goto (tgt := 378) hx hb dL_acts_354 (by decide) ?_
          have G : gL D cy ad tv (actS px py cs) (ps cs hs) A s _ _ := l_eq (hc1.trans (hact.trans (by unfold actW; rw [if_neg (by omega), if_neg (by omega), if_neg (by omega), if_pos (by omega), if_pos c_332])).symm) rfl G
          exact l_zret C0 G rfl dL_acts_378
  by_cases s_39_5 : nn = 5
  · skip
    refine lv_tableIn (off := 340) (tgt := 379) hx hb dL_acts_39 (by rw [s_39_5]; decide) (by rw [s_39_5]; decide) (by rw [s_39_5]; rfl) (by decide) ?_
    refine lv_aload_n hx hb dL_acts_379 rfl (lv_at hl 4 rfl) ?_
    refine lv_iload_n hx hb dL_acts_380 rfl (lv_at hl 3 rfl) ?_
    refine lv_iload hx hb dL_acts_381 (lv_at hl 2 rfl) ?_
    refine lv_iload hx hb dL_acts_383 (lv_at hl 1 rfl) ?_
    refine l_callV (As := [.int (nI k), .int (nI r), .int (nI q)]) (rest := []) (cs' := cs) (hs' := hs) (r := .int (bI (shB1 (cs k).1 (cs k).2.1 (cs k).2.2 r q))) C0 G (l_sees l D cy ad tv cs (hs) k r q (by omega) (by omega) (by omega) hvk) k_X4_sees ml_L_68 dL_acts_385 rfl rfl hl.1 (Nat.le_of_ble_eq_true rfl) ⟨Nat.le_of_ble_eq_true rfl, Nat.le_of_ble_eq_true rfl⟩ ⟨Nat.le_of_ble_eq_true rfl, Nat.le_of_ble_eq_true rfl⟩ (fun H locs G => ?_)
    refine lv_istore (lv' := [(12, .int (bI (shB1 (cs k).1 (cs k).2.1 (cs k).2.2 r q))), (6, .int (nI ((cs k).2.2))), (5, .int (nI q)), (4, .int (nI r)), (3, .int (nI k)), (0, .ref (ad 0)), (1, .int px), (2, .int py)]) hx hb dL_acts_388 hl (by decide) rfl (fun ls hl => ?_)
    refine lv_aload_n hx hb dL_acts_390 rfl (lv_at hl 5 rfl) ?_
    refine lv_iload_n hx hb dL_acts_391 rfl (lv_at hl 4 rfl) ?_
    refine lv_iload hx hb dL_acts_392 (lv_at hl 3 rfl) ?_
    refine l_callV (As := [.int (nI k), .int (nI r)]) (rest := []) (cs' := cs) (hs' := hs) (r := .int (nI (rwN (cs k).1 (cs k).2.1 (cs k).2.2 r 8))) C0 G (l_raw l D cy ad tv cs (hs) k r (by omega) (by omega) hvk) k_X4_raw ml_L_72 dL_acts_394 rfl rfl hl.1 (Nat.le_of_ble_eq_true rfl) ⟨Nat.le_of_ble_eq_true rfl, Nat.le_of_ble_eq_true rfl⟩ ⟨Nat.le_of_ble_eq_true rfl, Nat.le_of_ble_eq_true rfl⟩ (fun H locs G => ?_)
    refine g_topi (x' := nI (by8 (shB1 (cs k).1 (cs k).2.1 (cs k).2.2 r) 8)) (congrArg nI (rw_by _ _ _ _ _)) ?_
    refine lv_istore (lv' := [(13, .int (nI (by8 (shB1 (cs k).1 (cs k).2.1 (cs k).2.2 r) 8))), (12, .int (bI (shB1 (cs k).1 (cs k).2.1 (cs k).2.2 r q))), (6, .int (nI ((cs k).2.2))), (5, .int (nI q)), (4, .int (nI r)), (3, .int (nI k)), (0, .ref (ad 0)), (1, .int px), (2, .int py)]) hx hb dL_acts_397 hl (by decide) rfl (fun ls hl => ?_)
    refine lv_iload hx hb dL_acts_399 (lv_at hl 1 rfl) ?_
    refine lv_if_eq (tgt := 416) hx hb dL_acts_401 (by decide) (fun c_401 => ?_) (fun c_401 => ?_)
    · skip
      have c_401 : (shB1 (cs k).1 (cs k).2.1 (cs k).2.2 r q) = false := bI_f c_401
      refine lv_aload_n hx hb dL_acts_416 rfl (lv_at hl 6 rfl) ?_
      refine lv_iload_n hx hb dL_acts_417 rfl (lv_at hl 5 rfl) ?_
      refine lv_iload hx hb dL_acts_418 (lv_at hl 4 rfl) ?_
      refine lv_iload hx hb dL_acts_420 (lv_at hl 3 rfl) ?_
      refine l_callV (As := [.int (nI k), .int (nI r), .int (nI q)]) (rest := []) (cs' := va_up cs k (shF (cs k).1 (sbB (cs k).2.2) (scN (cs k).2.2 r q) true, shB (cs k).2.1 (sbB (cs k).2.2) (scN (cs k).2.2 r q) true, (cs k).2.2)) (hs' := ps cs (hs)) (r := .int (nI (kdN (shF (cs k).1 (sbB (cs k).2.2) (scN (cs k).2.2 r q) true) (shB (cs k).2.1 (sbB (cs k).2.2) (scN (cs k).2.2 r q) true) (scN (cs k).2.2 r q)))) C0 G (l_wear l D cy ad tv cs (hs) k r q (by omega) (by omega) (by omega) hvk c_401) k_X4_wear ml_L_78 dL_acts_422 rfl rfl hl.1 (Nat.le_of_ble_eq_true rfl) ⟨Nat.le_of_ble_eq_true rfl, Nat.le_of_ble_eq_true rfl⟩ ⟨Nat.le_of_ble_eq_true rfl, Nat.le_of_ble_eq_true rfl⟩ (fun H locs G => ?_)
      obtain ⟨c1, hc1⟩ : ∃ g9 : Nat → Cd, g9 = va_up cs k (shF (cs k).1 (sbB (cs k).2.2) (scN (cs k).2.2 r q) true, shB (cs k).2.1 (sbB (cs k).2.2) (scN (cs k).2.2 r q) true, (cs k).2.2) := ⟨_, rfl⟩
      have G : gL D cy ad tv c1 (ps cs (hs)) A s _ _ := l_eq hc1.symm rfl G
      have ec1 : c1 k = (shF (cs k).1 (sbB (cs k).2.2) (scN (cs k).2.2 r q) true, shB (cs k).2.1 (sbB (cs k).2.2) (scN (cs k).2.2 r q) true, (cs k).2.2) := by rw [hc1]; exact va_up_e _ _ _
      obtain ⟨g, hg, eg⟩ : ∃ g9 : Nat, g9 < 4 ∧ kdN (shF (cs k).1 (sbB (cs k).2.2) (scN (cs k).2.2 r q) true) (shB (cs k).2.1 (sbB (cs k).2.2) (scN (cs k).2.2 r q) true) (scN (cs k).2.2 r q) = g9 := ⟨_, kdN_lt _ _ _, rfl⟩
      refine g_topi (x' := nI g) (congrArg nI eg) ?_
      refine lv_istore (lv' := [(14, .int (nI g)), (13, .int (nI (by8 (shB1 (cs k).1 (cs k).2.1 (cs k).2.2 r) 8))), (12, .int (bI (shB1 (cs k).1 (cs k).2.1 (cs k).2.2 r q))), (6, .int (nI ((cs k).2.2))), (5, .int (nI q)), (4, .int (nI r)), (3, .int (nI k)), (0, .ref (ad 0)), (1, .int px), (2, .int py)]) hx hb dL_acts_425 hl (by decide) rfl (fun ls hl => ?_)
      refine lv_iload hx hb dL_acts_427 (lv_at hl 0 rfl) ?_
      refine lv_if_lt (tgt := 498) hx hb dL_acts_429 (by decide) (fun c_429 => ?_) (fun c_429 => ?_)
      · skip
        have c_429 : g < 0 := (nI_ltI (a := g) (b := 0) (by omega) (by omega)).mp c_429
        exact absurd c_429 (by omega)
      · skip
        have c_429 : ¬ (g < 0) := fun h => c_429 ((nI_ltI (a := g) (b := 0) (by omega) (by omega)).mpr h)
        refine lv_iload hx hb dL_acts_432 (lv_at hl 0 rfl) ?_
        refine lv_iconst (v := 3) hx hb dL_acts_434 (by decide) ?_
        refine lv_icmp_gt (tgt := 498) hx hb dL_acts_435 (by decide) (fun c_435 => ?_) (fun c_435 => ?_)
        · skip
          have c_435 : 3 < g := (nI_ltI (a := 3) (b := g) (by omega) (by omega)).mp c_435
          exact absurd c_435 (by omega)
        · skip
          have c_435 : ¬ (3 < g) := fun h => c_435 ((nI_ltI (a := 3) (b := g) (by omega) (by omega)).mpr h)
          refine lv_aload_n hx hb dL_acts_438 rfl (lv_at hl 7 rfl) ?_
          refine lv_iload_n hx hb dL_acts_439 rfl (lv_at hl 6 rfl) ?_
          refine lv_iload hx hb dL_acts_440 (lv_at hl 5 rfl) ?_
          refine lv_iload hx hb dL_acts_442 (lv_at hl 4 rfl) ?_
          refine l_callV (As := [.int (nI k), .int (nI r), .int (nI q)]) (rest := []) (cs' := c1) (hs' := ps cs (hs)) (r := .int (bI (shB1 (c1 k).1 (c1 k).2.1 (c1 k).2.2 r q))) C0 G (l_sees l D cy ad tv c1 (ps cs (hs)) k r q (by omega) (by omega) (by omega) (by rw [ec1]; exact hvk)) k_X4_sees ml_L_68 dL_acts_444 rfl rfl hl.1 (Nat.le_of_ble_eq_true rfl) ⟨Nat.le_of_ble_eq_true rfl, Nat.le_of_ble_eq_true rfl⟩ ⟨Nat.le_of_ble_eq_true rfl, Nat.le_of_ble_eq_true rfl⟩ (fun H locs G => ?_)
          refine g_topi (x' := 1) (by rw [ec1]; exact congrArg bI ((sh_set h_r h_q h_q).trans (if_pos rfl))) ?_
          refine lv_iload hx hb dL_acts_447 (lv_at hl 2 rfl) ?_
          refine lv_if_ne (tgt := 456) hx hb dL_acts_449 (by decide) (fun c_449 => ?_) (fun c_449 => ?_)
          · skip
            have c_449 : (shB1 (cs k).1 (cs k).2.1 (cs k).2.2 r q) = true := bI_t c_449
            exact absurd (c_401.symm.trans c_449) (by decide)
          · skip
            have c_449 : (shB1 (cs k).1 (cs k).2.1 (cs k).2.2 r q) = false := bI_f c_449
            refine lv_iconst (v := 1) hx hb dL_acts_452 (by decide) ?_
            refine lv_goto (tgt := 457) hx hb dL_acts_453 (by decide) ?_
            refine lv_icmp_ne (tgt := 498) hx hb dL_acts_457 (by decide) (fun c_457 => ?_) (fun c_457 => ?_)
            · exact absurd c_457 (by decide)
            · skip
              refine lv_aload_n hx hb dL_acts_460 rfl (lv_at hl 7 rfl) ?_
              refine lv_iload_n hx hb dL_acts_461 rfl (lv_at hl 6 rfl) ?_
              refine lv_iload hx hb dL_acts_462 (lv_at hl 5 rfl) ?_
              refine l_callV (As := [.int (nI k), .int (nI r)]) (rest := []) (cs' := c1) (hs' := ps cs (hs)) (r := .int (nI (rwN (c1 k).1 (c1 k).2.1 (c1 k).2.2 r 8))) C0 G (l_raw l D cy ad tv c1 (ps cs (hs)) k r (by omega) (by omega) (by rw [ec1]; exact hvk)) k_X4_raw ml_L_72 dL_acts_464 rfl rfl hl.1 (Nat.le_of_ble_eq_true rfl) ⟨Nat.le_of_ble_eq_true rfl, Nat.le_of_ble_eq_true rfl⟩ ⟨Nat.le_of_ble_eq_true rfl, Nat.le_of_ble_eq_true rfl⟩ (fun H locs G => ?_)
              have hrx : rwN (c1 k).1 (c1 k).2.1 (c1 k).2.2 r 8 < 256 := by rw [rw_by]; exact by8_lt _
              refine lv_iload hx hb dL_acts_467 (lv_at hl 1 rfl) ?_
              refine lv_iload hx hb dL_acts_469 (lv_at hl 2 rfl) ?_
              refine lv_if_eq (tgt := 484) hx hb dL_acts_471 (by decide) (fun c_471 => ?_) (fun c_471 => ?_)
              · skip
                have c_471 : (shB1 (cs k).1 (cs k).2.1 (cs k).2.2 r q) = false := bI_f c_471
                refine lv_sipush (v := 128) hx hb dL_acts_484 (by decide) ?_
                refine lv_iload hx hb dL_acts_487 (lv_at hl 4 rfl) ?_
                refine lv_ishr hx hb dL_acts_489 ?_
                refine g_topi (x' := nI (128 / 2 ^ q)) (shrN (a := 128) (n := q) (by omega) (by omega)) ?_
                refine lv_iadd hx hb dL_acts_490 ?_
                refine g_topi (x' := nI (rwN (c1 k).1 (c1 k).2.1 (c1 k).2.2 r 8)) (by rw [nI_add, ← raw_we h_r h_q c_401]; simp only [ec1]) ?_
                refine lv_icmp_ne (tgt := 498) hx hb dL_acts_491 (by decide) (fun c_491 => ?_) (fun c_491 => ?_)
                · skip
                  have c_491 : ¬ ((rwN (c1 k).1 (c1 k).2.1 (c1 k).2.2 r 8) = (rwN (c1 k).1 (c1 k).2.1 (c1 k).2.2 r 8)) := fun h => c_491 ((nI_eq (a := rwN (c1 k).1 (c1 k).2.1 (c1 k).2.2 r 8) (b := rwN (c1 k).1 (c1 k).2.1 (c1 k).2.2 r 8) (by omega) (by omega)).mpr h)
                  exact absurd rfl c_491
                · skip
                  have c_491 : (rwN (c1 k).1 (c1 k).2.1 (c1 k).2.2 r 8) = (rwN (c1 k).1 (c1 k).2.1 (c1 k).2.2 r 8) := (nI_eq (a := rwN (c1 k).1 (c1 k).2.1 (c1 k).2.2 r 8) (b := rwN (c1 k).1 (c1 k).2.1 (c1 k).2.2 r 8) (by omega) (by omega)).mp c_491
                  refine lv_iconst (v := 1) hx hb dL_acts_494 (by decide) ?_
                  refine lv_goto (tgt := 499) hx hb dL_acts_495 (by decide) ?_
                  have G : gL D cy ad tv (actS px py cs) (ps cs hs) A s _ _ := l_eq (hc1.trans (hact.trans (by unfold actW; rw [if_neg (by omega), if_neg (by omega), if_neg (by omega), if_neg (by omega), if_pos (by omega), c_401, Bool.not_false])).symm) rfl G
                  exact l_zret C0 G rfl dL_acts_499
              · skip
                have c_471 : (shB1 (cs k).1 (cs k).2.1 (cs k).2.2 r q) = true := bI_t c_471
                exact absurd (c_401.symm.trans c_471) (by decide)
    · skip
      have c_401 : (shB1 (cs k).1 (cs k).2.1 (cs k).2.2 r q) = true := bI_t c_401
      refine lv_aload_n hx hb dL_acts_404 rfl (lv_at hl 6 rfl) ?_
      refine lv_iload_n hx hb dL_acts_405 rfl (lv_at hl 5 rfl) ?_
      refine lv_iload hx hb dL_acts_406 (lv_at hl 4 rfl) ?_
      refine lv_iload hx hb dL_acts_408 (lv_at hl 3 rfl) ?_
      refine l_callV (As := [.int (nI k), .int (nI r), .int (nI q)]) (rest := []) (cs' := va_up cs k (shF (cs k).1 (sbB (cs k).2.2) (scN (cs k).2.2 r q) false, shB (cs k).2.1 (sbB (cs k).2.2) (scN (cs k).2.2 r q) false, (cs k).2.2)) (hs' := ps cs (hs)) (r := .int (nI (kdN (shF (cs k).1 (sbB (cs k).2.2) (scN (cs k).2.2 r q) false) (shB (cs k).2.1 (sbB (cs k).2.2) (scN (cs k).2.2 r q) false) (scN (cs k).2.2 r q)))) C0 G (l_lose l D cy ad tv cs (hs) k r q (by omega) (by omega) (by omega) hvk c_401) k_X4_lose ml_L_75 dL_acts_410 rfl rfl hl.1 (Nat.le_of_ble_eq_true rfl) ⟨Nat.le_of_ble_eq_true rfl, Nat.le_of_ble_eq_true rfl⟩ ⟨Nat.le_of_ble_eq_true rfl, Nat.le_of_ble_eq_true rfl⟩ (fun H locs G => ?_)
      obtain ⟨c1, hc1⟩ : ∃ g9 : Nat → Cd, g9 = va_up cs k (shF (cs k).1 (sbB (cs k).2.2) (scN (cs k).2.2 r q) false, shB (cs k).2.1 (sbB (cs k).2.2) (scN (cs k).2.2 r q) false, (cs k).2.2) := ⟨_, rfl⟩
      have G : gL D cy ad tv c1 (ps cs (hs)) A s _ _ := l_eq hc1.symm rfl G
      have ec1 : c1 k = (shF (cs k).1 (sbB (cs k).2.2) (scN (cs k).2.2 r q) false, shB (cs k).2.1 (sbB (cs k).2.2) (scN (cs k).2.2 r q) false, (cs k).2.2) := by rw [hc1]; exact va_up_e _ _ _
      refine lv_goto (tgt := 425) hx hb dL_acts_413 (by decide) ?_
      obtain ⟨g, hg, eg⟩ : ∃ g9 : Nat, g9 < 4 ∧ kdN (shF (cs k).1 (sbB (cs k).2.2) (scN (cs k).2.2 r q) false) (shB (cs k).2.1 (sbB (cs k).2.2) (scN (cs k).2.2 r q) false) (scN (cs k).2.2 r q) = g9 := ⟨_, kdN_lt _ _ _, rfl⟩
      refine g_topi (x' := nI g) (congrArg nI eg) ?_
      refine lv_istore (lv' := [(14, .int (nI g)), (13, .int (nI (by8 (shB1 (cs k).1 (cs k).2.1 (cs k).2.2 r) 8))), (12, .int (bI (shB1 (cs k).1 (cs k).2.1 (cs k).2.2 r q))), (6, .int (nI ((cs k).2.2))), (5, .int (nI q)), (4, .int (nI r)), (3, .int (nI k)), (0, .ref (ad 0)), (1, .int px), (2, .int py)]) hx hb dL_acts_425 hl (by decide) rfl (fun ls hl => ?_)
      refine lv_iload hx hb dL_acts_427 (lv_at hl 0 rfl) ?_
      refine lv_if_lt (tgt := 498) hx hb dL_acts_429 (by decide) (fun c_429 => ?_) (fun c_429 => ?_)
      · skip
        have c_429 : g < 0 := (nI_ltI (a := g) (b := 0) (by omega) (by omega)).mp c_429
        exact absurd c_429 (by omega)
      · skip
        have c_429 : ¬ (g < 0) := fun h => c_429 ((nI_ltI (a := g) (b := 0) (by omega) (by omega)).mpr h)
        refine lv_iload hx hb dL_acts_432 (lv_at hl 0 rfl) ?_
        refine lv_iconst (v := 3) hx hb dL_acts_434 (by decide) ?_
        refine lv_icmp_gt (tgt := 498) hx hb dL_acts_435 (by decide) (fun c_435 => ?_) (fun c_435 => ?_)
        · skip
          have c_435 : 3 < g := (nI_ltI (a := 3) (b := g) (by omega) (by omega)).mp c_435
          exact absurd c_435 (by omega)
        · skip
          have c_435 : ¬ (3 < g) := fun h => c_435 ((nI_ltI (a := 3) (b := g) (by omega) (by omega)).mpr h)
          refine lv_aload_n hx hb dL_acts_438 rfl (lv_at hl 7 rfl) ?_
          refine lv_iload_n hx hb dL_acts_439 rfl (lv_at hl 6 rfl) ?_
          refine lv_iload hx hb dL_acts_440 (lv_at hl 5 rfl) ?_
          refine lv_iload hx hb dL_acts_442 (lv_at hl 4 rfl) ?_
          refine l_callV (As := [.int (nI k), .int (nI r), .int (nI q)]) (rest := []) (cs' := c1) (hs' := ps cs (hs)) (r := .int (bI (shB1 (c1 k).1 (c1 k).2.1 (c1 k).2.2 r q))) C0 G (l_sees l D cy ad tv c1 (ps cs (hs)) k r q (by omega) (by omega) (by omega) (by rw [ec1]; exact hvk)) k_X4_sees ml_L_68 dL_acts_444 rfl rfl hl.1 (Nat.le_of_ble_eq_true rfl) ⟨Nat.le_of_ble_eq_true rfl, Nat.le_of_ble_eq_true rfl⟩ ⟨Nat.le_of_ble_eq_true rfl, Nat.le_of_ble_eq_true rfl⟩ (fun H locs G => ?_)
          refine g_topi (x' := 0) (by rw [ec1]; exact congrArg bI ((sh_set h_r h_q h_q).trans (if_pos rfl))) ?_
          refine lv_iload hx hb dL_acts_447 (lv_at hl 2 rfl) ?_
          refine lv_if_ne (tgt := 456) hx hb dL_acts_449 (by decide) (fun c_449 => ?_) (fun c_449 => ?_)
          · skip
            have c_449 : (shB1 (cs k).1 (cs k).2.1 (cs k).2.2 r q) = true := bI_t c_449
            refine lv_iconst (v := 0) hx hb dL_acts_456 (by decide) ?_
            refine lv_icmp_ne (tgt := 498) hx hb dL_acts_457 (by decide) (fun c_457 => ?_) (fun c_457 => ?_)
            · exact absurd c_457 (by decide)
            · skip
              refine lv_aload_n hx hb dL_acts_460 rfl (lv_at hl 7 rfl) ?_
              refine lv_iload_n hx hb dL_acts_461 rfl (lv_at hl 6 rfl) ?_
              refine lv_iload hx hb dL_acts_462 (lv_at hl 5 rfl) ?_
              refine l_callV (As := [.int (nI k), .int (nI r)]) (rest := []) (cs' := c1) (hs' := ps cs (hs)) (r := .int (nI (rwN (c1 k).1 (c1 k).2.1 (c1 k).2.2 r 8))) C0 G (l_raw l D cy ad tv c1 (ps cs (hs)) k r (by omega) (by omega) (by rw [ec1]; exact hvk)) k_X4_raw ml_L_72 dL_acts_464 rfl rfl hl.1 (Nat.le_of_ble_eq_true rfl) ⟨Nat.le_of_ble_eq_true rfl, Nat.le_of_ble_eq_true rfl⟩ ⟨Nat.le_of_ble_eq_true rfl, Nat.le_of_ble_eq_true rfl⟩ (fun H locs G => ?_)
              have hrx : rwN (c1 k).1 (c1 k).2.1 (c1 k).2.2 r 8 < 256 := by rw [rw_by]; exact by8_lt _
              refine lv_iload hx hb dL_acts_467 (lv_at hl 1 rfl) ?_
              refine lv_iload hx hb dL_acts_469 (lv_at hl 2 rfl) ?_
              refine lv_if_eq (tgt := 484) hx hb dL_acts_471 (by decide) (fun c_471 => ?_) (fun c_471 => ?_)
              · skip
                have c_471 : (shB1 (cs k).1 (cs k).2.1 (cs k).2.2 r q) = false := bI_f c_471
                exact absurd (c_401.symm.trans c_471) (by decide)
              · skip
                have c_471 : (shB1 (cs k).1 (cs k).2.1 (cs k).2.2 r q) = true := bI_t c_471
                refine lv_sipush (v := 128) hx hb dL_acts_474 (by decide) ?_
                refine lv_iload hx hb dL_acts_477 (lv_at hl 4 rfl) ?_
                refine lv_ishr hx hb dL_acts_479 ?_
                refine g_topi (x' := nI (128 / 2 ^ q)) (shrN (a := 128) (n := q) (by omega) (by omega)) ?_
                refine lv_ineg hx hb dL_acts_480 ?_
                refine lv_goto (tgt := 490) hx hb dL_acts_481 (by decide) ?_
                refine lv_iadd hx hb dL_acts_490 ?_
                refine g_topi (x' := nI (rwN (c1 k).1 (c1 k).2.1 (c1 k).2.2 r 8)) (by rw [← raw_lo h_r h_q c_401, ng_sub]; simp only [ec1]) ?_
                refine lv_icmp_ne (tgt := 498) hx hb dL_acts_491 (by decide) (fun c_491 => ?_) (fun c_491 => ?_)
                · skip
                  have c_491 : ¬ ((rwN (c1 k).1 (c1 k).2.1 (c1 k).2.2 r 8) = (rwN (c1 k).1 (c1 k).2.1 (c1 k).2.2 r 8)) := fun h => c_491 ((nI_eq (a := rwN (c1 k).1 (c1 k).2.1 (c1 k).2.2 r 8) (b := rwN (c1 k).1 (c1 k).2.1 (c1 k).2.2 r 8) (by omega) (by omega)).mpr h)
                  exact absurd rfl c_491
                · skip
                  have c_491 : (rwN (c1 k).1 (c1 k).2.1 (c1 k).2.2 r 8) = (rwN (c1 k).1 (c1 k).2.1 (c1 k).2.2 r 8) := (nI_eq (a := rwN (c1 k).1 (c1 k).2.1 (c1 k).2.2 r 8) (b := rwN (c1 k).1 (c1 k).2.1 (c1 k).2.2 r 8) (by omega) (by omega)).mp c_491
                  refine lv_iconst (v := 1) hx hb dL_acts_494 (by decide) ?_
                  refine lv_goto (tgt := 499) hx hb dL_acts_495 (by decide) ?_
                  have G : gL D cy ad tv (actS px py cs) (ps cs hs) A s _ _ := l_eq (hc1.trans (hact.trans (by unfold actW; rw [if_neg (by omega), if_neg (by omega), if_neg (by omega), if_neg (by omega), if_pos (by omega), c_401, Bool.not_true])).symm) rfl G
                  exact l_zret C0 G rfl dL_acts_499
          · skip
            have c_449 : (shB1 (cs k).1 (cs k).2.1 (cs k).2.2 r q) = false := bI_f c_449
            exact absurd (c_401.symm.trans c_449) (by decide)
  by_cases s_39_6 : nn = 6
  · skip
    refine lv_tableIn (off := 340) (tgt := 379) hx hb dL_acts_39 (by rw [s_39_6]; decide) (by rw [s_39_6]; decide) (by rw [s_39_6]; rfl) (by decide) ?_
    refine lv_aload_n hx hb dL_acts_379 rfl (lv_at hl 4 rfl) ?_
    refine lv_iload_n hx hb dL_acts_380 rfl (lv_at hl 3 rfl) ?_
    refine lv_iload hx hb dL_acts_381 (lv_at hl 2 rfl) ?_
    refine lv_iload hx hb dL_acts_383 (lv_at hl 1 rfl) ?_
    refine l_callV (As := [.int (nI k), .int (nI r), .int (nI q)]) (rest := []) (cs' := cs) (hs' := hs) (r := .int (bI (shB1 (cs k).1 (cs k).2.1 (cs k).2.2 r q))) C0 G (l_sees l D cy ad tv cs (hs) k r q (by omega) (by omega) (by omega) hvk) k_X4_sees ml_L_68 dL_acts_385 rfl rfl hl.1 (Nat.le_of_ble_eq_true rfl) ⟨Nat.le_of_ble_eq_true rfl, Nat.le_of_ble_eq_true rfl⟩ ⟨Nat.le_of_ble_eq_true rfl, Nat.le_of_ble_eq_true rfl⟩ (fun H locs G => ?_)
    refine lv_istore (lv' := [(12, .int (bI (shB1 (cs k).1 (cs k).2.1 (cs k).2.2 r q))), (6, .int (nI ((cs k).2.2))), (5, .int (nI q)), (4, .int (nI r)), (3, .int (nI k)), (0, .ref (ad 0)), (1, .int px), (2, .int py)]) hx hb dL_acts_388 hl (by decide) rfl (fun ls hl => ?_)
    refine lv_aload_n hx hb dL_acts_390 rfl (lv_at hl 5 rfl) ?_
    refine lv_iload_n hx hb dL_acts_391 rfl (lv_at hl 4 rfl) ?_
    refine lv_iload hx hb dL_acts_392 (lv_at hl 3 rfl) ?_
    refine l_callV (As := [.int (nI k), .int (nI r)]) (rest := []) (cs' := cs) (hs' := hs) (r := .int (nI (rwN (cs k).1 (cs k).2.1 (cs k).2.2 r 8))) C0 G (l_raw l D cy ad tv cs (hs) k r (by omega) (by omega) hvk) k_X4_raw ml_L_72 dL_acts_394 rfl rfl hl.1 (Nat.le_of_ble_eq_true rfl) ⟨Nat.le_of_ble_eq_true rfl, Nat.le_of_ble_eq_true rfl⟩ ⟨Nat.le_of_ble_eq_true rfl, Nat.le_of_ble_eq_true rfl⟩ (fun H locs G => ?_)
    refine g_topi (x' := nI (by8 (shB1 (cs k).1 (cs k).2.1 (cs k).2.2 r) 8)) (congrArg nI (rw_by _ _ _ _ _)) ?_
    refine lv_istore (lv' := [(13, .int (nI (by8 (shB1 (cs k).1 (cs k).2.1 (cs k).2.2 r) 8))), (12, .int (bI (shB1 (cs k).1 (cs k).2.1 (cs k).2.2 r q))), (6, .int (nI ((cs k).2.2))), (5, .int (nI q)), (4, .int (nI r)), (3, .int (nI k)), (0, .ref (ad 0)), (1, .int px), (2, .int py)]) hx hb dL_acts_397 hl (by decide) rfl (fun ls hl => ?_)
    refine lv_iload hx hb dL_acts_399 (lv_at hl 1 rfl) ?_
    refine lv_if_eq (tgt := 416) hx hb dL_acts_401 (by decide) (fun c_401 => ?_) (fun c_401 => ?_)
    · skip
      have c_401 : (shB1 (cs k).1 (cs k).2.1 (cs k).2.2 r q) = false := bI_f c_401
      refine lv_aload_n hx hb dL_acts_416 rfl (lv_at hl 6 rfl) ?_
      refine lv_iload_n hx hb dL_acts_417 rfl (lv_at hl 5 rfl) ?_
      refine lv_iload hx hb dL_acts_418 (lv_at hl 4 rfl) ?_
      refine lv_iload hx hb dL_acts_420 (lv_at hl 3 rfl) ?_
      refine l_callV (As := [.int (nI k), .int (nI r), .int (nI q)]) (rest := []) (cs' := va_up cs k (shF (cs k).1 (sbB (cs k).2.2) (scN (cs k).2.2 r q) true, shB (cs k).2.1 (sbB (cs k).2.2) (scN (cs k).2.2 r q) true, (cs k).2.2)) (hs' := ps cs (hs)) (r := .int (nI (kdN (shF (cs k).1 (sbB (cs k).2.2) (scN (cs k).2.2 r q) true) (shB (cs k).2.1 (sbB (cs k).2.2) (scN (cs k).2.2 r q) true) (scN (cs k).2.2 r q)))) C0 G (l_wear l D cy ad tv cs (hs) k r q (by omega) (by omega) (by omega) hvk c_401) k_X4_wear ml_L_78 dL_acts_422 rfl rfl hl.1 (Nat.le_of_ble_eq_true rfl) ⟨Nat.le_of_ble_eq_true rfl, Nat.le_of_ble_eq_true rfl⟩ ⟨Nat.le_of_ble_eq_true rfl, Nat.le_of_ble_eq_true rfl⟩ (fun H locs G => ?_)
      obtain ⟨c1, hc1⟩ : ∃ g9 : Nat → Cd, g9 = va_up cs k (shF (cs k).1 (sbB (cs k).2.2) (scN (cs k).2.2 r q) true, shB (cs k).2.1 (sbB (cs k).2.2) (scN (cs k).2.2 r q) true, (cs k).2.2) := ⟨_, rfl⟩
      have G : gL D cy ad tv c1 (ps cs (hs)) A s _ _ := l_eq hc1.symm rfl G
      have ec1 : c1 k = (shF (cs k).1 (sbB (cs k).2.2) (scN (cs k).2.2 r q) true, shB (cs k).2.1 (sbB (cs k).2.2) (scN (cs k).2.2 r q) true, (cs k).2.2) := by rw [hc1]; exact va_up_e _ _ _
      obtain ⟨g, hg, eg⟩ : ∃ g9 : Nat, g9 < 4 ∧ kdN (shF (cs k).1 (sbB (cs k).2.2) (scN (cs k).2.2 r q) true) (shB (cs k).2.1 (sbB (cs k).2.2) (scN (cs k).2.2 r q) true) (scN (cs k).2.2 r q) = g9 := ⟨_, kdN_lt _ _ _, rfl⟩
      refine g_topi (x' := nI g) (congrArg nI eg) ?_
      refine lv_istore (lv' := [(14, .int (nI g)), (13, .int (nI (by8 (shB1 (cs k).1 (cs k).2.1 (cs k).2.2 r) 8))), (12, .int (bI (shB1 (cs k).1 (cs k).2.1 (cs k).2.2 r q))), (6, .int (nI ((cs k).2.2))), (5, .int (nI q)), (4, .int (nI r)), (3, .int (nI k)), (0, .ref (ad 0)), (1, .int px), (2, .int py)]) hx hb dL_acts_425 hl (by decide) rfl (fun ls hl => ?_)
      refine lv_iload hx hb dL_acts_427 (lv_at hl 0 rfl) ?_
      refine lv_if_lt (tgt := 498) hx hb dL_acts_429 (by decide) (fun c_429 => ?_) (fun c_429 => ?_)
      · skip
        have c_429 : g < 0 := (nI_ltI (a := g) (b := 0) (by omega) (by omega)).mp c_429
        exact absurd c_429 (by omega)
      · skip
        have c_429 : ¬ (g < 0) := fun h => c_429 ((nI_ltI (a := g) (b := 0) (by omega) (by omega)).mpr h)
        refine lv_iload hx hb dL_acts_432 (lv_at hl 0 rfl) ?_
        refine lv_iconst (v := 3) hx hb dL_acts_434 (by decide) ?_
        refine lv_icmp_gt (tgt := 498) hx hb dL_acts_435 (by decide) (fun c_435 => ?_) (fun c_435 => ?_)
        · skip
          have c_435 : 3 < g := (nI_ltI (a := 3) (b := g) (by omega) (by omega)).mp c_435
          exact absurd c_435 (by omega)
        · skip
          have c_435 : ¬ (3 < g) := fun h => c_435 ((nI_ltI (a := 3) (b := g) (by omega) (by omega)).mpr h)
          refine lv_aload_n hx hb dL_acts_438 rfl (lv_at hl 7 rfl) ?_
          refine lv_iload_n hx hb dL_acts_439 rfl (lv_at hl 6 rfl) ?_
          refine lv_iload hx hb dL_acts_440 (lv_at hl 5 rfl) ?_
          refine lv_iload hx hb dL_acts_442 (lv_at hl 4 rfl) ?_
          refine l_callV (As := [.int (nI k), .int (nI r), .int (nI q)]) (rest := []) (cs' := c1) (hs' := ps cs (hs)) (r := .int (bI (shB1 (c1 k).1 (c1 k).2.1 (c1 k).2.2 r q))) C0 G (l_sees l D cy ad tv c1 (ps cs (hs)) k r q (by omega) (by omega) (by omega) (by rw [ec1]; exact hvk)) k_X4_sees ml_L_68 dL_acts_444 rfl rfl hl.1 (Nat.le_of_ble_eq_true rfl) ⟨Nat.le_of_ble_eq_true rfl, Nat.le_of_ble_eq_true rfl⟩ ⟨Nat.le_of_ble_eq_true rfl, Nat.le_of_ble_eq_true rfl⟩ (fun H locs G => ?_)
          refine g_topi (x' := 1) (by rw [ec1]; exact congrArg bI ((sh_set h_r h_q h_q).trans (if_pos rfl))) ?_
          refine lv_iload hx hb dL_acts_447 (lv_at hl 2 rfl) ?_
          refine lv_if_ne (tgt := 456) hx hb dL_acts_449 (by decide) (fun c_449 => ?_) (fun c_449 => ?_)
          · skip
            have c_449 : (shB1 (cs k).1 (cs k).2.1 (cs k).2.2 r q) = true := bI_t c_449
            exact absurd (c_401.symm.trans c_449) (by decide)
          · skip
            have c_449 : (shB1 (cs k).1 (cs k).2.1 (cs k).2.2 r q) = false := bI_f c_449
            refine lv_iconst (v := 1) hx hb dL_acts_452 (by decide) ?_
            refine lv_goto (tgt := 457) hx hb dL_acts_453 (by decide) ?_
            refine lv_icmp_ne (tgt := 498) hx hb dL_acts_457 (by decide) (fun c_457 => ?_) (fun c_457 => ?_)
            · exact absurd c_457 (by decide)
            · skip
              refine lv_aload_n hx hb dL_acts_460 rfl (lv_at hl 7 rfl) ?_
              refine lv_iload_n hx hb dL_acts_461 rfl (lv_at hl 6 rfl) ?_
              refine lv_iload hx hb dL_acts_462 (lv_at hl 5 rfl) ?_
              refine l_callV (As := [.int (nI k), .int (nI r)]) (rest := []) (cs' := c1) (hs' := ps cs (hs)) (r := .int (nI (rwN (c1 k).1 (c1 k).2.1 (c1 k).2.2 r 8))) C0 G (l_raw l D cy ad tv c1 (ps cs (hs)) k r (by omega) (by omega) (by rw [ec1]; exact hvk)) k_X4_raw ml_L_72 dL_acts_464 rfl rfl hl.1 (Nat.le_of_ble_eq_true rfl) ⟨Nat.le_of_ble_eq_true rfl, Nat.le_of_ble_eq_true rfl⟩ ⟨Nat.le_of_ble_eq_true rfl, Nat.le_of_ble_eq_true rfl⟩ (fun H locs G => ?_)
              have hrx : rwN (c1 k).1 (c1 k).2.1 (c1 k).2.2 r 8 < 256 := by rw [rw_by]; exact by8_lt _
              refine lv_iload hx hb dL_acts_467 (lv_at hl 1 rfl) ?_
              refine lv_iload hx hb dL_acts_469 (lv_at hl 2 rfl) ?_
              refine lv_if_eq (tgt := 484) hx hb dL_acts_471 (by decide) (fun c_471 => ?_) (fun c_471 => ?_)
              · skip
                have c_471 : (shB1 (cs k).1 (cs k).2.1 (cs k).2.2 r q) = false := bI_f c_471
                refine lv_sipush (v := 128) hx hb dL_acts_484 (by decide) ?_
                refine lv_iload hx hb dL_acts_487 (lv_at hl 4 rfl) ?_
                refine lv_ishr hx hb dL_acts_489 ?_
                refine g_topi (x' := nI (128 / 2 ^ q)) (shrN (a := 128) (n := q) (by omega) (by omega)) ?_
                refine lv_iadd hx hb dL_acts_490 ?_
                refine g_topi (x' := nI (rwN (c1 k).1 (c1 k).2.1 (c1 k).2.2 r 8)) (by rw [nI_add, ← raw_we h_r h_q c_401]; simp only [ec1]) ?_
                refine lv_icmp_ne (tgt := 498) hx hb dL_acts_491 (by decide) (fun c_491 => ?_) (fun c_491 => ?_)
                · skip
                  have c_491 : ¬ ((rwN (c1 k).1 (c1 k).2.1 (c1 k).2.2 r 8) = (rwN (c1 k).1 (c1 k).2.1 (c1 k).2.2 r 8)) := fun h => c_491 ((nI_eq (a := rwN (c1 k).1 (c1 k).2.1 (c1 k).2.2 r 8) (b := rwN (c1 k).1 (c1 k).2.1 (c1 k).2.2 r 8) (by omega) (by omega)).mpr h)
                  exact absurd rfl c_491
                · skip
                  have c_491 : (rwN (c1 k).1 (c1 k).2.1 (c1 k).2.2 r 8) = (rwN (c1 k).1 (c1 k).2.1 (c1 k).2.2 r 8) := (nI_eq (a := rwN (c1 k).1 (c1 k).2.1 (c1 k).2.2 r 8) (b := rwN (c1 k).1 (c1 k).2.1 (c1 k).2.2 r 8) (by omega) (by omega)).mp c_491
                  refine lv_iconst (v := 1) hx hb dL_acts_494 (by decide) ?_
                  refine lv_goto (tgt := 499) hx hb dL_acts_495 (by decide) ?_
                  have G : gL D cy ad tv (actS px py cs) (ps cs hs) A s _ _ := l_eq (hc1.trans (hact.trans (by unfold actW; rw [if_neg (by omega), if_neg (by omega), if_neg (by omega), if_neg (by omega), if_pos (by omega), c_401, Bool.not_false])).symm) rfl G
                  exact l_zret C0 G rfl dL_acts_499
              · skip
                have c_471 : (shB1 (cs k).1 (cs k).2.1 (cs k).2.2 r q) = true := bI_t c_471
                exact absurd (c_401.symm.trans c_471) (by decide)
    · skip
      have c_401 : (shB1 (cs k).1 (cs k).2.1 (cs k).2.2 r q) = true := bI_t c_401
      refine lv_aload_n hx hb dL_acts_404 rfl (lv_at hl 6 rfl) ?_
      refine lv_iload_n hx hb dL_acts_405 rfl (lv_at hl 5 rfl) ?_
      refine lv_iload hx hb dL_acts_406 (lv_at hl 4 rfl) ?_
      refine lv_iload hx hb dL_acts_408 (lv_at hl 3 rfl) ?_
      refine l_callV (As := [.int (nI k), .int (nI r), .int (nI q)]) (rest := []) (cs' := va_up cs k (shF (cs k).1 (sbB (cs k).2.2) (scN (cs k).2.2 r q) false, shB (cs k).2.1 (sbB (cs k).2.2) (scN (cs k).2.2 r q) false, (cs k).2.2)) (hs' := ps cs (hs)) (r := .int (nI (kdN (shF (cs k).1 (sbB (cs k).2.2) (scN (cs k).2.2 r q) false) (shB (cs k).2.1 (sbB (cs k).2.2) (scN (cs k).2.2 r q) false) (scN (cs k).2.2 r q)))) C0 G (l_lose l D cy ad tv cs (hs) k r q (by omega) (by omega) (by omega) hvk c_401) k_X4_lose ml_L_75 dL_acts_410 rfl rfl hl.1 (Nat.le_of_ble_eq_true rfl) ⟨Nat.le_of_ble_eq_true rfl, Nat.le_of_ble_eq_true rfl⟩ ⟨Nat.le_of_ble_eq_true rfl, Nat.le_of_ble_eq_true rfl⟩ (fun H locs G => ?_)
      obtain ⟨c1, hc1⟩ : ∃ g9 : Nat → Cd, g9 = va_up cs k (shF (cs k).1 (sbB (cs k).2.2) (scN (cs k).2.2 r q) false, shB (cs k).2.1 (sbB (cs k).2.2) (scN (cs k).2.2 r q) false, (cs k).2.2) := ⟨_, rfl⟩
      have G : gL D cy ad tv c1 (ps cs (hs)) A s _ _ := l_eq hc1.symm rfl G
      have ec1 : c1 k = (shF (cs k).1 (sbB (cs k).2.2) (scN (cs k).2.2 r q) false, shB (cs k).2.1 (sbB (cs k).2.2) (scN (cs k).2.2 r q) false, (cs k).2.2) := by rw [hc1]; exact va_up_e _ _ _
      refine lv_goto (tgt := 425) hx hb dL_acts_413 (by decide) ?_
      obtain ⟨g, hg, eg⟩ : ∃ g9 : Nat, g9 < 4 ∧ kdN (shF (cs k).1 (sbB (cs k).2.2) (scN (cs k).2.2 r q) false) (shB (cs k).2.1 (sbB (cs k).2.2) (scN (cs k).2.2 r q) false) (scN (cs k).2.2 r q) = g9 := ⟨_, kdN_lt _ _ _, rfl⟩
      refine g_topi (x' := nI g) (congrArg nI eg) ?_
      refine lv_istore (lv' := [(14, .int (nI g)), (13, .int (nI (by8 (shB1 (cs k).1 (cs k).2.1 (cs k).2.2 r) 8))), (12, .int (bI (shB1 (cs k).1 (cs k).2.1 (cs k).2.2 r q))), (6, .int (nI ((cs k).2.2))), (5, .int (nI q)), (4, .int (nI r)), (3, .int (nI k)), (0, .ref (ad 0)), (1, .int px), (2, .int py)]) hx hb dL_acts_425 hl (by decide) rfl (fun ls hl => ?_)
      refine lv_iload hx hb dL_acts_427 (lv_at hl 0 rfl) ?_
      refine lv_if_lt (tgt := 498) hx hb dL_acts_429 (by decide) (fun c_429 => ?_) (fun c_429 => ?_)
      · skip
        have c_429 : g < 0 := (nI_ltI (a := g) (b := 0) (by omega) (by omega)).mp c_429
        exact absurd c_429 (by omega)
      · skip
        have c_429 : ¬ (g < 0) := fun h => c_429 ((nI_ltI (a := g) (b := 0) (by omega) (by omega)).mpr h)
        refine lv_iload hx hb dL_acts_432 (lv_at hl 0 rfl) ?_
        refine lv_iconst (v := 3) hx hb dL_acts_434 (by decide) ?_
        refine lv_icmp_gt (tgt := 498) hx hb dL_acts_435 (by decide) (fun c_435 => ?_) (fun c_435 => ?_)
        · skip
          have c_435 : 3 < g := (nI_ltI (a := 3) (b := g) (by omega) (by omega)).mp c_435
          exact absurd c_435 (by omega)
        · skip
          have c_435 : ¬ (3 < g) := fun h => c_435 ((nI_ltI (a := 3) (b := g) (by omega) (by omega)).mpr h)
          refine lv_aload_n hx hb dL_acts_438 rfl (lv_at hl 7 rfl) ?_
          refine lv_iload_n hx hb dL_acts_439 rfl (lv_at hl 6 rfl) ?_
          refine lv_iload hx hb dL_acts_440 (lv_at hl 5 rfl) ?_
          refine lv_iload hx hb dL_acts_442 (lv_at hl 4 rfl) ?_
          refine l_callV (As := [.int (nI k), .int (nI r), .int (nI q)]) (rest := []) (cs' := c1) (hs' := ps cs (hs)) (r := .int (bI (shB1 (c1 k).1 (c1 k).2.1 (c1 k).2.2 r q))) C0 G (l_sees l D cy ad tv c1 (ps cs (hs)) k r q (by omega) (by omega) (by omega) (by rw [ec1]; exact hvk)) k_X4_sees ml_L_68 dL_acts_444 rfl rfl hl.1 (Nat.le_of_ble_eq_true rfl) ⟨Nat.le_of_ble_eq_true rfl, Nat.le_of_ble_eq_true rfl⟩ ⟨Nat.le_of_ble_eq_true rfl, Nat.le_of_ble_eq_true rfl⟩ (fun H locs G => ?_)
          refine g_topi (x' := 0) (by rw [ec1]; exact congrArg bI ((sh_set h_r h_q h_q).trans (if_pos rfl))) ?_
          refine lv_iload hx hb dL_acts_447 (lv_at hl 2 rfl) ?_
          refine lv_if_ne (tgt := 456) hx hb dL_acts_449 (by decide) (fun c_449 => ?_) (fun c_449 => ?_)
          · skip
            have c_449 : (shB1 (cs k).1 (cs k).2.1 (cs k).2.2 r q) = true := bI_t c_449
            refine lv_iconst (v := 0) hx hb dL_acts_456 (by decide) ?_
            refine lv_icmp_ne (tgt := 498) hx hb dL_acts_457 (by decide) (fun c_457 => ?_) (fun c_457 => ?_)
            · exact absurd c_457 (by decide)
            · skip
              refine lv_aload_n hx hb dL_acts_460 rfl (lv_at hl 7 rfl) ?_
              refine lv_iload_n hx hb dL_acts_461 rfl (lv_at hl 6 rfl) ?_
              refine lv_iload hx hb dL_acts_462 (lv_at hl 5 rfl) ?_
              refine l_callV (As := [.int (nI k), .int (nI r)]) (rest := []) (cs' := c1) (hs' := ps cs (hs)) (r := .int (nI (rwN (c1 k).1 (c1 k).2.1 (c1 k).2.2 r 8))) C0 G (l_raw l D cy ad tv c1 (ps cs (hs)) k r (by omega) (by omega) (by rw [ec1]; exact hvk)) k_X4_raw ml_L_72 dL_acts_464 rfl rfl hl.1 (Nat.le_of_ble_eq_true rfl) ⟨Nat.le_of_ble_eq_true rfl, Nat.le_of_ble_eq_true rfl⟩ ⟨Nat.le_of_ble_eq_true rfl, Nat.le_of_ble_eq_true rfl⟩ (fun H locs G => ?_)
              have hrx : rwN (c1 k).1 (c1 k).2.1 (c1 k).2.2 r 8 < 256 := by rw [rw_by]; exact by8_lt _
              refine lv_iload hx hb dL_acts_467 (lv_at hl 1 rfl) ?_
              refine lv_iload hx hb dL_acts_469 (lv_at hl 2 rfl) ?_
              refine lv_if_eq (tgt := 484) hx hb dL_acts_471 (by decide) (fun c_471 => ?_) (fun c_471 => ?_)
              · skip
                have c_471 : (shB1 (cs k).1 (cs k).2.1 (cs k).2.2 r q) = false := bI_f c_471
                exact absurd (c_401.symm.trans c_471) (by decide)
              · skip
                have c_471 : (shB1 (cs k).1 (cs k).2.1 (cs k).2.2 r q) = true := bI_t c_471
                refine lv_sipush (v := 128) hx hb dL_acts_474 (by decide) ?_
                refine lv_iload hx hb dL_acts_477 (lv_at hl 4 rfl) ?_
                refine lv_ishr hx hb dL_acts_479 ?_
                refine g_topi (x' := nI (128 / 2 ^ q)) (shrN (a := 128) (n := q) (by omega) (by omega)) ?_
                refine lv_ineg hx hb dL_acts_480 ?_
                refine lv_goto (tgt := 490) hx hb dL_acts_481 (by decide) ?_
                refine lv_iadd hx hb dL_acts_490 ?_
                refine g_topi (x' := nI (rwN (c1 k).1 (c1 k).2.1 (c1 k).2.2 r 8)) (by rw [← raw_lo h_r h_q c_401, ng_sub]; simp only [ec1]) ?_
                refine lv_icmp_ne (tgt := 498) hx hb dL_acts_491 (by decide) (fun c_491 => ?_) (fun c_491 => ?_)
                · skip
                  have c_491 : ¬ ((rwN (c1 k).1 (c1 k).2.1 (c1 k).2.2 r 8) = (rwN (c1 k).1 (c1 k).2.1 (c1 k).2.2 r 8)) := fun h => c_491 ((nI_eq (a := rwN (c1 k).1 (c1 k).2.1 (c1 k).2.2 r 8) (b := rwN (c1 k).1 (c1 k).2.1 (c1 k).2.2 r 8) (by omega) (by omega)).mpr h)
                  exact absurd rfl c_491
                · skip
                  have c_491 : (rwN (c1 k).1 (c1 k).2.1 (c1 k).2.2 r 8) = (rwN (c1 k).1 (c1 k).2.1 (c1 k).2.2 r 8) := (nI_eq (a := rwN (c1 k).1 (c1 k).2.1 (c1 k).2.2 r 8) (b := rwN (c1 k).1 (c1 k).2.1 (c1 k).2.2 r 8) (by omega) (by omega)).mp c_491
                  refine lv_iconst (v := 1) hx hb dL_acts_494 (by decide) ?_
                  refine lv_goto (tgt := 499) hx hb dL_acts_495 (by decide) ?_
                  have G : gL D cy ad tv (actS px py cs) (ps cs hs) A s _ _ := l_eq (hc1.trans (hact.trans (by unfold actW; rw [if_neg (by omega), if_neg (by omega), if_neg (by omega), if_neg (by omega), if_pos (by omega), c_401, Bool.not_true])).symm) rfl G
                  exact l_zret C0 G rfl dL_acts_499
          · skip
            have c_449 : (shB1 (cs k).1 (cs k).2.1 (cs k).2.2 r q) = false := bI_f c_449
            exact absurd (c_401.symm.trans c_449) (by decide)
  by_cases s_39_7 : nn = 7
  · skip
    refine lv_tableIn (off := 340) (tgt := 379) hx hb dL_acts_39 (by rw [s_39_7]; decide) (by rw [s_39_7]; decide) (by rw [s_39_7]; rfl) (by decide) ?_
    refine lv_aload_n hx hb dL_acts_379 rfl (lv_at hl 4 rfl) ?_
    refine lv_iload_n hx hb dL_acts_380 rfl (lv_at hl 3 rfl) ?_
    refine lv_iload hx hb dL_acts_381 (lv_at hl 2 rfl) ?_
    refine lv_iload hx hb dL_acts_383 (lv_at hl 1 rfl) ?_
    refine l_callV (As := [.int (nI k), .int (nI r), .int (nI q)]) (rest := []) (cs' := cs) (hs' := hs) (r := .int (bI (shB1 (cs k).1 (cs k).2.1 (cs k).2.2 r q))) C0 G (l_sees l D cy ad tv cs (hs) k r q (by omega) (by omega) (by omega) hvk) k_X4_sees ml_L_68 dL_acts_385 rfl rfl hl.1 (Nat.le_of_ble_eq_true rfl) ⟨Nat.le_of_ble_eq_true rfl, Nat.le_of_ble_eq_true rfl⟩ ⟨Nat.le_of_ble_eq_true rfl, Nat.le_of_ble_eq_true rfl⟩ (fun H locs G => ?_)
    refine lv_istore (lv' := [(12, .int (bI (shB1 (cs k).1 (cs k).2.1 (cs k).2.2 r q))), (6, .int (nI ((cs k).2.2))), (5, .int (nI q)), (4, .int (nI r)), (3, .int (nI k)), (0, .ref (ad 0)), (1, .int px), (2, .int py)]) hx hb dL_acts_388 hl (by decide) rfl (fun ls hl => ?_)
    refine lv_aload_n hx hb dL_acts_390 rfl (lv_at hl 5 rfl) ?_
    refine lv_iload_n hx hb dL_acts_391 rfl (lv_at hl 4 rfl) ?_
    refine lv_iload hx hb dL_acts_392 (lv_at hl 3 rfl) ?_
    refine l_callV (As := [.int (nI k), .int (nI r)]) (rest := []) (cs' := cs) (hs' := hs) (r := .int (nI (rwN (cs k).1 (cs k).2.1 (cs k).2.2 r 8))) C0 G (l_raw l D cy ad tv cs (hs) k r (by omega) (by omega) hvk) k_X4_raw ml_L_72 dL_acts_394 rfl rfl hl.1 (Nat.le_of_ble_eq_true rfl) ⟨Nat.le_of_ble_eq_true rfl, Nat.le_of_ble_eq_true rfl⟩ ⟨Nat.le_of_ble_eq_true rfl, Nat.le_of_ble_eq_true rfl⟩ (fun H locs G => ?_)
    refine g_topi (x' := nI (by8 (shB1 (cs k).1 (cs k).2.1 (cs k).2.2 r) 8)) (congrArg nI (rw_by _ _ _ _ _)) ?_
    refine lv_istore (lv' := [(13, .int (nI (by8 (shB1 (cs k).1 (cs k).2.1 (cs k).2.2 r) 8))), (12, .int (bI (shB1 (cs k).1 (cs k).2.1 (cs k).2.2 r q))), (6, .int (nI ((cs k).2.2))), (5, .int (nI q)), (4, .int (nI r)), (3, .int (nI k)), (0, .ref (ad 0)), (1, .int px), (2, .int py)]) hx hb dL_acts_397 hl (by decide) rfl (fun ls hl => ?_)
    refine lv_iload hx hb dL_acts_399 (lv_at hl 1 rfl) ?_
    refine lv_if_eq (tgt := 416) hx hb dL_acts_401 (by decide) (fun c_401 => ?_) (fun c_401 => ?_)
    · skip
      have c_401 : (shB1 (cs k).1 (cs k).2.1 (cs k).2.2 r q) = false := bI_f c_401
      refine lv_aload_n hx hb dL_acts_416 rfl (lv_at hl 6 rfl) ?_
      refine lv_iload_n hx hb dL_acts_417 rfl (lv_at hl 5 rfl) ?_
      refine lv_iload hx hb dL_acts_418 (lv_at hl 4 rfl) ?_
      refine lv_iload hx hb dL_acts_420 (lv_at hl 3 rfl) ?_
      refine l_callV (As := [.int (nI k), .int (nI r), .int (nI q)]) (rest := []) (cs' := va_up cs k (shF (cs k).1 (sbB (cs k).2.2) (scN (cs k).2.2 r q) true, shB (cs k).2.1 (sbB (cs k).2.2) (scN (cs k).2.2 r q) true, (cs k).2.2)) (hs' := ps cs (hs)) (r := .int (nI (kdN (shF (cs k).1 (sbB (cs k).2.2) (scN (cs k).2.2 r q) true) (shB (cs k).2.1 (sbB (cs k).2.2) (scN (cs k).2.2 r q) true) (scN (cs k).2.2 r q)))) C0 G (l_wear l D cy ad tv cs (hs) k r q (by omega) (by omega) (by omega) hvk c_401) k_X4_wear ml_L_78 dL_acts_422 rfl rfl hl.1 (Nat.le_of_ble_eq_true rfl) ⟨Nat.le_of_ble_eq_true rfl, Nat.le_of_ble_eq_true rfl⟩ ⟨Nat.le_of_ble_eq_true rfl, Nat.le_of_ble_eq_true rfl⟩ (fun H locs G => ?_)
      obtain ⟨c1, hc1⟩ : ∃ g9 : Nat → Cd, g9 = va_up cs k (shF (cs k).1 (sbB (cs k).2.2) (scN (cs k).2.2 r q) true, shB (cs k).2.1 (sbB (cs k).2.2) (scN (cs k).2.2 r q) true, (cs k).2.2) := ⟨_, rfl⟩
      have G : gL D cy ad tv c1 (ps cs (hs)) A s _ _ := l_eq hc1.symm rfl G
      have ec1 : c1 k = (shF (cs k).1 (sbB (cs k).2.2) (scN (cs k).2.2 r q) true, shB (cs k).2.1 (sbB (cs k).2.2) (scN (cs k).2.2 r q) true, (cs k).2.2) := by rw [hc1]; exact va_up_e _ _ _
      obtain ⟨g, hg, eg⟩ : ∃ g9 : Nat, g9 < 4 ∧ kdN (shF (cs k).1 (sbB (cs k).2.2) (scN (cs k).2.2 r q) true) (shB (cs k).2.1 (sbB (cs k).2.2) (scN (cs k).2.2 r q) true) (scN (cs k).2.2 r q) = g9 := ⟨_, kdN_lt _ _ _, rfl⟩
      refine g_topi (x' := nI g) (congrArg nI eg) ?_
      refine lv_istore (lv' := [(14, .int (nI g)), (13, .int (nI (by8 (shB1 (cs k).1 (cs k).2.1 (cs k).2.2 r) 8))), (12, .int (bI (shB1 (cs k).1 (cs k).2.1 (cs k).2.2 r q))), (6, .int (nI ((cs k).2.2))), (5, .int (nI q)), (4, .int (nI r)), (3, .int (nI k)), (0, .ref (ad 0)), (1, .int px), (2, .int py)]) hx hb dL_acts_425 hl (by decide) rfl (fun ls hl => ?_)
      refine lv_iload hx hb dL_acts_427 (lv_at hl 0 rfl) ?_
      refine lv_if_lt (tgt := 498) hx hb dL_acts_429 (by decide) (fun c_429 => ?_) (fun c_429 => ?_)
      · skip
        have c_429 : g < 0 := (nI_ltI (a := g) (b := 0) (by omega) (by omega)).mp c_429
        exact absurd c_429 (by omega)
      · skip
        have c_429 : ¬ (g < 0) := fun h => c_429 ((nI_ltI (a := g) (b := 0) (by omega) (by omega)).mpr h)
        refine lv_iload hx hb dL_acts_432 (lv_at hl 0 rfl) ?_
        refine lv_iconst (v := 3) hx hb dL_acts_434 (by decide) ?_
        refine lv_icmp_gt (tgt := 498) hx hb dL_acts_435 (by decide) (fun c_435 => ?_) (fun c_435 => ?_)
        · skip
          have c_435 : 3 < g := (nI_ltI (a := 3) (b := g) (by omega) (by omega)).mp c_435
          exact absurd c_435 (by omega)
        · skip
          have c_435 : ¬ (3 < g) := fun h => c_435 ((nI_ltI (a := 3) (b := g) (by omega) (by omega)).mpr h)
          refine lv_aload_n hx hb dL_acts_438 rfl (lv_at hl 7 rfl) ?_
          refine lv_iload_n hx hb dL_acts_439 rfl (lv_at hl 6 rfl) ?_
          refine lv_iload hx hb dL_acts_440 (lv_at hl 5 rfl) ?_
          refine lv_iload hx hb dL_acts_442 (lv_at hl 4 rfl) ?_
          refine l_callV (As := [.int (nI k), .int (nI r), .int (nI q)]) (rest := []) (cs' := c1) (hs' := ps cs (hs)) (r := .int (bI (shB1 (c1 k).1 (c1 k).2.1 (c1 k).2.2 r q))) C0 G (l_sees l D cy ad tv c1 (ps cs (hs)) k r q (by omega) (by omega) (by omega) (by rw [ec1]; exact hvk)) k_X4_sees ml_L_68 dL_acts_444 rfl rfl hl.1 (Nat.le_of_ble_eq_true rfl) ⟨Nat.le_of_ble_eq_true rfl, Nat.le_of_ble_eq_true rfl⟩ ⟨Nat.le_of_ble_eq_true rfl, Nat.le_of_ble_eq_true rfl⟩ (fun H locs G => ?_)
          refine g_topi (x' := 1) (by rw [ec1]; exact congrArg bI ((sh_set h_r h_q h_q).trans (if_pos rfl))) ?_
          refine lv_iload hx hb dL_acts_447 (lv_at hl 2 rfl) ?_
          refine lv_if_ne (tgt := 456) hx hb dL_acts_449 (by decide) (fun c_449 => ?_) (fun c_449 => ?_)
          · skip
            have c_449 : (shB1 (cs k).1 (cs k).2.1 (cs k).2.2 r q) = true := bI_t c_449
            exact absurd (c_401.symm.trans c_449) (by decide)
          · skip
            have c_449 : (shB1 (cs k).1 (cs k).2.1 (cs k).2.2 r q) = false := bI_f c_449
            refine lv_iconst (v := 1) hx hb dL_acts_452 (by decide) ?_
            refine lv_goto (tgt := 457) hx hb dL_acts_453 (by decide) ?_
            refine lv_icmp_ne (tgt := 498) hx hb dL_acts_457 (by decide) (fun c_457 => ?_) (fun c_457 => ?_)
            · exact absurd c_457 (by decide)
            · skip
              refine lv_aload_n hx hb dL_acts_460 rfl (lv_at hl 7 rfl) ?_
              refine lv_iload_n hx hb dL_acts_461 rfl (lv_at hl 6 rfl) ?_
              refine lv_iload hx hb dL_acts_462 (lv_at hl 5 rfl) ?_
              refine l_callV (As := [.int (nI k), .int (nI r)]) (rest := []) (cs' := c1) (hs' := ps cs (hs)) (r := .int (nI (rwN (c1 k).1 (c1 k).2.1 (c1 k).2.2 r 8))) C0 G (l_raw l D cy ad tv c1 (ps cs (hs)) k r (by omega) (by omega) (by rw [ec1]; exact hvk)) k_X4_raw ml_L_72 dL_acts_464 rfl rfl hl.1 (Nat.le_of_ble_eq_true rfl) ⟨Nat.le_of_ble_eq_true rfl, Nat.le_of_ble_eq_true rfl⟩ ⟨Nat.le_of_ble_eq_true rfl, Nat.le_of_ble_eq_true rfl⟩ (fun H locs G => ?_)
              have hrx : rwN (c1 k).1 (c1 k).2.1 (c1 k).2.2 r 8 < 256 := by rw [rw_by]; exact by8_lt _
              refine lv_iload hx hb dL_acts_467 (lv_at hl 1 rfl) ?_
              refine lv_iload hx hb dL_acts_469 (lv_at hl 2 rfl) ?_
              refine lv_if_eq (tgt := 484) hx hb dL_acts_471 (by decide) (fun c_471 => ?_) (fun c_471 => ?_)
              · skip
                have c_471 : (shB1 (cs k).1 (cs k).2.1 (cs k).2.2 r q) = false := bI_f c_471
                refine lv_sipush (v := 128) hx hb dL_acts_484 (by decide) ?_
                refine lv_iload hx hb dL_acts_487 (lv_at hl 4 rfl) ?_
                refine lv_ishr hx hb dL_acts_489 ?_
                refine g_topi (x' := nI (128 / 2 ^ q)) (shrN (a := 128) (n := q) (by omega) (by omega)) ?_
                refine lv_iadd hx hb dL_acts_490 ?_
                refine g_topi (x' := nI (rwN (c1 k).1 (c1 k).2.1 (c1 k).2.2 r 8)) (by rw [nI_add, ← raw_we h_r h_q c_401]; simp only [ec1]) ?_
                refine lv_icmp_ne (tgt := 498) hx hb dL_acts_491 (by decide) (fun c_491 => ?_) (fun c_491 => ?_)
                · skip
                  have c_491 : ¬ ((rwN (c1 k).1 (c1 k).2.1 (c1 k).2.2 r 8) = (rwN (c1 k).1 (c1 k).2.1 (c1 k).2.2 r 8)) := fun h => c_491 ((nI_eq (a := rwN (c1 k).1 (c1 k).2.1 (c1 k).2.2 r 8) (b := rwN (c1 k).1 (c1 k).2.1 (c1 k).2.2 r 8) (by omega) (by omega)).mpr h)
                  exact absurd rfl c_491
                · skip
                  have c_491 : (rwN (c1 k).1 (c1 k).2.1 (c1 k).2.2 r 8) = (rwN (c1 k).1 (c1 k).2.1 (c1 k).2.2 r 8) := (nI_eq (a := rwN (c1 k).1 (c1 k).2.1 (c1 k).2.2 r 8) (b := rwN (c1 k).1 (c1 k).2.1 (c1 k).2.2 r 8) (by omega) (by omega)).mp c_491
                  refine lv_iconst (v := 1) hx hb dL_acts_494 (by decide) ?_
                  refine lv_goto (tgt := 499) hx hb dL_acts_495 (by decide) ?_
                  have G : gL D cy ad tv (actS px py cs) (ps cs hs) A s _ _ := l_eq (hc1.trans (hact.trans (by unfold actW; rw [if_neg (by omega), if_neg (by omega), if_neg (by omega), if_neg (by omega), if_pos (by omega), c_401, Bool.not_false])).symm) rfl G
                  exact l_zret C0 G rfl dL_acts_499
              · skip
                have c_471 : (shB1 (cs k).1 (cs k).2.1 (cs k).2.2 r q) = true := bI_t c_471
                exact absurd (c_401.symm.trans c_471) (by decide)
    · skip
      have c_401 : (shB1 (cs k).1 (cs k).2.1 (cs k).2.2 r q) = true := bI_t c_401
      refine lv_aload_n hx hb dL_acts_404 rfl (lv_at hl 6 rfl) ?_
      refine lv_iload_n hx hb dL_acts_405 rfl (lv_at hl 5 rfl) ?_
      refine lv_iload hx hb dL_acts_406 (lv_at hl 4 rfl) ?_
      refine lv_iload hx hb dL_acts_408 (lv_at hl 3 rfl) ?_
      refine l_callV (As := [.int (nI k), .int (nI r), .int (nI q)]) (rest := []) (cs' := va_up cs k (shF (cs k).1 (sbB (cs k).2.2) (scN (cs k).2.2 r q) false, shB (cs k).2.1 (sbB (cs k).2.2) (scN (cs k).2.2 r q) false, (cs k).2.2)) (hs' := ps cs (hs)) (r := .int (nI (kdN (shF (cs k).1 (sbB (cs k).2.2) (scN (cs k).2.2 r q) false) (shB (cs k).2.1 (sbB (cs k).2.2) (scN (cs k).2.2 r q) false) (scN (cs k).2.2 r q)))) C0 G (l_lose l D cy ad tv cs (hs) k r q (by omega) (by omega) (by omega) hvk c_401) k_X4_lose ml_L_75 dL_acts_410 rfl rfl hl.1 (Nat.le_of_ble_eq_true rfl) ⟨Nat.le_of_ble_eq_true rfl, Nat.le_of_ble_eq_true rfl⟩ ⟨Nat.le_of_ble_eq_true rfl, Nat.le_of_ble_eq_true rfl⟩ (fun H locs G => ?_)
      obtain ⟨c1, hc1⟩ : ∃ g9 : Nat → Cd, g9 = va_up cs k (shF (cs k).1 (sbB (cs k).2.2) (scN (cs k).2.2 r q) false, shB (cs k).2.1 (sbB (cs k).2.2) (scN (cs k).2.2 r q) false, (cs k).2.2) := ⟨_, rfl⟩
      have G : gL D cy ad tv c1 (ps cs (hs)) A s _ _ := l_eq hc1.symm rfl G
      have ec1 : c1 k = (shF (cs k).1 (sbB (cs k).2.2) (scN (cs k).2.2 r q) false, shB (cs k).2.1 (sbB (cs k).2.2) (scN (cs k).2.2 r q) false, (cs k).2.2) := by rw [hc1]; exact va_up_e _ _ _
      refine lv_goto (tgt := 425) hx hb dL_acts_413 (by decide) ?_
      obtain ⟨g, hg, eg⟩ : ∃ g9 : Nat, g9 < 4 ∧ kdN (shF (cs k).1 (sbB (cs k).2.2) (scN (cs k).2.2 r q) false) (shB (cs k).2.1 (sbB (cs k).2.2) (scN (cs k).2.2 r q) false) (scN (cs k).2.2 r q) = g9 := ⟨_, kdN_lt _ _ _, rfl⟩
      refine g_topi (x' := nI g) (congrArg nI eg) ?_
      refine lv_istore (lv' := [(14, .int (nI g)), (13, .int (nI (by8 (shB1 (cs k).1 (cs k).2.1 (cs k).2.2 r) 8))), (12, .int (bI (shB1 (cs k).1 (cs k).2.1 (cs k).2.2 r q))), (6, .int (nI ((cs k).2.2))), (5, .int (nI q)), (4, .int (nI r)), (3, .int (nI k)), (0, .ref (ad 0)), (1, .int px), (2, .int py)]) hx hb dL_acts_425 hl (by decide) rfl (fun ls hl => ?_)
      refine lv_iload hx hb dL_acts_427 (lv_at hl 0 rfl) ?_
      refine lv_if_lt (tgt := 498) hx hb dL_acts_429 (by decide) (fun c_429 => ?_) (fun c_429 => ?_)
      · skip
        have c_429 : g < 0 := (nI_ltI (a := g) (b := 0) (by omega) (by omega)).mp c_429
        exact absurd c_429 (by omega)
      · skip
        have c_429 : ¬ (g < 0) := fun h => c_429 ((nI_ltI (a := g) (b := 0) (by omega) (by omega)).mpr h)
        refine lv_iload hx hb dL_acts_432 (lv_at hl 0 rfl) ?_
        refine lv_iconst (v := 3) hx hb dL_acts_434 (by decide) ?_
        refine lv_icmp_gt (tgt := 498) hx hb dL_acts_435 (by decide) (fun c_435 => ?_) (fun c_435 => ?_)
        · skip
          have c_435 : 3 < g := (nI_ltI (a := 3) (b := g) (by omega) (by omega)).mp c_435
          exact absurd c_435 (by omega)
        · skip
          have c_435 : ¬ (3 < g) := fun h => c_435 ((nI_ltI (a := 3) (b := g) (by omega) (by omega)).mpr h)
          refine lv_aload_n hx hb dL_acts_438 rfl (lv_at hl 7 rfl) ?_
          refine lv_iload_n hx hb dL_acts_439 rfl (lv_at hl 6 rfl) ?_
          refine lv_iload hx hb dL_acts_440 (lv_at hl 5 rfl) ?_
          refine lv_iload hx hb dL_acts_442 (lv_at hl 4 rfl) ?_
          refine l_callV (As := [.int (nI k), .int (nI r), .int (nI q)]) (rest := []) (cs' := c1) (hs' := ps cs (hs)) (r := .int (bI (shB1 (c1 k).1 (c1 k).2.1 (c1 k).2.2 r q))) C0 G (l_sees l D cy ad tv c1 (ps cs (hs)) k r q (by omega) (by omega) (by omega) (by rw [ec1]; exact hvk)) k_X4_sees ml_L_68 dL_acts_444 rfl rfl hl.1 (Nat.le_of_ble_eq_true rfl) ⟨Nat.le_of_ble_eq_true rfl, Nat.le_of_ble_eq_true rfl⟩ ⟨Nat.le_of_ble_eq_true rfl, Nat.le_of_ble_eq_true rfl⟩ (fun H locs G => ?_)
          refine g_topi (x' := 0) (by rw [ec1]; exact congrArg bI ((sh_set h_r h_q h_q).trans (if_pos rfl))) ?_
          refine lv_iload hx hb dL_acts_447 (lv_at hl 2 rfl) ?_
          refine lv_if_ne (tgt := 456) hx hb dL_acts_449 (by decide) (fun c_449 => ?_) (fun c_449 => ?_)
          · skip
            have c_449 : (shB1 (cs k).1 (cs k).2.1 (cs k).2.2 r q) = true := bI_t c_449
            refine lv_iconst (v := 0) hx hb dL_acts_456 (by decide) ?_
            refine lv_icmp_ne (tgt := 498) hx hb dL_acts_457 (by decide) (fun c_457 => ?_) (fun c_457 => ?_)
            · exact absurd c_457 (by decide)
            · skip
              refine lv_aload_n hx hb dL_acts_460 rfl (lv_at hl 7 rfl) ?_
              refine lv_iload_n hx hb dL_acts_461 rfl (lv_at hl 6 rfl) ?_
              refine lv_iload hx hb dL_acts_462 (lv_at hl 5 rfl) ?_
              refine l_callV (As := [.int (nI k), .int (nI r)]) (rest := []) (cs' := c1) (hs' := ps cs (hs)) (r := .int (nI (rwN (c1 k).1 (c1 k).2.1 (c1 k).2.2 r 8))) C0 G (l_raw l D cy ad tv c1 (ps cs (hs)) k r (by omega) (by omega) (by rw [ec1]; exact hvk)) k_X4_raw ml_L_72 dL_acts_464 rfl rfl hl.1 (Nat.le_of_ble_eq_true rfl) ⟨Nat.le_of_ble_eq_true rfl, Nat.le_of_ble_eq_true rfl⟩ ⟨Nat.le_of_ble_eq_true rfl, Nat.le_of_ble_eq_true rfl⟩ (fun H locs G => ?_)
              have hrx : rwN (c1 k).1 (c1 k).2.1 (c1 k).2.2 r 8 < 256 := by rw [rw_by]; exact by8_lt _
              refine lv_iload hx hb dL_acts_467 (lv_at hl 1 rfl) ?_
              refine lv_iload hx hb dL_acts_469 (lv_at hl 2 rfl) ?_
              refine lv_if_eq (tgt := 484) hx hb dL_acts_471 (by decide) (fun c_471 => ?_) (fun c_471 => ?_)
              · skip
                have c_471 : (shB1 (cs k).1 (cs k).2.1 (cs k).2.2 r q) = false := bI_f c_471
                exact absurd (c_401.symm.trans c_471) (by decide)
              · skip
                have c_471 : (shB1 (cs k).1 (cs k).2.1 (cs k).2.2 r q) = true := bI_t c_471
                refine lv_sipush (v := 128) hx hb dL_acts_474 (by decide) ?_
                refine lv_iload hx hb dL_acts_477 (lv_at hl 4 rfl) ?_
                refine lv_ishr hx hb dL_acts_479 ?_
                refine g_topi (x' := nI (128 / 2 ^ q)) (shrN (a := 128) (n := q) (by omega) (by omega)) ?_
                refine lv_ineg hx hb dL_acts_480 ?_
                refine lv_goto (tgt := 490) hx hb dL_acts_481 (by decide) ?_
                refine lv_iadd hx hb dL_acts_490 ?_
                refine g_topi (x' := nI (rwN (c1 k).1 (c1 k).2.1 (c1 k).2.2 r 8)) (by rw [← raw_lo h_r h_q c_401, ng_sub]; simp only [ec1]) ?_
                refine lv_icmp_ne (tgt := 498) hx hb dL_acts_491 (by decide) (fun c_491 => ?_) (fun c_491 => ?_)
                · skip
                  have c_491 : ¬ ((rwN (c1 k).1 (c1 k).2.1 (c1 k).2.2 r 8) = (rwN (c1 k).1 (c1 k).2.1 (c1 k).2.2 r 8)) := fun h => c_491 ((nI_eq (a := rwN (c1 k).1 (c1 k).2.1 (c1 k).2.2 r 8) (b := rwN (c1 k).1 (c1 k).2.1 (c1 k).2.2 r 8) (by omega) (by omega)).mpr h)
                  exact absurd rfl c_491
                · skip
                  have c_491 : (rwN (c1 k).1 (c1 k).2.1 (c1 k).2.2 r 8) = (rwN (c1 k).1 (c1 k).2.1 (c1 k).2.2 r 8) := (nI_eq (a := rwN (c1 k).1 (c1 k).2.1 (c1 k).2.2 r 8) (b := rwN (c1 k).1 (c1 k).2.1 (c1 k).2.2 r 8) (by omega) (by omega)).mp c_491
                  refine lv_iconst (v := 1) hx hb dL_acts_494 (by decide) ?_
                  refine lv_goto (tgt := 499) hx hb dL_acts_495 (by decide) ?_
                  have G : gL D cy ad tv (actS px py cs) (ps cs hs) A s _ _ := l_eq (hc1.trans (hact.trans (by unfold actW; rw [if_neg (by omega), if_neg (by omega), if_neg (by omega), if_neg (by omega), if_pos (by omega), c_401, Bool.not_true])).symm) rfl G
                  exact l_zret C0 G rfl dL_acts_499
          · skip
            have c_449 : (shB1 (cs k).1 (cs k).2.1 (cs k).2.2 r q) = false := bI_f c_449
            exact absurd (c_401.symm.trans c_449) (by decide)
  refine lv_tableOut (tgt := 500) hx hb dL_acts_39 (Or.inr (by rw [nI_toInt (by omega)]; omega)) (by decide) ?_
  refine lv_iload_n hx hb dL_acts_500 rfl (lv_at hl 6 rfl) ?_
  refine lv_iconst (v := 5) hx hb dL_acts_501 (by decide) ?_
  refine lv_ishr hx hb dL_acts_502 ?_
  refine lv_sipush (v := 128) hx hb dL_acts_503 (by decide) ?_
  refine l_callS (As := [.int (py >>> (5 &&& 31)), .int 128]) (rest := []) (cs' := cs) (hs' := hs) (r := .int (nI (upN (py >>> (5 &&& 31)) 128))) C0 G (GL.pure (fun W1 => c_L_up l D cy W1 (py >>> (5 &&& 31)) 128 (by omega) (by omega))) k_L_up ml_L_29 dL_acts_506 rfl rfl hl.1 (Nat.le_of_ble_eq_true rfl) ⟨Nat.le_of_ble_eq_true rfl, Nat.le_of_ble_eq_true rfl⟩ ⟨Nat.le_of_ble_eq_true rfl, Nat.le_of_ble_eq_true rfl⟩ (fun H locs G => ?_)
  refine g_topi (x' := nI u) (congrArg nI eu.symm) ?_
  refine lv_istore (lv' := [(15, .int (nI u)), (6, .int (nI ((cs k).2.2))), (5, .int (nI q)), (4, .int (nI r)), (3, .int (nI k)), (0, .ref (ad 0)), (1, .int px), (2, .int py)]) hx hb dL_acts_509 hl (by decide) rfl (fun ls hl => ?_)
  refine lv_iload hx hb dL_acts_511 (lv_at hl 3 rfl) ?_
  refine lv_bipush (v := 7) hx hb dL_acts_513 (by decide) ?_
  refine lv_irem hx hb dL_acts_515 (by decide) ?_
  refine g_topi (x' := nI (r % 7)) (pk_rem (a := r) (d := 7) (by omega) (by decide) (by decide)) ?_
  refine lv_istore (lv' := [(16, .int (nI (r % 7))), (15, .int (nI u)), (6, .int (nI ((cs k).2.2))), (5, .int (nI q)), (4, .int (nI r)), (3, .int (nI k)), (0, .ref (ad 0)), (1, .int px), (2, .int py)]) hx hb dL_acts_516 hl (by decide) rfl (fun ls hl => ?_)
  refine lv_iconst (v := 0) hx hb dL_acts_518 (by decide) ?_
  refine lv_istore (lv' := [(17, .int 0), (16, .int (nI (r % 7))), (15, .int (nI u)), (6, .int (nI ((cs k).2.2))), (5, .int (nI q)), (4, .int (nI r)), (3, .int (nI k)), (0, .ref (ad 0)), (1, .int px), (2, .int py)]) hx hb dL_acts_519 hl (by decide) rfl (fun ls hl => ?_)
  have hl := lv_sub hl (l' := [(0, .ref (ad 0)), (1, .int px), (2, .int py), (3, .int (nI k)), (4, .int (nI r)), (5, .int (nI q)), (6, .int (nI ((cs k).2.2))), (15, .int (nI u)), (16, .int (nI (r % 7))), (17, .int 0)]) [7, 8, 9, 6, 5, 4, 3, 2, 1, 0] rfl
  refine l_loop (σ := Nat) (fun i => 7 - i) (fun i => [(0, .ref (ad 0)), (1, .int px), (2, .int py), (3, .int (nI k)), (4, .int (nI r)), (5, .int (nI q)), (6, .int (nI ((cs k).2.2))), (15, .int (nI u)), (16, .int (nI ((r + i) % 7))), (17, .int (nI i))]) (fun i => i ≤ 7 ∧ sr (fun u9 => cpB (cs k).1 (cs k).2.1 ((r + u9) % 7)) i = i) ?_ 0 ⟨by omega, rfl⟩ G hl
  intro i hi_521 ih_521 H locs ls G hl
  obtain ⟨hi1, hi2⟩ := hi_521
  have hl : lv_has ls 19 [(0, .ref (ad 0)), (1, .int px), (2, .int py), (3, .int (nI k)), (4, .int (nI r)), (5, .int (nI q)), (6, .int (nI ((cs k).2.2))), (15, .int (nI u)), (16, .int (nI ((r + i) % 7))), (17, .int (nI i))] := hl
  refine lv_iload hx hb dL_acts_521 (lv_at hl 9 rfl) ?_
  refine lv_bipush (v := 7) hx hb dL_acts_523 (by decide) ?_
  refine lv_icmp_ge (tgt := 553) hx hb dL_acts_525 (by decide) (fun c_525 => ?_) (fun c_525 => ?_)
  · skip
    have c_525 : 7 ≤ i := (nI_leI (a := 7) (b := i) (by omega) (by omega)).mp c_525
    obtain ⟨a, ea⟩ : ∃ g9 : Nat, g9 = (r + sr (fun u9 => cpB (cs k).1 (cs k).2.1 ((r + u9) % 7)) 7) % 7 := ⟨_, rfl⟩
    have ha : a < 7 := by omega
    have hsr : sr (fun u9 => cpB (cs k).1 (cs k).2.1 ((r + u9) % 7)) 7 = i := sr_end hi1 c_525 hi2
    have hl := hl
    rw [show nI ((r + i) % 7) = nI a from congrArg nI (by rw [ea, hsr])] at hl
    have hl : lv_has ls 19 [(0, .ref (ad 0)), (1, .int px), (2, .int py), (3, .int (nI k)), (4, .int (nI r)), (5, .int (nI q)), (6, .int (nI ((cs k).2.2))), (15, .int (nI u)), (16, .int (nI a)), (17, .int (nI i))] := hl
    refine lv_aload_n hx hb dL_acts_553 rfl (lv_at hl 0 rfl) ?_
    refine lv_iload_n hx hb dL_acts_554 rfl (lv_at hl 3 rfl) ?_
    refine lv_iload hx hb dL_acts_555 (lv_at hl 8 rfl) ?_
    refine l_callS (As := [.ref (ad 0), .int (nI k), .int (nI a)]) (rest := []) (cs' := cs) (hs' := hs) (r := .int (bI (cpB (cs k).1 (cs k).2.1 a))) C0 G (h_isBlank l D cy ad tv cs (hs) k a (by omega) (by omega)) k_L_isBlank ml_L_23 dL_acts_557 rfl rfl hl.1 (Nat.le_of_ble_eq_true rfl) ⟨Nat.le_of_ble_eq_true rfl, Nat.le_of_ble_eq_true rfl⟩ ⟨Nat.le_of_ble_eq_true rfl, Nat.le_of_ble_eq_true rfl⟩ (fun H locs G => ?_)
    refine lv_if_ne (tgt := 581) hx hb dL_acts_560 (by decide) (fun c_560 => ?_) (fun c_560 => ?_)
    · skip
      have c_560 : (cpB (cs k).1 (cs k).2.1 a) = true := bI_t c_560
      refine lv_iconst (v := 0) hx hb dL_acts_581 (by decide) ?_
      refine lv_istore (lv' := [(17, .int 0), (0, .ref (ad 0)), (1, .int px), (2, .int py), (3, .int (nI k)), (4, .int (nI r)), (5, .int (nI q)), (6, .int (nI ((cs k).2.2))), (15, .int (nI u)), (16, .int (nI a))]) hx hb dL_acts_582 hl (by decide) rfl (fun ls hl => ?_)
      refine lv_iconst (v := 0) hx hb dL_acts_584 (by decide) ?_
      refine lv_istore (lv' := [(18, .int 0), (17, .int 0), (0, .ref (ad 0)), (1, .int px), (2, .int py), (3, .int (nI k)), (4, .int (nI r)), (5, .int (nI q)), (6, .int (nI ((cs k).2.2))), (15, .int (nI u)), (16, .int (nI a))]) hx hb dL_acts_585 hl (by decide) rfl (fun ls hl => ?_)
      have hl := lv_sub hl (l' := [(0, .ref (ad 0)), (3, .int (nI k)), (15, .int (nI u)), (16, .int (nI a)), (17, .int 0), (18, .int 0)]) [2, 5, 9, 10, 1, 0] rfl
      refine l_loop (σ := Nat) (fun i => 7 - i) (fun i => [(0, .ref (ad 0)), (3, .int (nI k)), (15, .int (nI u)), (16, .int (nI a)), (17, .int (nI (xlN u i))), (18, .int (nI i))]) (fun i => i ≤ 7) ?_ 0 (by show _ ≤ _; omega) G hl
      intro i hi_587 ih_587 H locs ls G hl
      have hl : lv_has ls 19 [(0, .ref (ad 0)), (3, .int (nI k)), (15, .int (nI u)), (16, .int (nI a)), (17, .int (nI (xlN u i))), (18, .int (nI i))] := hl
      refine lv_iload hx hb dL_acts_587 (lv_at hl 5 rfl) ?_
      refine lv_bipush (v := 7) hx hb dL_acts_589 (by decide) ?_
      refine lv_icmp_ge (tgt := 612) hx hb dL_acts_591 (by decide) (fun c_591 => ?_) (fun c_591 => ?_)
      · skip
        have c_591 : 7 ≤ i := (nI_leI (a := 7) (b := i) (by omega) (by omega)).mp c_591
        obtain rfl : i = 7 := by omega
        have hl : lv_has ls 19 [(0, .ref (ad 0)), (3, .int (nI k)), (15, .int (nI u)), (16, .int (nI a)), (17, .int (nI (xlN u 7))), (18, .int (nI 7))] := hl
        have hl := hl
        rw [show nI (xlN u 7) = nI (pc7 u % 2) from congrArg nI (xlN_7 u h_u)] at hl
        have hl : lv_has ls 19 [(0, .ref (ad 0)), (3, .int (nI k)), (15, .int (nI u)), (16, .int (nI a)), (17, .int (nI (pc7 u % 2))), (18, .int (nI 7))] := hl
        refine lv_aload_n hx hb dL_acts_612 rfl (lv_at hl 0 rfl) ?_
        refine lv_iload_n hx hb dL_acts_613 rfl (lv_at hl 1 rfl) ?_
        refine lv_iload hx hb dL_acts_614 (lv_at hl 3 rfl) ?_
        refine lv_iload hx hb dL_acts_616 (lv_at hl 2 rfl) ?_
        refine l_callV (As := [.int (nI k), .int (nI a), .int (nI u)]) (rest := []) (cs' := va_up cs k (pwF (cs k).1 a u, pwB (cs k).2.1 a u, (cs k).2.2)) (hs' := ps cs (hs)) (r := .int (nI (pc7 u % 2))) C0 G (l_punch l D cy ad tv cs (hs) k a u (by omega) (by omega) (by omega) c_560) k_X4_punch ml_L_81 dL_acts_618 rfl rfl hl.1 (Nat.le_of_ble_eq_true rfl) ⟨Nat.le_of_ble_eq_true rfl, Nat.le_of_ble_eq_true rfl⟩ ⟨Nat.le_of_ble_eq_true rfl, Nat.le_of_ble_eq_true rfl⟩ (fun H locs G => ?_)
        obtain ⟨c1, hc1⟩ : ∃ g9 : Nat → Cd, g9 = va_up cs k (pwF (cs k).1 a u, pwB (cs k).2.1 a u, (cs k).2.2) := ⟨_, rfl⟩
        have G : gL D cy ad tv c1 (ps cs (hs)) A s _ _ := l_eq hc1.symm rfl G
        have ec1 : c1 k = (pwF (cs k).1 a u, pwB (cs k).2.1 a u, (cs k).2.2) := by rw [hc1]; exact va_up_e _ _ _
        refine lv_iload hx hb dL_acts_621 (lv_at hl 4 rfl) ?_
        refine lv_icmp_ne (tgt := 668) hx hb dL_acts_623 (by decide) (fun c_623 => ?_) (fun c_623 => ?_)
        · skip
          have c_623 : ¬ ((pc7 u % 2) = (pc7 u % 2)) := fun h => c_623 ((nI_eq (a := pc7 u % 2) (b := pc7 u % 2) (by omega) (by omega)).mpr h)
          exact absurd rfl c_623
        · skip
          have c_623 : (pc7 u % 2) = (pc7 u % 2) := (nI_eq (a := pc7 u % 2) (b := pc7 u % 2) (by omega) (by omega)).mp c_623
          refine lv_aload_n hx hb dL_acts_626 rfl (lv_at hl 0 rfl) ?_
          refine lv_iload_n hx hb dL_acts_627 rfl (lv_at hl 1 rfl) ?_
          refine lv_iload hx hb dL_acts_628 (lv_at hl 3 rfl) ?_
          refine l_callV (As := [.int (nI k), .int (nI a)]) (rest := []) (cs' := c1) (hs' := ps cs (hs)) (r := .int (rvI (sdW (c1 k).1 (c1 k).2.1) (onW (c1 k).1 (c1 k).2.1) a)) C0 G (l_read l D cy ad tv c1 (ps cs (hs)) k a (by omega) (by omega)) k_X4_read ml_L_84 dL_acts_630 rfl rfl hl.1 (Nat.le_of_ble_eq_true rfl) ⟨Nat.le_of_ble_eq_true rfl, Nat.le_of_ble_eq_true rfl⟩ ⟨Nat.le_of_ble_eq_true rfl, Nat.le_of_ble_eq_true rfl⟩ (fun H locs G => ?_)
          refine g_topi (x' := nI u) (by rw [ec1]; exact pw_read ha h_u c_560) ?_
          refine lv_iload hx hb dL_acts_633 (lv_at hl 2 rfl) ?_
          refine lv_icmp_ne (tgt := 668) hx hb dL_acts_635 (by decide) (fun c_635 => ?_) (fun c_635 => ?_)
          · skip
            have c_635 : ¬ (u = u) := fun h => c_635 ((nI_eq (a := u) (b := u) (by omega) (by omega)).mpr h)
            exact absurd rfl c_635
          · skip
            have c_635 : u = u := (nI_eq (a := u) (b := u) (by omega) (by omega)).mp c_635
            refine lv_aload_n hx hb dL_acts_638 rfl (lv_at hl 0 rfl) ?_
            refine lv_iload_n hx hb dL_acts_639 rfl (lv_at hl 1 rfl) ?_
            refine lv_iload hx hb dL_acts_640 (lv_at hl 3 rfl) ?_
            refine l_callV (As := [.int (nI k), .int (nI a)]) (rest := []) (cs' := c1) (hs' := ps cs (hs)) (r := .int (rvI (tK (c1 k)) (tO (c1 k)) a)) C0 G (l_value l D cy ad tv c1 (ps cs (hs)) k a (by omega) (by omega)) k_X4_value ml_L_87 dL_acts_642 rfl rfl hl.1 (Nat.le_of_ble_eq_true rfl) ⟨Nat.le_of_ble_eq_true rfl, Nat.le_of_ble_eq_true rfl⟩ ⟨Nat.le_of_ble_eq_true rfl, Nat.le_of_ble_eq_true rfl⟩ (fun H locs G => ?_)
            refine g_topi (x' := nI u) (by rw [ec1]; exact pw_value ha h_u c_560) ?_
            refine lv_iload hx hb dL_acts_645 (lv_at hl 2 rfl) ?_
            refine lv_icmp_ne (tgt := 668) hx hb dL_acts_647 (by decide) (fun c_647 => ?_) (fun c_647 => ?_)
            · skip
              have c_647 : ¬ (u = u) := fun h => c_647 ((nI_eq (a := u) (b := u) (by omega) (by omega)).mpr h)
              exact absurd rfl c_647
            · skip
              have c_647 : u = u := (nI_eq (a := u) (b := u) (by omega) (by omega)).mp c_647
              refine lv_aload_n hx hb dL_acts_650 rfl (lv_at hl 0 rfl) ?_
              refine lv_iload_n hx hb dL_acts_651 rfl (lv_at hl 1 rfl) ?_
              refine lv_iload hx hb dL_acts_652 (lv_at hl 3 rfl) ?_
              refine lv_bipush (v := 7) hx hb dL_acts_654 (by decide) ?_
              refine l_callV (As := [.int (nI k), .int (nI a), .int 7]) (rest := []) (cs' := c1) (hs' := ps cs (hs)) (r := .int (nI (kdN (c1 k).1 (c1 k).2.1 (8 * a + 7)))) C0 G (l_kind l D cy ad tv c1 (ps cs (hs)) k a 7 (by omega) (by omega) (by omega)) k_X4_kind ml_L_13 dL_acts_656 rfl rfl hl.1 (Nat.le_of_ble_eq_true rfl) ⟨Nat.le_of_ble_eq_true rfl, Nat.le_of_ble_eq_true rfl⟩ ⟨Nat.le_of_ble_eq_true rfl, Nat.le_of_ble_eq_true rfl⟩ (fun H locs G => ?_)
              refine g_topi (x' := nI (pc7 u % 2)) (congrArg nI (by rw [ec1]; exact pw_kind ha c_560)) ?_
              refine lv_iload hx hb dL_acts_659 (lv_at hl 4 rfl) ?_
              refine lv_icmp_ne (tgt := 668) hx hb dL_acts_661 (by decide) (fun c_661 => ?_) (fun c_661 => ?_)
              · skip
                have c_661 : ¬ ((pc7 u % 2) = (pc7 u % 2)) := fun h => c_661 ((nI_eq (a := pc7 u % 2) (b := pc7 u % 2) (by omega) (by omega)).mpr h)
                exact absurd rfl c_661
              · skip
                have c_661 : (pc7 u % 2) = (pc7 u % 2) := (nI_eq (a := pc7 u % 2) (b := pc7 u % 2) (by omega) (by omega)).mp c_661
                refine lv_iconst (v := 1) hx hb dL_acts_664 (by decide) ?_
                refine lv_goto (tgt := 669) hx hb dL_acts_665 (by decide) ?_
                have G : gL D cy ad tv (actS px py cs) (ps cs hs) A s _ _ := l_eq (hc1.trans (hact.trans (by unfold actW; rw [if_neg (by omega), if_neg (by omega), if_neg (by omega), if_neg (by omega), if_neg (by omega), ← ea, if_pos c_560])).symm) rfl G
                exact l_zret C0 G rfl dL_acts_669
      · skip
        have c_591 : ¬ (7 ≤ i) := fun h => c_591 ((nI_leI (a := 7) (b := i) (by omega) (by omega)).mpr h)
        refine lv_iload hx hb dL_acts_594 (lv_at hl 4 rfl) ?_
        refine lv_iload hx hb dL_acts_596 (lv_at hl 2 rfl) ?_
        refine lv_iload hx hb dL_acts_598 (lv_at hl 5 rfl) ?_
        refine lv_ishr hx hb dL_acts_600 ?_
        refine g_topi (x' := nI (u / 2 ^ i)) (shrN (a := u) (n := i) (by omega) (by omega)) ?_
        refine lv_iconst (v := 1) hx hb dL_acts_601 (by decide) ?_
        refine lv_iand hx hb dL_acts_602 ?_
        refine g_topi (x' := nI ((u / 2 ^ i) % 2)) (and1 (u / 2 ^ i)) ?_
        refine lv_ixor hx hb dL_acts_603 ?_
        refine g_topi (x' := nI (xlN u (i + 1))) (xor2 (a := xlN u i) (b := u / 2 ^ i % 2) (xlN_lt u i) (Nat.mod_lt _ (by decide))) ?_
        refine lv_istore (lv' := [(17, .int (nI (xlN u (i + 1)))), (0, .ref (ad 0)), (3, .int (nI k)), (15, .int (nI u)), (16, .int (nI a)), (18, .int (nI i))]) hx hb dL_acts_604 hl (by decide) rfl (fun ls hl => ?_)
        refine lv_iinc (v := nI (i + 1)) (lv' := [(18, .int (nI (i + 1))), (17, .int (nI (xlN u (i + 1)))), (0, .ref (ad 0)), (3, .int (nI k)), (15, .int (nI u)), (16, .int (nI a))]) hx hb dL_acts_606 hl (k := 5) rfl (nI_add i 1) (by decide) rfl (fun ls hl => ?_)
        refine lv_goto (tgt := 587) hx hb dL_acts_609 (by decide) ?_
        have hl := lv_sub hl (l' := _) [2, 3, 4, 5, 1, 0] rfl
        exact ih_587 (i + 1) (by show _ ≤ _; omega) (by show _ < _; omega) _ _ _ G hl
    · skip
      have c_560 : (cpB (cs k).1 (cs k).2.1 a) = false := bI_f c_560
      refine lv_aload_n hx hb dL_acts_563 rfl (lv_at hl 0 rfl) ?_
      refine lv_iload_n hx hb dL_acts_564 rfl (lv_at hl 3 rfl) ?_
      refine lv_iload hx hb dL_acts_565 (lv_at hl 6 rfl) ?_
      refine l_callV (As := [.int (nI k), .int (nI ((cs k).2.2))]) (rest := []) (cs' := va_up cs k ((cs k).1, (cs k).2.1, ((cs k).2.2))) (hs' := ps cs (hs)) (r := .int (nI ((cs k).2.2))) C0 G (l_turn l D cy ad tv cs (hs) k ((cs k).2.2) (by omega) (by omega)) k_X4_turn ml_L_54 dL_acts_567 rfl rfl hl.1 (Nat.le_of_ble_eq_true rfl) ⟨Nat.le_of_ble_eq_true rfl, Nat.le_of_ble_eq_true rfl⟩ ⟨Nat.le_of_ble_eq_true rfl, Nat.le_of_ble_eq_true rfl⟩ (fun H locs G => ?_)
      obtain ⟨c1, hc1⟩ : ∃ g9 : Nat → Cd, g9 = va_up cs k ((cs k).1, (cs k).2.1, ((cs k).2.2)) := ⟨_, rfl⟩
      have G : gL D cy ad tv c1 (ps cs (hs)) A s _ _ := l_eq hc1.symm rfl G
      have ec1 : c1 k = ((cs k).1, (cs k).2.1, ((cs k).2.2)) := by rw [hc1]; exact va_up_e _ _ _
      refine lv_iload hx hb dL_acts_570 (lv_at hl 6 rfl) ?_
      refine lv_icmp_ne (tgt := 579) hx hb dL_acts_572 (by decide) (fun c_572 => ?_) (fun c_572 => ?_)
      · skip
        have c_572 : ¬ (((cs k).2.2) = ((cs k).2.2)) := fun h => c_572 ((nI_eq (a := (cs k).2.2) (b := (cs k).2.2) (by omega) (by omega)).mpr h)
        exact absurd rfl c_572
      · skip
        have c_572 : ((cs k).2.2) = ((cs k).2.2) := (nI_eq (a := (cs k).2.2) (b := (cs k).2.2) (by omega) (by omega)).mp c_572
        refine lv_iconst (v := 1) hx hb dL_acts_575 (by decide) ?_
        refine lv_goto (tgt := 580) hx hb dL_acts_576 (by decide) ?_
        have G : gL D cy ad tv (actS px py cs) (ps cs hs) A s _ _ := l_eq (hc1.trans (hact.trans (by unfold actW; rw [if_neg (by omega), if_neg (by omega), if_neg (by omega), if_neg (by omega), if_neg (by omega), ← ea, if_neg (by rw [c_560]; decide)])).symm) rfl G
        exact l_zret C0 G rfl dL_acts_580
  · skip
    have c_525 : ¬ (7 ≤ i) := fun h => c_525 ((nI_leI (a := 7) (b := i) (by omega) (by omega)).mpr h)
    refine lv_aload_n hx hb dL_acts_528 rfl (lv_at hl 0 rfl) ?_
    refine lv_iload_n hx hb dL_acts_529 rfl (lv_at hl 3 rfl) ?_
    refine lv_iload hx hb dL_acts_530 (lv_at hl 8 rfl) ?_
    refine l_callS (As := [.ref (ad 0), .int (nI k), .int (nI ((r + i) % 7))]) (rest := []) (cs' := cs) (hs' := hs) (r := .int (bI (cpB (cs k).1 (cs k).2.1 ((r + i) % 7)))) C0 G (h_isBlank l D cy ad tv cs (hs) k ((r + i) % 7) (by omega) (by omega)) k_L_isBlank ml_L_23 dL_acts_532 rfl rfl hl.1 (Nat.le_of_ble_eq_true rfl) ⟨Nat.le_of_ble_eq_true rfl, Nat.le_of_ble_eq_true rfl⟩ ⟨Nat.le_of_ble_eq_true rfl, Nat.le_of_ble_eq_true rfl⟩ (fun H locs G => ?_)
    refine lv_if_ne (tgt := 553) hx hb dL_acts_535 (by decide) (fun c_535 => ?_) (fun c_535 => ?_)
    · skip
      have c_535 : (cpB (cs k).1 (cs k).2.1 ((r + i) % 7)) = true := bI_t c_535
      obtain ⟨a, ea⟩ : ∃ g9 : Nat, g9 = (r + sr (fun u9 => cpB (cs k).1 (cs k).2.1 ((r + u9) % 7)) 7) % 7 := ⟨_, rfl⟩
      have ha : a < 7 := by omega
      have hsr : sr (fun u9 => cpB (cs k).1 (cs k).2.1 ((r + u9) % 7)) 7 = i := sr_hit hi2 c_535 7 (by omega)
      have hl := hl
      rw [show nI ((r + i) % 7) = nI a from congrArg nI (by rw [ea, hsr])] at hl
      have hl : lv_has ls 19 [(0, .ref (ad 0)), (1, .int px), (2, .int py), (3, .int (nI k)), (4, .int (nI r)), (5, .int (nI q)), (6, .int (nI ((cs k).2.2))), (15, .int (nI u)), (16, .int (nI a)), (17, .int (nI i))] := hl
      refine lv_aload_n hx hb dL_acts_553 rfl (lv_at hl 0 rfl) ?_
      refine lv_iload_n hx hb dL_acts_554 rfl (lv_at hl 3 rfl) ?_
      refine lv_iload hx hb dL_acts_555 (lv_at hl 8 rfl) ?_
      refine l_callS (As := [.ref (ad 0), .int (nI k), .int (nI a)]) (rest := []) (cs' := cs) (hs' := hs) (r := .int (bI (cpB (cs k).1 (cs k).2.1 a))) C0 G (h_isBlank l D cy ad tv cs (hs) k a (by omega) (by omega)) k_L_isBlank ml_L_23 dL_acts_557 rfl rfl hl.1 (Nat.le_of_ble_eq_true rfl) ⟨Nat.le_of_ble_eq_true rfl, Nat.le_of_ble_eq_true rfl⟩ ⟨Nat.le_of_ble_eq_true rfl, Nat.le_of_ble_eq_true rfl⟩ (fun H locs G => ?_)
      refine lv_if_ne (tgt := 581) hx hb dL_acts_560 (by decide) (fun c_560 => ?_) (fun c_560 => ?_)
      · skip
        have c_560 : (cpB (cs k).1 (cs k).2.1 a) = true := bI_t c_560
        refine lv_iconst (v := 0) hx hb dL_acts_581 (by decide) ?_
        refine lv_istore (lv' := [(17, .int 0), (0, .ref (ad 0)), (1, .int px), (2, .int py), (3, .int (nI k)), (4, .int (nI r)), (5, .int (nI q)), (6, .int (nI ((cs k).2.2))), (15, .int (nI u)), (16, .int (nI a))]) hx hb dL_acts_582 hl (by decide) rfl (fun ls hl => ?_)
        refine lv_iconst (v := 0) hx hb dL_acts_584 (by decide) ?_
        refine lv_istore (lv' := [(18, .int 0), (17, .int 0), (0, .ref (ad 0)), (1, .int px), (2, .int py), (3, .int (nI k)), (4, .int (nI r)), (5, .int (nI q)), (6, .int (nI ((cs k).2.2))), (15, .int (nI u)), (16, .int (nI a))]) hx hb dL_acts_585 hl (by decide) rfl (fun ls hl => ?_)
        have hl := lv_sub hl (l' := [(0, .ref (ad 0)), (3, .int (nI k)), (15, .int (nI u)), (16, .int (nI a)), (17, .int 0), (18, .int 0)]) [2, 5, 9, 10, 1, 0] rfl
        refine l_loop (σ := Nat) (fun i => 7 - i) (fun i => [(0, .ref (ad 0)), (3, .int (nI k)), (15, .int (nI u)), (16, .int (nI a)), (17, .int (nI (xlN u i))), (18, .int (nI i))]) (fun i => i ≤ 7) ?_ 0 (by show _ ≤ _; omega) G hl
        intro i hi_587 ih_587 H locs ls G hl
        have hl : lv_has ls 19 [(0, .ref (ad 0)), (3, .int (nI k)), (15, .int (nI u)), (16, .int (nI a)), (17, .int (nI (xlN u i))), (18, .int (nI i))] := hl
        refine lv_iload hx hb dL_acts_587 (lv_at hl 5 rfl) ?_
        refine lv_bipush (v := 7) hx hb dL_acts_589 (by decide) ?_
        refine lv_icmp_ge (tgt := 612) hx hb dL_acts_591 (by decide) (fun c_591 => ?_) (fun c_591 => ?_)
        · skip
          have c_591 : 7 ≤ i := (nI_leI (a := 7) (b := i) (by omega) (by omega)).mp c_591
          obtain rfl : i = 7 := by omega
          have hl : lv_has ls 19 [(0, .ref (ad 0)), (3, .int (nI k)), (15, .int (nI u)), (16, .int (nI a)), (17, .int (nI (xlN u 7))), (18, .int (nI 7))] := hl
          have hl := hl
          rw [show nI (xlN u 7) = nI (pc7 u % 2) from congrArg nI (xlN_7 u h_u)] at hl
          have hl : lv_has ls 19 [(0, .ref (ad 0)), (3, .int (nI k)), (15, .int (nI u)), (16, .int (nI a)), (17, .int (nI (pc7 u % 2))), (18, .int (nI 7))] := hl
          refine lv_aload_n hx hb dL_acts_612 rfl (lv_at hl 0 rfl) ?_
          refine lv_iload_n hx hb dL_acts_613 rfl (lv_at hl 1 rfl) ?_
          refine lv_iload hx hb dL_acts_614 (lv_at hl 3 rfl) ?_
          refine lv_iload hx hb dL_acts_616 (lv_at hl 2 rfl) ?_
          refine l_callV (As := [.int (nI k), .int (nI a), .int (nI u)]) (rest := []) (cs' := va_up cs k (pwF (cs k).1 a u, pwB (cs k).2.1 a u, (cs k).2.2)) (hs' := ps cs (hs)) (r := .int (nI (pc7 u % 2))) C0 G (l_punch l D cy ad tv cs (hs) k a u (by omega) (by omega) (by omega) c_560) k_X4_punch ml_L_81 dL_acts_618 rfl rfl hl.1 (Nat.le_of_ble_eq_true rfl) ⟨Nat.le_of_ble_eq_true rfl, Nat.le_of_ble_eq_true rfl⟩ ⟨Nat.le_of_ble_eq_true rfl, Nat.le_of_ble_eq_true rfl⟩ (fun H locs G => ?_)
          obtain ⟨c1, hc1⟩ : ∃ g9 : Nat → Cd, g9 = va_up cs k (pwF (cs k).1 a u, pwB (cs k).2.1 a u, (cs k).2.2) := ⟨_, rfl⟩
          have G : gL D cy ad tv c1 (ps cs (hs)) A s _ _ := l_eq hc1.symm rfl G
          have ec1 : c1 k = (pwF (cs k).1 a u, pwB (cs k).2.1 a u, (cs k).2.2) := by rw [hc1]; exact va_up_e _ _ _
          refine lv_iload hx hb dL_acts_621 (lv_at hl 4 rfl) ?_
          refine lv_icmp_ne (tgt := 668) hx hb dL_acts_623 (by decide) (fun c_623 => ?_) (fun c_623 => ?_)
          · skip
            have c_623 : ¬ ((pc7 u % 2) = (pc7 u % 2)) := fun h => c_623 ((nI_eq (a := pc7 u % 2) (b := pc7 u % 2) (by omega) (by omega)).mpr h)
            exact absurd rfl c_623
          · skip
            have c_623 : (pc7 u % 2) = (pc7 u % 2) := (nI_eq (a := pc7 u % 2) (b := pc7 u % 2) (by omega) (by omega)).mp c_623
            refine lv_aload_n hx hb dL_acts_626 rfl (lv_at hl 0 rfl) ?_
            refine lv_iload_n hx hb dL_acts_627 rfl (lv_at hl 1 rfl) ?_
            refine lv_iload hx hb dL_acts_628 (lv_at hl 3 rfl) ?_
            refine l_callV (As := [.int (nI k), .int (nI a)]) (rest := []) (cs' := c1) (hs' := ps cs (hs)) (r := .int (rvI (sdW (c1 k).1 (c1 k).2.1) (onW (c1 k).1 (c1 k).2.1) a)) C0 G (l_read l D cy ad tv c1 (ps cs (hs)) k a (by omega) (by omega)) k_X4_read ml_L_84 dL_acts_630 rfl rfl hl.1 (Nat.le_of_ble_eq_true rfl) ⟨Nat.le_of_ble_eq_true rfl, Nat.le_of_ble_eq_true rfl⟩ ⟨Nat.le_of_ble_eq_true rfl, Nat.le_of_ble_eq_true rfl⟩ (fun H locs G => ?_)
            refine g_topi (x' := nI u) (by rw [ec1]; exact pw_read ha h_u c_560) ?_
            refine lv_iload hx hb dL_acts_633 (lv_at hl 2 rfl) ?_
            refine lv_icmp_ne (tgt := 668) hx hb dL_acts_635 (by decide) (fun c_635 => ?_) (fun c_635 => ?_)
            · skip
              have c_635 : ¬ (u = u) := fun h => c_635 ((nI_eq (a := u) (b := u) (by omega) (by omega)).mpr h)
              exact absurd rfl c_635
            · skip
              have c_635 : u = u := (nI_eq (a := u) (b := u) (by omega) (by omega)).mp c_635
              refine lv_aload_n hx hb dL_acts_638 rfl (lv_at hl 0 rfl) ?_
              refine lv_iload_n hx hb dL_acts_639 rfl (lv_at hl 1 rfl) ?_
              refine lv_iload hx hb dL_acts_640 (lv_at hl 3 rfl) ?_
              refine l_callV (As := [.int (nI k), .int (nI a)]) (rest := []) (cs' := c1) (hs' := ps cs (hs)) (r := .int (rvI (tK (c1 k)) (tO (c1 k)) a)) C0 G (l_value l D cy ad tv c1 (ps cs (hs)) k a (by omega) (by omega)) k_X4_value ml_L_87 dL_acts_642 rfl rfl hl.1 (Nat.le_of_ble_eq_true rfl) ⟨Nat.le_of_ble_eq_true rfl, Nat.le_of_ble_eq_true rfl⟩ ⟨Nat.le_of_ble_eq_true rfl, Nat.le_of_ble_eq_true rfl⟩ (fun H locs G => ?_)
              refine g_topi (x' := nI u) (by rw [ec1]; exact pw_value ha h_u c_560) ?_
              refine lv_iload hx hb dL_acts_645 (lv_at hl 2 rfl) ?_
              refine lv_icmp_ne (tgt := 668) hx hb dL_acts_647 (by decide) (fun c_647 => ?_) (fun c_647 => ?_)
              · skip
                have c_647 : ¬ (u = u) := fun h => c_647 ((nI_eq (a := u) (b := u) (by omega) (by omega)).mpr h)
                exact absurd rfl c_647
              · skip
                have c_647 : u = u := (nI_eq (a := u) (b := u) (by omega) (by omega)).mp c_647
                refine lv_aload_n hx hb dL_acts_650 rfl (lv_at hl 0 rfl) ?_
                refine lv_iload_n hx hb dL_acts_651 rfl (lv_at hl 1 rfl) ?_
                refine lv_iload hx hb dL_acts_652 (lv_at hl 3 rfl) ?_
                refine lv_bipush (v := 7) hx hb dL_acts_654 (by decide) ?_
                refine l_callV (As := [.int (nI k), .int (nI a), .int 7]) (rest := []) (cs' := c1) (hs' := ps cs (hs)) (r := .int (nI (kdN (c1 k).1 (c1 k).2.1 (8 * a + 7)))) C0 G (l_kind l D cy ad tv c1 (ps cs (hs)) k a 7 (by omega) (by omega) (by omega)) k_X4_kind ml_L_13 dL_acts_656 rfl rfl hl.1 (Nat.le_of_ble_eq_true rfl) ⟨Nat.le_of_ble_eq_true rfl, Nat.le_of_ble_eq_true rfl⟩ ⟨Nat.le_of_ble_eq_true rfl, Nat.le_of_ble_eq_true rfl⟩ (fun H locs G => ?_)
                refine g_topi (x' := nI (pc7 u % 2)) (congrArg nI (by rw [ec1]; exact pw_kind ha c_560)) ?_
                refine lv_iload hx hb dL_acts_659 (lv_at hl 4 rfl) ?_
                refine lv_icmp_ne (tgt := 668) hx hb dL_acts_661 (by decide) (fun c_661 => ?_) (fun c_661 => ?_)
                · skip
                  have c_661 : ¬ ((pc7 u % 2) = (pc7 u % 2)) := fun h => c_661 ((nI_eq (a := pc7 u % 2) (b := pc7 u % 2) (by omega) (by omega)).mpr h)
                  exact absurd rfl c_661
                · skip
                  have c_661 : (pc7 u % 2) = (pc7 u % 2) := (nI_eq (a := pc7 u % 2) (b := pc7 u % 2) (by omega) (by omega)).mp c_661
                  refine lv_iconst (v := 1) hx hb dL_acts_664 (by decide) ?_
                  refine lv_goto (tgt := 669) hx hb dL_acts_665 (by decide) ?_
                  have G : gL D cy ad tv (actS px py cs) (ps cs hs) A s _ _ := l_eq (hc1.trans (hact.trans (by unfold actW; rw [if_neg (by omega), if_neg (by omega), if_neg (by omega), if_neg (by omega), if_neg (by omega), ← ea, if_pos c_560])).symm) rfl G
                  exact l_zret C0 G rfl dL_acts_669
        · skip
          have c_591 : ¬ (7 ≤ i) := fun h => c_591 ((nI_leI (a := 7) (b := i) (by omega) (by omega)).mpr h)
          refine lv_iload hx hb dL_acts_594 (lv_at hl 4 rfl) ?_
          refine lv_iload hx hb dL_acts_596 (lv_at hl 2 rfl) ?_
          refine lv_iload hx hb dL_acts_598 (lv_at hl 5 rfl) ?_
          refine lv_ishr hx hb dL_acts_600 ?_
          refine g_topi (x' := nI (u / 2 ^ i)) (shrN (a := u) (n := i) (by omega) (by omega)) ?_
          refine lv_iconst (v := 1) hx hb dL_acts_601 (by decide) ?_
          refine lv_iand hx hb dL_acts_602 ?_
          refine g_topi (x' := nI ((u / 2 ^ i) % 2)) (and1 (u / 2 ^ i)) ?_
          refine lv_ixor hx hb dL_acts_603 ?_
          refine g_topi (x' := nI (xlN u (i + 1))) (xor2 (a := xlN u i) (b := u / 2 ^ i % 2) (xlN_lt u i) (Nat.mod_lt _ (by decide))) ?_
          refine lv_istore (lv' := [(17, .int (nI (xlN u (i + 1)))), (0, .ref (ad 0)), (3, .int (nI k)), (15, .int (nI u)), (16, .int (nI a)), (18, .int (nI i))]) hx hb dL_acts_604 hl (by decide) rfl (fun ls hl => ?_)
          refine lv_iinc (v := nI (i + 1)) (lv' := [(18, .int (nI (i + 1))), (17, .int (nI (xlN u (i + 1)))), (0, .ref (ad 0)), (3, .int (nI k)), (15, .int (nI u)), (16, .int (nI a))]) hx hb dL_acts_606 hl (k := 5) rfl (nI_add i 1) (by decide) rfl (fun ls hl => ?_)
          refine lv_goto (tgt := 587) hx hb dL_acts_609 (by decide) ?_
          have hl := lv_sub hl (l' := _) [2, 3, 4, 5, 1, 0] rfl
          exact ih_587 (i + 1) (by show _ ≤ _; omega) (by show _ < _; omega) _ _ _ G hl
      · skip
        have c_560 : (cpB (cs k).1 (cs k).2.1 a) = false := bI_f c_560
        refine lv_aload_n hx hb dL_acts_563 rfl (lv_at hl 0 rfl) ?_
        refine lv_iload_n hx hb dL_acts_564 rfl (lv_at hl 3 rfl) ?_
        refine lv_iload hx hb dL_acts_565 (lv_at hl 6 rfl) ?_
        refine l_callV (As := [.int (nI k), .int (nI ((cs k).2.2))]) (rest := []) (cs' := va_up cs k ((cs k).1, (cs k).2.1, ((cs k).2.2))) (hs' := ps cs (hs)) (r := .int (nI ((cs k).2.2))) C0 G (l_turn l D cy ad tv cs (hs) k ((cs k).2.2) (by omega) (by omega)) k_X4_turn ml_L_54 dL_acts_567 rfl rfl hl.1 (Nat.le_of_ble_eq_true rfl) ⟨Nat.le_of_ble_eq_true rfl, Nat.le_of_ble_eq_true rfl⟩ ⟨Nat.le_of_ble_eq_true rfl, Nat.le_of_ble_eq_true rfl⟩ (fun H locs G => ?_)
        obtain ⟨c1, hc1⟩ : ∃ g9 : Nat → Cd, g9 = va_up cs k ((cs k).1, (cs k).2.1, ((cs k).2.2)) := ⟨_, rfl⟩
        have G : gL D cy ad tv c1 (ps cs (hs)) A s _ _ := l_eq hc1.symm rfl G
        have ec1 : c1 k = ((cs k).1, (cs k).2.1, ((cs k).2.2)) := by rw [hc1]; exact va_up_e _ _ _
        refine lv_iload hx hb dL_acts_570 (lv_at hl 6 rfl) ?_
        refine lv_icmp_ne (tgt := 579) hx hb dL_acts_572 (by decide) (fun c_572 => ?_) (fun c_572 => ?_)
        · skip
          have c_572 : ¬ (((cs k).2.2) = ((cs k).2.2)) := fun h => c_572 ((nI_eq (a := (cs k).2.2) (b := (cs k).2.2) (by omega) (by omega)).mpr h)
          exact absurd rfl c_572
        · skip
          have c_572 : ((cs k).2.2) = ((cs k).2.2) := (nI_eq (a := (cs k).2.2) (b := (cs k).2.2) (by omega) (by omega)).mp c_572
          refine lv_iconst (v := 1) hx hb dL_acts_575 (by decide) ?_
          refine lv_goto (tgt := 580) hx hb dL_acts_576 (by decide) ?_
          have G : gL D cy ad tv (actS px py cs) (ps cs hs) A s _ _ := l_eq (hc1.trans (hact.trans (by unfold actW; rw [if_neg (by omega), if_neg (by omega), if_neg (by omega), if_neg (by omega), if_neg (by omega), ← ea, if_neg (by rw [c_560]; decide)])).symm) rfl G
          exact l_zret C0 G rfl dL_acts_580
    · skip
      have c_535 : (cpB (cs k).1 (cs k).2.1 ((r + i) % 7)) = false := bI_f c_535
      refine lv_iload hx hb dL_acts_538 (lv_at hl 8 rfl) ?_
      refine lv_iconst (v := 1) hx hb dL_acts_540 (by decide) ?_
      refine lv_iadd hx hb dL_acts_541 ?_
      refine g_topi (x' := nI (((r + i) % 7) + 1)) (nI_add ((r + i) % 7) 1) ?_
      refine lv_bipush (v := 7) hx hb dL_acts_542 (by decide) ?_
      refine lv_irem hx hb dL_acts_544 (by decide) ?_
      refine g_topi (x' := nI ((((r + i) % 7) + 1) % 7)) (pk_rem (a := ((r + i) % 7) + 1) (d := 7) (by omega) (by decide) (by decide)) ?_
      refine lv_istore (lv' := [(16, .int (nI ((((r + i) % 7) + 1) % 7))), (0, .ref (ad 0)), (1, .int px), (2, .int py), (3, .int (nI k)), (4, .int (nI r)), (5, .int (nI q)), (6, .int (nI ((cs k).2.2))), (15, .int (nI u)), (17, .int (nI i))]) hx hb dL_acts_545 hl (by decide) rfl (fun ls hl => ?_)
      refine lv_iinc (v := nI (i + 1)) (lv' := [(17, .int (nI (i + 1))), (16, .int (nI ((((r + i) % 7) + 1) % 7))), (0, .ref (ad 0)), (1, .int px), (2, .int py), (3, .int (nI k)), (4, .int (nI r)), (5, .int (nI q)), (6, .int (nI ((cs k).2.2))), (15, .int (nI u))]) hx hb dL_acts_547 hl (k := 9) rfl (nI_add i 1) (by decide) rfl (fun ls hl => ?_)
      refine lv_goto (tgt := 521) hx hb dL_acts_550 (by decide) ?_
      have hl := lv_sub hl (l' := _) [2, 3, 4, 5, 6, 7, 8, 9, 1, 0] rfl
      exact ih_521 (i + 1) ⟨by omega, sr_no hi2 c_535⟩ (by show _ < _; omega) _ _ _ G (by rw [show (r + (i + 1)) % 7 = ((r + i) % 7 + 1) % 7 by omega]; exact hl)
