set_option maxHeartbeats 4000000 in
set_option maxRecDepth 100000 in
theorem law_loop {p : Program} {l : Launch} {e : Env} {s : State} {m : MethodId} {below : List Frame} {meth : Method} {c : Code} {D : va_G} {cy : Nat → ClassId} {ad : Nat → Nat} {tv b L : Nat} {xs : Nat → Int32} (C0 : gC p s m #[.ref b] meth c code 13 (some .boolean) RL D (gts cy) (fun q : Nat => s.heap.size ≤ q)) (hr : meth.sig.returnType = ret) (hXs : va_X b L xs s s.heap) (hbl : b < s.heap.size) (hL : L ≤ 260) :
    ∀ (d t : Nat), 40 - t < d → t ≤ 40 → ∀ (cs : Nat → Cd) (hs : List (Nat → Cd)) (H : Heap) (locs : List Loc) (ls : Array Slot), Vk cs → gL D cy ad tv cs hs (fun q : Nat => s.heap.size ≤ q) s H locs → lv_has ls 13 [(0, .ref b), (1, .ref (ad 0)), (2, .int 1), (3, .int (nI t))] → W p l e room_1 s m #[.ref b] below meth c H locs 41 206 (lw_Z below #[Value.ref b] s) (F0 m 33 ls []) := by
  have hx := C0.1
  have hb := C0.2.1
  have hown := C0.2.2.2.2.2.1
  have hts := C0.2.2.2.2.2.2.1
  have hlocks := C0.2.2.2.2.1
  have hbA : ¬ (fun q : Nat => s.heap.size ≤ q) b := Nat.not_le.mpr hbl
  intro d
  induction d with
  | zero => intro t h; exact absurd h (Nat.not_lt_zero _)
  | succ d ih =>
    intro t hd ht cs hs H locs ls hv G hl
    have hlen := l_len G
    have hpl := ps_len cs hlen
    have hp1 : hs.length < 6 → (ps cs hs).length = hs.length + 1 := fun h => hpl.trans (if_pos h)
    have hp2 : ¬ hs.length < 6 → (ps cs hs).length = 6 := fun h => hpl.trans (if_neg h)
    have hp5 : (ps cs hs).length = (hs.take 5).length + 1 := rfl
    refine lv_iload_n hx hb dL_law_33 rfl (lv_at hl 3 rfl) ?_
    refine lv_bipush (v := 40) hx hb dL_law_34 (by decide) ?_
    refine lv_icmp_ge (tgt := 273) hx hb dL_law_36 (by decide) (fun c_36 => ?_) (fun c_36 => ?_)
    · skip
      have c_36 : 40 ≤ t := (nI_leI (a := 40) (b := t) (by omega) (by omega)).mp c_36
      refine lv_iload_n hx hb dL_law_273 rfl (lv_at hl 2 rfl) ?_
      refine va_forget (fun q hq => l_locs G q hq) ?_
      refine W.widen (k := 769147) (n := 6794027) (Nat.le_of_ble_eq_true rfl) (Nat.le_of_ble_eq_true rfl) ?_
      refine W.base ?_
      exact lw_ret (Drawn.sameBut.refl s.drawn lw_cs) hx hb hr hlocks dL_law_274
    · skip
      have c_36 : ¬ (40 ≤ t) := fun h => c_36 ((nI_leI (a := 40) (b := t) (by omega) (by omega)).mpr h)
      refine lv_iload_n hx hb dL_law_39 rfl (lv_at hl 2 rfl) ?_
      refine lv_if_eq (tgt := 273) hx hb dL_law_40 (by decide) (fun c_40 => ?_) (fun c_40 => ?_)
      · exact absurd c_40 (by decide)
      · skip
        refine lv_aload_n hx hb dL_law_43 rfl (lv_at hl 0 rfl) ?_
        refine lv_iconst (v := 2) hx hb dL_law_44 (by decide) ?_
        refine lv_iload_n hx hb dL_law_45 rfl (lv_at hl 3 rfl) ?_
        refine lv_imul hx hb dL_law_46 ?_
        refine g_topi (x' := nI (2 * t)) (pk_mul 2 t) ?_
        refine l_cell C0 G hXs hbl hbA (by omega) (k := 2 * t) (by omega) ml_L_122 dL_law_47 hl.1 (Nat.le_of_ble_eq_true rfl) ⟨Nat.le_of_ble_eq_true rfl, Nat.le_of_ble_eq_true rfl⟩ ⟨Nat.le_of_ble_eq_true rfl, Nat.le_of_ble_eq_true rfl⟩ (fun sx H locs G => ?_)
        refine lv_istore (lv' := [(4, .int sx), (0, .ref b), (1, .ref (ad 0)), (2, .int 1), (3, .int (nI t))]) hx hb dL_law_50 hl (by decide) rfl (fun ls hl => ?_)
        refine lv_aload_n hx hb dL_law_52 rfl (lv_at hl 1 rfl) ?_
        refine lv_iconst (v := 2) hx hb dL_law_53 (by decide) ?_
        refine lv_iload_n hx hb dL_law_54 rfl (lv_at hl 4 rfl) ?_
        refine lv_imul hx hb dL_law_55 ?_
        refine g_topi (x' := nI (2 * t)) (pk_mul 2 t) ?_
        refine lv_iconst (v := 1) hx hb dL_law_56 (by decide) ?_
        refine lv_iadd hx hb dL_law_57 ?_
        refine g_topi (x' := nI ((2 * t) + 1)) (nI_add (2 * t) 1) ?_
        refine l_cell C0 G hXs hbl hbA (by omega) (k := (2 * t) + 1) (by omega) ml_L_122 dL_law_58 hl.1 (Nat.le_of_ble_eq_true rfl) ⟨Nat.le_of_ble_eq_true rfl, Nat.le_of_ble_eq_true rfl⟩ ⟨Nat.le_of_ble_eq_true rfl, Nat.le_of_ble_eq_true rfl⟩ (fun sy H locs G => ?_)
        refine lv_istore (lv' := [(5, .int sy), (4, .int sx), (0, .ref b), (1, .ref (ad 0)), (2, .int 1), (3, .int (nI t))]) hx hb dL_law_61 hl (by decide) rfl (fun ls hl => ?_)
        refine lv_iload hx hb dL_law_63 (lv_at hl 0 rfl) ?_
        refine lv_iconst (v := 3) hx hb dL_law_65 (by decide) ?_
        refine l_callS (As := [.int sy, .int 3]) (rest := []) (cs' := cs) (hs' := hs) (r := .int (nI (upN sy 3))) C0 G (GL.pure (fun W1 => c_L_up l D cy W1 sy 3 (by omega) (by omega))) k_L_up ml_L_29 dL_law_66 rfl rfl hl.1 (Nat.le_of_ble_eq_true rfl) ⟨Nat.le_of_ble_eq_true rfl, Nat.le_of_ble_eq_true rfl⟩ ⟨Nat.le_of_ble_eq_true rfl, Nat.le_of_ble_eq_true rfl⟩ (fun H locs G => ?_)
        obtain ⟨k, ek⟩ : ∃ g9 : Nat, g9 = upN sy 3 := ⟨_, rfl⟩
        have hk : k < 3 := by rw [ek]; exact upN_lt _ (by decide)
        refine g_topi (x' := nI k) (congrArg nI ek.symm) ?_
        refine lv_istore (lv' := [(6, .int (nI k)), (5, .int sy), (4, .int sx), (0, .ref b), (1, .ref (ad 0)), (2, .int 1), (3, .int (nI t))]) hx hb dL_law_69 hl (by decide) rfl (fun ls hl => ?_)
        refine lv_aload_n hx hb dL_law_71 rfl (lv_at hl 4 rfl) ?_
        refine l_callS (As := [.ref (ad 0)]) (rest := []) (cs' := cs) (hs' := hs) (r := .long (kiC cs)) C0 G (h_kinds l D cy ad tv cs (hs)  ) k_L_kinds ml_L_48 dL_law_72 rfl rfl hl.1 (Nat.le_of_ble_eq_true rfl) ⟨Nat.le_of_ble_eq_true rfl, Nat.le_of_ble_eq_true rfl⟩ ⟨Nat.le_of_ble_eq_true rfl, Nat.le_of_ble_eq_true rfl⟩ (fun H locs G => ?_)
        refine lv_lstore (lv' := [(7, .long (kiC cs)), (6, .int (nI k)), (5, .int sy), (4, .int sx), (0, .ref b), (1, .ref (ad 0)), (2, .int 1), (3, .int (nI t))]) hx hb dL_law_75 hl (by decide) rfl (fun ls hl => ?_)
        refine lv_aload_n hx hb dL_law_77 rfl (lv_at hl 5 rfl) ?_
        refine l_callV (As := []) (rest := []) (cs' := cs) (hs' := hs) (r := .int (nI ((hs).length))) C0 G (l_savedStates l D cy ad tv cs (hs)) k_X4_savedStates ml_L_126 dL_law_78 rfl rfl hl.1 (Nat.le_of_ble_eq_true rfl) ⟨Nat.le_of_ble_eq_true rfl, Nat.le_of_ble_eq_true rfl⟩ ⟨Nat.le_of_ble_eq_true rfl, Nat.le_of_ble_eq_true rfl⟩ (fun H locs G => ?_)
        refine lv_istore (lv' := [(9, .int (nI ((hs).length))), (7, .long (kiC cs)), (6, .int (nI k)), (5, .int sy), (4, .int sx), (0, .ref b), (1, .ref (ad 0)), (2, .int 1), (3, .int (nI t))]) hx hb dL_law_81 hl (by decide) rfl (fun ls hl => ?_)
        refine lv_aload_n hx hb dL_law_83 rfl (lv_at hl 6 rfl) ?_
        refine lv_iload hx hb dL_law_84 (lv_at hl 4 rfl) ?_
        refine lv_iload hx hb dL_law_86 (lv_at hl 3 rfl) ?_
        refine l_callS (As := [.ref (ad 0), .int sx, .int sy]) (rest := []) (cs' := actS sx sy cs) (hs' := ps cs (hs)) (r := .int 1) C0 G (h_acts l D cy ad tv cs (hs) sx sy hv) k_L_acts ml_L_129 dL_law_88 rfl rfl hl.1 (Nat.le_of_ble_eq_true rfl) ⟨Nat.le_of_ble_eq_true rfl, Nat.le_of_ble_eq_true rfl⟩ ⟨Nat.le_of_ble_eq_true rfl, Nat.le_of_ble_eq_true rfl⟩ (fun H locs G => ?_)
        obtain ⟨c1, hc1⟩ : ∃ g9 : Nat → Cd, g9 = actS sx sy cs := ⟨_, rfl⟩
        have G : gL D cy ad tv c1 (ps cs (hs)) (fun q : Nat => s.heap.size ≤ q) s _ _ := l_eq hc1.symm rfl G
        have hv1 : Vk c1 := by rw [hc1]; exact vk_act hv _ _
        refine lv_if_eq (tgt := 121) hx hb dL_law_91 (by decide) (fun c_91 => ?_) (fun c_91 => ?_)
        · exact absurd c_91 (by decide)
        · skip
          refine lv_aload_n hx hb dL_law_94 rfl (lv_at hl 6 rfl) ?_
          refine l_callV (As := []) (rest := []) (cs' := c1) (hs' := ps cs (hs)) (r := .int (nI ((ps cs (hs)).length))) C0 G (l_savedStates l D cy ad tv c1 (ps cs (hs))) k_X4_savedStates ml_L_126 dL_law_95 rfl rfl hl.1 (Nat.le_of_ble_eq_true rfl) ⟨Nat.le_of_ble_eq_true rfl, Nat.le_of_ble_eq_true rfl⟩ ⟨Nat.le_of_ble_eq_true rfl, Nat.le_of_ble_eq_true rfl⟩ (fun H locs G => ?_)
          refine lv_iload hx hb dL_law_98 (lv_at hl 0 rfl) ?_
          refine lv_bipush (v := 6) hx hb dL_law_100 (by decide) ?_
          refine lv_icmp_ge (tgt := 112) hx hb dL_law_102 (by decide) (fun c_102 => ?_) (fun c_102 => ?_)
          · skip
            have c_102 : 6 ≤ ((hs).length) := (nI_leI (a := 6) (b := (hs).length) (by omega) (by omega)).mp c_102
            refine lv_bipush (v := 6) hx hb dL_law_112 (by decide) ?_
            refine lv_icmp_ne (tgt := 121) hx hb dL_law_114 (by decide) (fun c_114 => ?_) (fun c_114 => ?_)
            · skip
              have c_114 : ¬ (((ps cs (hs)).length) = 6) := fun h => c_114 ((nI_eq (a := (ps cs (hs)).length) (b := 6) (by omega) (by omega)).mpr h)
              exact absurd c_114 (by omega)
            · skip
              have c_114 : ((ps cs (hs)).length) = 6 := (nI_eq (a := (ps cs (hs)).length) (b := 6) (by omega) (by omega)).mp c_114
              refine lv_iconst (v := 1) hx hb dL_law_117 (by decide) ?_
              refine lv_goto (tgt := 122) hx hb dL_law_118 (by decide) ?_
              refine lv_istore_n (lv' := [(2, .int 1), (9, .int (nI ((hs).length))), (7, .long (kiC cs)), (6, .int (nI k)), (5, .int sy), (4, .int sx), (0, .ref b), (1, .ref (ad 0)), (3, .int (nI t))]) hx hb dL_law_122 rfl hl (by decide) rfl (fun ls hl => ?_)
              refine lv_iload_n hx hb dL_law_123 rfl (lv_at hl 0 rfl) ?_
              refine lv_if_eq (tgt := 197) hx hb dL_law_124 (by decide) (fun c_124 => ?_) (fun c_124 => ?_)
              · exact absurd c_124 (by decide)
              · skip
                refine lv_iload hx hb dL_law_127 (lv_at hl 5 rfl) ?_
                refine lv_bipush (v := 8) hx hb dL_law_129 (by decide) ?_
                refine lv_ishr hx hb dL_law_131 ?_
                refine lv_iconst (v := 3) hx hb dL_law_132 (by decide) ?_
                refine lv_iand hx hb dL_law_133 ?_
                refine lv_if_ne (tgt := 197) hx hb dL_law_134 (by decide) (fun c_134 => ?_) (fun c_134 => ?_)
                · skip
                  refine lv_iload_n hx hb dL_law_197 rfl (lv_at hl 0 rfl) ?_
                  refine lv_if_eq (tgt := 265) hx hb dL_law_198 (by decide) (fun c_198 => ?_) (fun c_198 => ?_)
                  · exact absurd c_198 (by decide)
                  · skip
                    refine lv_aload_n hx hb dL_law_201 rfl (lv_at hl 7 rfl) ?_
                    refine lv_iload hx hb dL_law_202 (lv_at hl 3 rfl) ?_
                    refine l_callS (As := [.ref (ad 0), .int (nI k)]) (rest := []) (cs' := c1) (hs' := ps cs (hs)) (r := .int 1) C0 G (h_holds l D cy ad tv c1 (ps cs (hs)) k (by omega)) k_L_holds ml_L_119 dL_law_204 rfl rfl hl.1 (Nat.le_of_ble_eq_true rfl) ⟨Nat.le_of_ble_eq_true rfl, Nat.le_of_ble_eq_true rfl⟩ ⟨Nat.le_of_ble_eq_true rfl, Nat.le_of_ble_eq_true rfl⟩ (fun H locs G => ?_)
                    refine lv_if_eq (tgt := 265) hx hb dL_law_207 (by decide) (fun c_207 => ?_) (fun c_207 => ?_)
                    · exact absurd c_207 (by decide)
                    · skip
                      refine lv_iload_n hx hb dL_law_210 rfl (lv_at hl 8 rfl) ?_
                      refine lv_iconst (v := 3) hx hb dL_law_211 (by decide) ?_
                      refine lv_irem hx hb dL_law_212 (by decide) ?_
                      refine g_topi (x' := nI (t % 3)) (pk_rem (a := t) (d := 3) (by omega) (by decide) (by decide)) ?_
                      refine lv_iconst (v := 1) hx hb dL_law_213 (by decide) ?_
                      refine lv_icmp_ne (tgt := 235) hx hb dL_law_214 (by decide) (fun c_214 => ?_) (fun c_214 => ?_)
                      · skip
                        have c_214 : ¬ ((t % 3) = 1) := fun h => c_214 ((nI_eq (a := t % 3) (b := 1) (by omega) (by omega)).mpr h)
                        refine lv_iload_n hx hb dL_law_235 rfl (lv_at hl 8 rfl) ?_
                        refine lv_iconst (v := 3) hx hb dL_law_236 (by decide) ?_
                        refine lv_irem hx hb dL_law_237 (by decide) ?_
                        refine g_topi (x' := nI (t % 3)) (pk_rem (a := t) (d := 3) (by omega) (by decide) (by decide)) ?_
                        refine lv_iconst (v := 2) hx hb dL_law_238 (by decide) ?_
                        refine lv_icmp_ne (tgt := 261) hx hb dL_law_239 (by decide) (fun c_239 => ?_) (fun c_239 => ?_)
                        · skip
                          have c_239 : ¬ ((t % 3) = 2) := fun h => c_239 ((nI_eq (a := t % 3) (b := 2) (by omega) (by omega)).mpr h)
                          refine lv_iconst (v := 1) hx hb dL_law_261 (by decide) ?_
                          refine lv_goto (tgt := 266) hx hb dL_law_262 (by decide) ?_
                          refine lv_istore_n (lv' := [(2, .int 1), (9, .int (nI ((hs).length))), (7, .long (kiC cs)), (6, .int (nI k)), (5, .int sy), (4, .int sx), (0, .ref b), (1, .ref (ad 0)), (3, .int (nI t))]) hx hb dL_law_266 rfl hl (by decide) rfl (fun ls hl => ?_)
                          refine lv_iinc (v := nI (t + 1)) (lv' := [(3, .int (nI (t + 1))), (2, .int 1), (9, .int (nI ((hs).length))), (7, .long (kiC cs)), (6, .int (nI k)), (5, .int sy), (4, .int sx), (0, .ref b), (1, .ref (ad 0))]) hx hb dL_law_267 hl (k := 8) rfl (nI_add t 1) (by decide) rfl (fun ls hl => ?_)
                          refine lv_goto (tgt := 33) hx hb dL_law_270 (by decide) ?_
                          exact ih (t + 1) (by omega) (by omega) _ _ _ _ _ hv1 G (lv_sub hl [7, 8, 1, 0] rfl)
                        · skip
                          have c_239 : (t % 3) = 2 := (nI_eq (a := t % 3) (b := 2) (by omega) (by omega)).mp c_239
                          refine lv_aload_n hx hb dL_law_242 rfl (lv_at hl 7 rfl) ?_
                          refine lv_iload hx hb dL_law_243 (lv_at hl 3 rfl) ?_
                          refine lv_iload hx hb dL_law_245 (lv_at hl 4 rfl) ?_
                          refine lv_bipush (v := 9) hx hb dL_law_247 (by decide) ?_
                          refine lv_ishr hx hb dL_law_249 ?_
                          refine lv_bipush (v := 64) hx hb dL_law_250 (by decide) ?_
                          refine l_callS (As := [.int (sy >>> (9 &&& 31)), .int 64]) (rest := [.int (nI k), .ref (ad 0)]) (cs' := c1) (hs' := ps cs (hs)) (r := .int (nI (upN (sy >>> (9 &&& 31)) 64))) C0 G (GL.pure (fun W1 => c_L_up l D cy W1 (sy >>> (9 &&& 31)) 64 (by omega) (by omega))) k_L_up ml_L_29 dL_law_252 rfl rfl hl.1 (Nat.le_of_ble_eq_true rfl) ⟨Nat.le_of_ble_eq_true rfl, Nat.le_of_ble_eq_true rfl⟩ ⟨Nat.le_of_ble_eq_true rfl, Nat.le_of_ble_eq_true rfl⟩ (fun H locs G => ?_)
                          obtain ⟨z64, ez64⟩ : ∃ g9 : Nat, g9 = upN (sy >>> (9 &&& 31)) 64 := ⟨_, rfl⟩
                          have hz64 : z64 < 64 := by rw [ez64]; exact upN_lt _ (by decide)
                          refine g_topi (x' := nI z64) (congrArg nI ez64.symm) ?_
                          refine l_callS (As := [.ref (ad 0), .int (nI k), .int (nI z64)]) (rest := []) (cs' := c1) (hs' := if tb (sdW (c1 k).1 (c1 k).2.1) z64 then (ps cs (hs)).take 3 else (ps cs (hs))) (r := .int 1) C0 G (h_isAhead l D cy ad tv c1 (ps cs (hs)) k z64 (by omega) (by omega) (hv1)) k_L_isAhead ml_L_135 dL_law_255 rfl rfl hl.1 (Nat.le_of_ble_eq_true rfl) ⟨Nat.le_of_ble_eq_true rfl, Nat.le_of_ble_eq_true rfl⟩ ⟨Nat.le_of_ble_eq_true rfl, Nat.le_of_ble_eq_true rfl⟩ (fun H locs G => ?_)
                          refine lv_if_eq (tgt := 265) hx hb dL_law_258 (by decide) (fun c_258 => ?_) (fun c_258 => ?_)
                          · exact absurd c_258 (by decide)
                          · skip
                            refine lv_iconst (v := 1) hx hb dL_law_261 (by decide) ?_
                            refine lv_goto (tgt := 266) hx hb dL_law_262 (by decide) ?_
                            refine lv_istore_n (lv' := [(2, .int 1), (9, .int (nI ((hs).length))), (7, .long (kiC cs)), (6, .int (nI k)), (5, .int sy), (4, .int sx), (0, .ref b), (1, .ref (ad 0)), (3, .int (nI t))]) hx hb dL_law_266 rfl hl (by decide) rfl (fun ls hl => ?_)
                            refine lv_iinc (v := nI (t + 1)) (lv' := [(3, .int (nI (t + 1))), (2, .int 1), (9, .int (nI ((hs).length))), (7, .long (kiC cs)), (6, .int (nI k)), (5, .int sy), (4, .int sx), (0, .ref b), (1, .ref (ad 0))]) hx hb dL_law_267 hl (k := 8) rfl (nI_add t 1) (by decide) rfl (fun ls hl => ?_)
                            refine lv_goto (tgt := 33) hx hb dL_law_270 (by decide) ?_
                            exact ih (t + 1) (by omega) (by omega) _ _ _ _ _ hv1 G (lv_sub hl [7, 8, 1, 0] rfl)
                      · skip
                        have c_214 : (t % 3) = 1 := (nI_eq (a := t % 3) (b := 1) (by omega) (by omega)).mp c_214
                        refine lv_aload_n hx hb dL_law_217 rfl (lv_at hl 7 rfl) ?_
                        refine lv_iload hx hb dL_law_218 (lv_at hl 3 rfl) ?_
                        refine lv_iload hx hb dL_law_220 (lv_at hl 5 rfl) ?_
                        refine lv_iconst (v := 5) hx hb dL_law_222 (by decide) ?_
                        refine lv_ishr hx hb dL_law_223 ?_
                        refine lv_bipush (v := 8) hx hb dL_law_224 (by decide) ?_
                        refine l_callS (As := [.int (sx >>> (5 &&& 31)), .int 8]) (rest := [.int (nI k), .ref (ad 0)]) (cs' := c1) (hs' := ps cs (hs)) (r := .int (nI (upN (sx >>> (5 &&& 31)) 8))) C0 G (GL.pure (fun W1 => c_L_up l D cy W1 (sx >>> (5 &&& 31)) 8 (by omega) (by omega))) k_L_up ml_L_29 dL_law_226 rfl rfl hl.1 (Nat.le_of_ble_eq_true rfl) ⟨Nat.le_of_ble_eq_true rfl, Nat.le_of_ble_eq_true rfl⟩ ⟨Nat.le_of_ble_eq_true rfl, Nat.le_of_ble_eq_true rfl⟩ (fun H locs G => ?_)
                        obtain ⟨z8, ez8⟩ : ∃ g9 : Nat, g9 = upN (sx >>> (5 &&& 31)) 8 := ⟨_, rfl⟩
                        have hz8 : z8 < 8 := by rw [ez8]; exact upN_lt _ (by decide)
                        refine g_topi (x' := nI z8) (congrArg nI ez8.symm) ?_
                        refine l_callS (As := [.ref (ad 0), .int (nI k), .int (nI z8)]) (rest := []) (cs' := c1) (hs' := (ps cs (hs)).take 2) (r := .int 1) C0 G (h_isSeen l D cy ad tv c1 (ps cs (hs)) k z8 (by omega) (by omega) (hv1)) k_L_isSeen ml_L_132 dL_law_229 rfl rfl hl.1 (Nat.le_of_ble_eq_true rfl) ⟨Nat.le_of_ble_eq_true rfl, Nat.le_of_ble_eq_true rfl⟩ ⟨Nat.le_of_ble_eq_true rfl, Nat.le_of_ble_eq_true rfl⟩ (fun H locs G => ?_)
                        refine lv_if_eq (tgt := 265) hx hb dL_law_232 (by decide) (fun c_232 => ?_) (fun c_232 => ?_)
                        · exact absurd c_232 (by decide)
                        · skip
                          refine lv_iload_n hx hb dL_law_235 rfl (lv_at hl 8 rfl) ?_
                          refine lv_iconst (v := 3) hx hb dL_law_236 (by decide) ?_
                          refine lv_irem hx hb dL_law_237 (by decide) ?_
                          refine g_topi (x' := nI (t % 3)) (pk_rem (a := t) (d := 3) (by omega) (by decide) (by decide)) ?_
                          refine lv_iconst (v := 2) hx hb dL_law_238 (by decide) ?_
                          refine lv_icmp_ne (tgt := 261) hx hb dL_law_239 (by decide) (fun c_239 => ?_) (fun c_239 => ?_)
                          · skip
                            have c_239 : ¬ ((t % 3) = 2) := fun h => c_239 ((nI_eq (a := t % 3) (b := 2) (by omega) (by omega)).mpr h)
                            refine lv_iconst (v := 1) hx hb dL_law_261 (by decide) ?_
                            refine lv_goto (tgt := 266) hx hb dL_law_262 (by decide) ?_
                            refine lv_istore_n (lv' := [(2, .int 1), (9, .int (nI ((hs).length))), (7, .long (kiC cs)), (6, .int (nI k)), (5, .int sy), (4, .int sx), (0, .ref b), (1, .ref (ad 0)), (3, .int (nI t))]) hx hb dL_law_266 rfl hl (by decide) rfl (fun ls hl => ?_)
                            refine lv_iinc (v := nI (t + 1)) (lv' := [(3, .int (nI (t + 1))), (2, .int 1), (9, .int (nI ((hs).length))), (7, .long (kiC cs)), (6, .int (nI k)), (5, .int sy), (4, .int sx), (0, .ref b), (1, .ref (ad 0))]) hx hb dL_law_267 hl (k := 8) rfl (nI_add t 1) (by decide) rfl (fun ls hl => ?_)
                            refine lv_goto (tgt := 33) hx hb dL_law_270 (by decide) ?_
                            exact ih (t + 1) (by omega) (by omega) _ _ _ _ _ hv1 G (lv_sub hl [7, 8, 1, 0] rfl)
                          · skip
                            have c_239 : (t % 3) = 2 := (nI_eq (a := t % 3) (b := 2) (by omega) (by omega)).mp c_239
                            refine lv_aload_n hx hb dL_law_242 rfl (lv_at hl 7 rfl) ?_
                            refine lv_iload hx hb dL_law_243 (lv_at hl 3 rfl) ?_
                            refine lv_iload hx hb dL_law_245 (lv_at hl 4 rfl) ?_
                            refine lv_bipush (v := 9) hx hb dL_law_247 (by decide) ?_
                            refine lv_ishr hx hb dL_law_249 ?_
                            refine lv_bipush (v := 64) hx hb dL_law_250 (by decide) ?_
                            refine l_callS (As := [.int (sy >>> (9 &&& 31)), .int 64]) (rest := [.int (nI k), .ref (ad 0)]) (cs' := c1) (hs' := (ps cs (hs)).take 2) (r := .int (nI (upN (sy >>> (9 &&& 31)) 64))) C0 G (GL.pure (fun W1 => c_L_up l D cy W1 (sy >>> (9 &&& 31)) 64 (by omega) (by omega))) k_L_up ml_L_29 dL_law_252 rfl rfl hl.1 (Nat.le_of_ble_eq_true rfl) ⟨Nat.le_of_ble_eq_true rfl, Nat.le_of_ble_eq_true rfl⟩ ⟨Nat.le_of_ble_eq_true rfl, Nat.le_of_ble_eq_true rfl⟩ (fun H locs G => ?_)
                            obtain ⟨z64, ez64⟩ : ∃ g9 : Nat, g9 = upN (sy >>> (9 &&& 31)) 64 := ⟨_, rfl⟩
                            have hz64 : z64 < 64 := by rw [ez64]; exact upN_lt _ (by decide)
                            refine g_topi (x' := nI z64) (congrArg nI ez64.symm) ?_
                            refine l_callS (As := [.ref (ad 0), .int (nI k), .int (nI z64)]) (rest := []) (cs' := c1) (hs' := if tb (sdW (c1 k).1 (c1 k).2.1) z64 then ((ps cs (hs)).take 2).take 3 else ((ps cs (hs)).take 2)) (r := .int 1) C0 G (h_isAhead l D cy ad tv c1 ((ps cs (hs)).take 2) k z64 (by omega) (by omega) (hv1)) k_L_isAhead ml_L_135 dL_law_255 rfl rfl hl.1 (Nat.le_of_ble_eq_true rfl) ⟨Nat.le_of_ble_eq_true rfl, Nat.le_of_ble_eq_true rfl⟩ ⟨Nat.le_of_ble_eq_true rfl, Nat.le_of_ble_eq_true rfl⟩ (fun H locs G => ?_)
                            refine lv_if_eq (tgt := 265) hx hb dL_law_258 (by decide) (fun c_258 => ?_) (fun c_258 => ?_)
                            · exact absurd c_258 (by decide)
                            · skip
                              refine lv_iconst (v := 1) hx hb dL_law_261 (by decide) ?_
                              refine lv_goto (tgt := 266) hx hb dL_law_262 (by decide) ?_
                              refine lv_istore_n (lv' := [(2, .int 1), (9, .int (nI ((hs).length))), (7, .long (kiC cs)), (6, .int (nI k)), (5, .int sy), (4, .int sx), (0, .ref b), (1, .ref (ad 0)), (3, .int (nI t))]) hx hb dL_law_266 rfl hl (by decide) rfl (fun ls hl => ?_)
                              refine lv_iinc (v := nI (t + 1)) (lv' := [(3, .int (nI (t + 1))), (2, .int 1), (9, .int (nI ((hs).length))), (7, .long (kiC cs)), (6, .int (nI k)), (5, .int sy), (4, .int sx), (0, .ref b), (1, .ref (ad 0))]) hx hb dL_law_267 hl (k := 8) rfl (nI_add t 1) (by decide) rfl (fun ls hl => ?_)
                              refine lv_goto (tgt := 33) hx hb dL_law_270 (by decide) ?_
                              exact ih (t + 1) (by omega) (by omega) _ _ _ _ _ hv1 G (lv_sub hl [7, 8, 1, 0] rfl)
                · skip
                  refine lv_aload_n hx hb dL_law_137 rfl (lv_at hl 7 rfl) ?_
                  refine l_callS (As := [.ref (ad 0)]) (rest := []) (cs' := c1) (hs' := ps cs (hs)) (r := .long (kiC c1)) C0 G (h_kinds l D cy ad tv c1 (ps cs (hs))  ) k_L_kinds ml_L_48 dL_law_138 rfl rfl hl.1 (Nat.le_of_ble_eq_true rfl) ⟨Nat.le_of_ble_eq_true rfl, Nat.le_of_ble_eq_true rfl⟩ ⟨Nat.le_of_ble_eq_true rfl, Nat.le_of_ble_eq_true rfl⟩ (fun H locs G => ?_)
                  refine lv_lstore (lv' := [(10, .long (kiC c1)), (2, .int 1), (9, .int (nI ((hs).length))), (7, .long (kiC cs)), (6, .int (nI k)), (5, .int sy), (4, .int sx), (0, .ref b), (1, .ref (ad 0)), (3, .int (nI t))]) hx hb dL_law_141 hl (by decide) rfl (fun ls hl => ?_)
                  refine lv_aload_n hx hb dL_law_143 rfl (lv_at hl 8 rfl) ?_
                  refine l_callV (As := []) (rest := []) (cs' := c1) (hs' := ps cs (hs)) (r := .int (nI ((ps cs (hs)).length))) C0 G (l_savedStates l D cy ad tv c1 (ps cs (hs))) k_X4_savedStates ml_L_126 dL_law_144 rfl rfl hl.1 (Nat.le_of_ble_eq_true rfl) ⟨Nat.le_of_ble_eq_true rfl, Nat.le_of_ble_eq_true rfl⟩ ⟨Nat.le_of_ble_eq_true rfl, Nat.le_of_ble_eq_true rfl⟩ (fun H locs G => ?_)
                  refine lv_iconst (v := 1) hx hb dL_law_147 (by decide) ?_
                  refine lv_isub hx hb dL_law_148 ?_
                  refine g_topi (x' := nI (((ps cs (hs)).length) - 1)) (pk_sub (a := (ps cs (hs)).length) (b := 1) (by omega)) ?_
                  refine lv_istore (lv' := [(12, .int (nI (((ps cs (hs)).length) - 1))), (10, .long (kiC c1)), (2, .int 1), (9, .int (nI ((hs).length))), (7, .long (kiC cs)), (6, .int (nI k)), (5, .int sy), (4, .int sx), (0, .ref b), (1, .ref (ad 0)), (3, .int (nI t))]) hx hb dL_law_149 hl (by decide) rfl (fun ls hl => ?_)
                  refine lv_aload_n hx hb dL_law_151 rfl (lv_at hl 9 rfl) ?_
                  have G : gL D cy ad tv c1 (cs :: hs.take 5) (fun q : Nat => s.heap.size ≤ q) s _ _ := l_eq rfl (ps_1 cs hs) G
                  refine l_callV (As := []) (rest := []) (cs' := cs) (hs' := hs.take 5) (r := .int (nI ((hs.take 5).length))) C0 G (l_undo l D cy ad tv c1 (hs.take 5) cs) k_X4_undo ml_L_111 dL_law_152 rfl rfl hl.1 (Nat.le_of_ble_eq_true rfl) ⟨Nat.le_of_ble_eq_true rfl, Nat.le_of_ble_eq_true rfl⟩ ⟨Nat.le_of_ble_eq_true rfl, Nat.le_of_ble_eq_true rfl⟩ (fun H locs G => ?_)
                  refine lv_iload hx hb dL_law_155 (lv_at hl 0 rfl) ?_
                  refine lv_icmp_ne (tgt := 195) hx hb dL_law_157 (by decide) (fun c_157 => ?_) (fun c_157 => ?_)
                  · skip
                    have c_157 : ¬ (((hs.take 5).length) = (((ps cs (hs)).length) - 1)) := fun h => c_157 ((nI_eq (a := (hs.take 5).length) (b := ((ps cs (hs)).length) - 1) (by omega) (by omega)).mpr h)
                    exact absurd c_157 (by omega)
                  · skip
                    have c_157 : ((hs.take 5).length) = (((ps cs (hs)).length) - 1) := (nI_eq (a := (hs.take 5).length) (b := ((ps cs (hs)).length) - 1) (by omega) (by omega)).mp c_157
                    refine lv_aload_n hx hb dL_law_160 rfl (lv_at hl 9 rfl) ?_
                    refine l_callS (As := [.ref (ad 0)]) (rest := []) (cs' := cs) (hs' := hs.take 5) (r := .long (kiC cs)) C0 G (h_kinds l D cy ad tv cs (hs.take 5)  ) k_L_kinds ml_L_48 dL_law_161 rfl rfl hl.1 (Nat.le_of_ble_eq_true rfl) ⟨Nat.le_of_ble_eq_true rfl, Nat.le_of_ble_eq_true rfl⟩ ⟨Nat.le_of_ble_eq_true rfl, Nat.le_of_ble_eq_true rfl⟩ (fun H locs G => ?_)
                    refine lv_lload hx hb dL_law_164 (lv_at hl 4 rfl) ?_
                    refine W.lcmp hx hb dL_law_166 ?_
                    refine lv_if_ne (tgt := 195) hx hb dL_law_167 (by decide) (fun c_167 => ?_) (fun c_167 => ?_)
                    · skip
                      have c_167 : ¬ (kiC cs) = (kiC cs) := fun h => c_167 (lgc_eq.mpr h)
                      exact absurd rfl c_167
                    · skip
                      have c_167 : (kiC cs) = (kiC cs) := lgc_eq.mp c_167
                      refine lv_aload_n hx hb dL_law_170 rfl (lv_at hl 9 rfl) ?_
                      refine lv_iload hx hb dL_law_171 (lv_at hl 7 rfl) ?_
                      refine lv_iload hx hb dL_law_173 (lv_at hl 6 rfl) ?_
                      refine l_callS (As := [.ref (ad 0), .int sx, .int sy]) (rest := []) (cs' := actS sx sy cs) (hs' := ps cs (hs.take 5)) (r := .int 1) C0 G (h_acts l D cy ad tv cs (hs.take 5) sx sy hv) k_L_acts ml_L_129 dL_law_175 rfl rfl hl.1 (Nat.le_of_ble_eq_true rfl) ⟨Nat.le_of_ble_eq_true rfl, Nat.le_of_ble_eq_true rfl⟩ ⟨Nat.le_of_ble_eq_true rfl, Nat.le_of_ble_eq_true rfl⟩ (fun H locs G => ?_)
                      obtain ⟨c2, hc2⟩ : ∃ g9 : Nat → Cd, g9 = actS sx sy cs := ⟨_, rfl⟩
                      have G : gL D cy ad tv c2 (ps cs (hs.take 5)) (fun q : Nat => s.heap.size ≤ q) s _ _ := l_eq hc2.symm rfl G
                      have hv2 : Vk c2 := by rw [hc2]; exact vk_act hv _ _
                      refine lv_if_eq (tgt := 195) hx hb dL_law_178 (by decide) (fun c_178 => ?_) (fun c_178 => ?_)
                      · exact absurd c_178 (by decide)
                      · skip
                        refine lv_aload_n hx hb dL_law_181 rfl (lv_at hl 9 rfl) ?_
                        refine l_callS (As := [.ref (ad 0)]) (rest := []) (cs' := c2) (hs' := ps cs (hs.take 5)) (r := .long (kiC c2)) C0 G (h_kinds l D cy ad tv c2 (ps cs (hs.take 5))  ) k_L_kinds ml_L_48 dL_law_182 rfl rfl hl.1 (Nat.le_of_ble_eq_true rfl) ⟨Nat.le_of_ble_eq_true rfl, Nat.le_of_ble_eq_true rfl⟩ ⟨Nat.le_of_ble_eq_true rfl, Nat.le_of_ble_eq_true rfl⟩ (fun H locs G => ?_)
                        refine g_topl (x' := kiC c1) (by rw [hc2, hc1]) ?_
                        refine lv_lload hx hb dL_law_185 (lv_at hl 1 rfl) ?_
                        refine W.lcmp hx hb dL_law_187 ?_
                        refine lv_if_ne (tgt := 195) hx hb dL_law_188 (by decide) (fun c_188 => ?_) (fun c_188 => ?_)
                        · skip
                          have c_188 : ¬ (kiC c1) = (kiC c1) := fun h => c_188 (lgc_eq.mpr h)
                          exact absurd rfl c_188
                        · skip
                          have c_188 : (kiC c1) = (kiC c1) := lgc_eq.mp c_188
                          refine lv_iconst (v := 1) hx hb dL_law_191 (by decide) ?_
                          refine lv_goto (tgt := 196) hx hb dL_law_192 (by decide) ?_
                          refine lv_istore_n (lv' := [(2, .int 1), (12, .int (nI (((ps cs (hs)).length) - 1))), (10, .long (kiC c1)), (9, .int (nI ((hs).length))), (7, .long (kiC cs)), (6, .int (nI k)), (5, .int sy), (4, .int sx), (0, .ref b), (1, .ref (ad 0)), (3, .int (nI t))]) hx hb dL_law_196 rfl hl (by decide) rfl (fun ls hl => ?_)
                          refine lv_iload_n hx hb dL_law_197 rfl (lv_at hl 0 rfl) ?_
                          refine lv_if_eq (tgt := 265) hx hb dL_law_198 (by decide) (fun c_198 => ?_) (fun c_198 => ?_)
                          · exact absurd c_198 (by decide)
                          · skip
                            refine lv_aload_n hx hb dL_law_201 rfl (lv_at hl 9 rfl) ?_
                            refine lv_iload hx hb dL_law_202 (lv_at hl 5 rfl) ?_
                            refine l_callS (As := [.ref (ad 0), .int (nI k)]) (rest := []) (cs' := c2) (hs' := ps cs (hs.take 5)) (r := .int 1) C0 G (h_holds l D cy ad tv c2 (ps cs (hs.take 5)) k (by omega)) k_L_holds ml_L_119 dL_law_204 rfl rfl hl.1 (Nat.le_of_ble_eq_true rfl) ⟨Nat.le_of_ble_eq_true rfl, Nat.le_of_ble_eq_true rfl⟩ ⟨Nat.le_of_ble_eq_true rfl, Nat.le_of_ble_eq_true rfl⟩ (fun H locs G => ?_)
                            refine lv_if_eq (tgt := 265) hx hb dL_law_207 (by decide) (fun c_207 => ?_) (fun c_207 => ?_)
                            · exact absurd c_207 (by decide)
                            · skip
                              refine lv_iload_n hx hb dL_law_210 rfl (lv_at hl 10 rfl) ?_
                              refine lv_iconst (v := 3) hx hb dL_law_211 (by decide) ?_
                              refine lv_irem hx hb dL_law_212 (by decide) ?_
                              refine g_topi (x' := nI (t % 3)) (pk_rem (a := t) (d := 3) (by omega) (by decide) (by decide)) ?_
                              refine lv_iconst (v := 1) hx hb dL_law_213 (by decide) ?_
                              refine lv_icmp_ne (tgt := 235) hx hb dL_law_214 (by decide) (fun c_214 => ?_) (fun c_214 => ?_)
                              · skip
                                have c_214 : ¬ ((t % 3) = 1) := fun h => c_214 ((nI_eq (a := t % 3) (b := 1) (by omega) (by omega)).mpr h)
                                refine lv_iload_n hx hb dL_law_235 rfl (lv_at hl 10 rfl) ?_
                                refine lv_iconst (v := 3) hx hb dL_law_236 (by decide) ?_
                                refine lv_irem hx hb dL_law_237 (by decide) ?_
                                refine g_topi (x' := nI (t % 3)) (pk_rem (a := t) (d := 3) (by omega) (by decide) (by decide)) ?_
                                refine lv_iconst (v := 2) hx hb dL_law_238 (by decide) ?_
                                refine lv_icmp_ne (tgt := 261) hx hb dL_law_239 (by decide) (fun c_239 => ?_) (fun c_239 => ?_)
                                · skip
                                  have c_239 : ¬ ((t % 3) = 2) := fun h => c_239 ((nI_eq (a := t % 3) (b := 2) (by omega) (by omega)).mpr h)
                                  refine lv_iconst (v := 1) hx hb dL_law_261 (by decide) ?_
                                  refine lv_goto (tgt := 266) hx hb dL_law_262 (by decide) ?_
                                  refine lv_istore_n (lv' := [(2, .int 1), (12, .int (nI (((ps cs (hs)).length) - 1))), (10, .long (kiC c1)), (9, .int (nI ((hs).length))), (7, .long (kiC cs)), (6, .int (nI k)), (5, .int sy), (4, .int sx), (0, .ref b), (1, .ref (ad 0)), (3, .int (nI t))]) hx hb dL_law_266 rfl hl (by decide) rfl (fun ls hl => ?_)
                                  refine lv_iinc (v := nI (t + 1)) (lv' := [(3, .int (nI (t + 1))), (2, .int 1), (12, .int (nI (((ps cs (hs)).length) - 1))), (10, .long (kiC c1)), (9, .int (nI ((hs).length))), (7, .long (kiC cs)), (6, .int (nI k)), (5, .int sy), (4, .int sx), (0, .ref b), (1, .ref (ad 0))]) hx hb dL_law_267 hl (k := 10) rfl (nI_add t 1) (by decide) rfl (fun ls hl => ?_)
                                  refine lv_goto (tgt := 33) hx hb dL_law_270 (by decide) ?_
                                  exact ih (t + 1) (by omega) (by omega) _ _ _ _ _ hv2 G (lv_sub hl [9, 10, 1, 0] rfl)
                                · skip
                                  have c_239 : (t % 3) = 2 := (nI_eq (a := t % 3) (b := 2) (by omega) (by omega)).mp c_239
                                  refine lv_aload_n hx hb dL_law_242 rfl (lv_at hl 9 rfl) ?_
                                  refine lv_iload hx hb dL_law_243 (lv_at hl 5 rfl) ?_
                                  refine lv_iload hx hb dL_law_245 (lv_at hl 6 rfl) ?_
                                  refine lv_bipush (v := 9) hx hb dL_law_247 (by decide) ?_
                                  refine lv_ishr hx hb dL_law_249 ?_
                                  refine lv_bipush (v := 64) hx hb dL_law_250 (by decide) ?_
                                  refine l_callS (As := [.int (sy >>> (9 &&& 31)), .int 64]) (rest := [.int (nI k), .ref (ad 0)]) (cs' := c2) (hs' := ps cs (hs.take 5)) (r := .int (nI (upN (sy >>> (9 &&& 31)) 64))) C0 G (GL.pure (fun W1 => c_L_up l D cy W1 (sy >>> (9 &&& 31)) 64 (by omega) (by omega))) k_L_up ml_L_29 dL_law_252 rfl rfl hl.1 (Nat.le_of_ble_eq_true rfl) ⟨Nat.le_of_ble_eq_true rfl, Nat.le_of_ble_eq_true rfl⟩ ⟨Nat.le_of_ble_eq_true rfl, Nat.le_of_ble_eq_true rfl⟩ (fun H locs G => ?_)
                                  obtain ⟨z64, ez64⟩ : ∃ g9 : Nat, g9 = upN (sy >>> (9 &&& 31)) 64 := ⟨_, rfl⟩
                                  have hz64 : z64 < 64 := by rw [ez64]; exact upN_lt _ (by decide)
                                  refine g_topi (x' := nI z64) (congrArg nI ez64.symm) ?_
                                  refine l_callS (As := [.ref (ad 0), .int (nI k), .int (nI z64)]) (rest := []) (cs' := c2) (hs' := if tb (sdW (c2 k).1 (c2 k).2.1) z64 then (ps cs (hs.take 5)).take 3 else (ps cs (hs.take 5))) (r := .int 1) C0 G (h_isAhead l D cy ad tv c2 (ps cs (hs.take 5)) k z64 (by omega) (by omega) (hv2)) k_L_isAhead ml_L_135 dL_law_255 rfl rfl hl.1 (Nat.le_of_ble_eq_true rfl) ⟨Nat.le_of_ble_eq_true rfl, Nat.le_of_ble_eq_true rfl⟩ ⟨Nat.le_of_ble_eq_true rfl, Nat.le_of_ble_eq_true rfl⟩ (fun H locs G => ?_)
                                  refine lv_if_eq (tgt := 265) hx hb dL_law_258 (by decide) (fun c_258 => ?_) (fun c_258 => ?_)
                                  · exact absurd c_258 (by decide)
                                  · skip
                                    refine lv_iconst (v := 1) hx hb dL_law_261 (by decide) ?_
                                    refine lv_goto (tgt := 266) hx hb dL_law_262 (by decide) ?_
                                    refine lv_istore_n (lv' := [(2, .int 1), (12, .int (nI (((ps cs (hs)).length) - 1))), (10, .long (kiC c1)), (9, .int (nI ((hs).length))), (7, .long (kiC cs)), (6, .int (nI k)), (5, .int sy), (4, .int sx), (0, .ref b), (1, .ref (ad 0)), (3, .int (nI t))]) hx hb dL_law_266 rfl hl (by decide) rfl (fun ls hl => ?_)
                                    refine lv_iinc (v := nI (t + 1)) (lv' := [(3, .int (nI (t + 1))), (2, .int 1), (12, .int (nI (((ps cs (hs)).length) - 1))), (10, .long (kiC c1)), (9, .int (nI ((hs).length))), (7, .long (kiC cs)), (6, .int (nI k)), (5, .int sy), (4, .int sx), (0, .ref b), (1, .ref (ad 0))]) hx hb dL_law_267 hl (k := 10) rfl (nI_add t 1) (by decide) rfl (fun ls hl => ?_)
                                    refine lv_goto (tgt := 33) hx hb dL_law_270 (by decide) ?_
                                    exact ih (t + 1) (by omega) (by omega) _ _ _ _ _ hv2 G (lv_sub hl [9, 10, 1, 0] rfl)
                              · skip
                                have c_214 : (t % 3) = 1 := (nI_eq (a := t % 3) (b := 1) (by omega) (by omega)).mp c_214
                                refine lv_aload_n hx hb dL_law_217 rfl (lv_at hl 9 rfl) ?_
                                refine lv_iload hx hb dL_law_218 (lv_at hl 5 rfl) ?_
                                refine lv_iload hx hb dL_law_220 (lv_at hl 7 rfl) ?_
                                refine lv_iconst (v := 5) hx hb dL_law_222 (by decide) ?_
                                refine lv_ishr hx hb dL_law_223 ?_
                                refine lv_bipush (v := 8) hx hb dL_law_224 (by decide) ?_
                                refine l_callS (As := [.int (sx >>> (5 &&& 31)), .int 8]) (rest := [.int (nI k), .ref (ad 0)]) (cs' := c2) (hs' := ps cs (hs.take 5)) (r := .int (nI (upN (sx >>> (5 &&& 31)) 8))) C0 G (GL.pure (fun W1 => c_L_up l D cy W1 (sx >>> (5 &&& 31)) 8 (by omega) (by omega))) k_L_up ml_L_29 dL_law_226 rfl rfl hl.1 (Nat.le_of_ble_eq_true rfl) ⟨Nat.le_of_ble_eq_true rfl, Nat.le_of_ble_eq_true rfl⟩ ⟨Nat.le_of_ble_eq_true rfl, Nat.le_of_ble_eq_true rfl⟩ (fun H locs G => ?_)
                                obtain ⟨z8, ez8⟩ : ∃ g9 : Nat, g9 = upN (sx >>> (5 &&& 31)) 8 := ⟨_, rfl⟩
                                have hz8 : z8 < 8 := by rw [ez8]; exact upN_lt _ (by decide)
                                refine g_topi (x' := nI z8) (congrArg nI ez8.symm) ?_
                                refine l_callS (As := [.ref (ad 0), .int (nI k), .int (nI z8)]) (rest := []) (cs' := c2) (hs' := (ps cs (hs.take 5)).take 2) (r := .int 1) C0 G (h_isSeen l D cy ad tv c2 (ps cs (hs.take 5)) k z8 (by omega) (by omega) (hv2)) k_L_isSeen ml_L_132 dL_law_229 rfl rfl hl.1 (Nat.le_of_ble_eq_true rfl) ⟨Nat.le_of_ble_eq_true rfl, Nat.le_of_ble_eq_true rfl⟩ ⟨Nat.le_of_ble_eq_true rfl, Nat.le_of_ble_eq_true rfl⟩ (fun H locs G => ?_)
                                refine lv_if_eq (tgt := 265) hx hb dL_law_232 (by decide) (fun c_232 => ?_) (fun c_232 => ?_)
                                · exact absurd c_232 (by decide)
                                · skip
                                  refine lv_iload_n hx hb dL_law_235 rfl (lv_at hl 10 rfl) ?_
                                  refine lv_iconst (v := 3) hx hb dL_law_236 (by decide) ?_
                                  refine lv_irem hx hb dL_law_237 (by decide) ?_
                                  refine g_topi (x' := nI (t % 3)) (pk_rem (a := t) (d := 3) (by omega) (by decide) (by decide)) ?_
                                  refine lv_iconst (v := 2) hx hb dL_law_238 (by decide) ?_
                                  refine lv_icmp_ne (tgt := 261) hx hb dL_law_239 (by decide) (fun c_239 => ?_) (fun c_239 => ?_)
                                  · skip
                                    have c_239 : ¬ ((t % 3) = 2) := fun h => c_239 ((nI_eq (a := t % 3) (b := 2) (by omega) (by omega)).mpr h)
                                    refine lv_iconst (v := 1) hx hb dL_law_261 (by decide) ?_
                                    refine lv_goto (tgt := 266) hx hb dL_law_262 (by decide) ?_
                                    refine lv_istore_n (lv' := [(2, .int 1), (12, .int (nI (((ps cs (hs)).length) - 1))), (10, .long (kiC c1)), (9, .int (nI ((hs).length))), (7, .long (kiC cs)), (6, .int (nI k)), (5, .int sy), (4, .int sx), (0, .ref b), (1, .ref (ad 0)), (3, .int (nI t))]) hx hb dL_law_266 rfl hl (by decide) rfl (fun ls hl => ?_)
                                    refine lv_iinc (v := nI (t + 1)) (lv' := [(3, .int (nI (t + 1))), (2, .int 1), (12, .int (nI (((ps cs (hs)).length) - 1))), (10, .long (kiC c1)), (9, .int (nI ((hs).length))), (7, .long (kiC cs)), (6, .int (nI k)), (5, .int sy), (4, .int sx), (0, .ref b), (1, .ref (ad 0))]) hx hb dL_law_267 hl (k := 10) rfl (nI_add t 1) (by decide) rfl (fun ls hl => ?_)
                                    refine lv_goto (tgt := 33) hx hb dL_law_270 (by decide) ?_
                                    exact ih (t + 1) (by omega) (by omega) _ _ _ _ _ hv2 G (lv_sub hl [9, 10, 1, 0] rfl)
                                  · skip
                                    have c_239 : (t % 3) = 2 := (nI_eq (a := t % 3) (b := 2) (by omega) (by omega)).mp c_239
                                    refine lv_aload_n hx hb dL_law_242 rfl (lv_at hl 9 rfl) ?_
                                    refine lv_iload hx hb dL_law_243 (lv_at hl 5 rfl) ?_
                                    refine lv_iload hx hb dL_law_245 (lv_at hl 6 rfl) ?_
                                    refine lv_bipush (v := 9) hx hb dL_law_247 (by decide) ?_
                                    refine lv_ishr hx hb dL_law_249 ?_
                                    refine lv_bipush (v := 64) hx hb dL_law_250 (by decide) ?_
                                    refine l_callS (As := [.int (sy >>> (9 &&& 31)), .int 64]) (rest := [.int (nI k), .ref (ad 0)]) (cs' := c2) (hs' := (ps cs (hs.take 5)).take 2) (r := .int (nI (upN (sy >>> (9 &&& 31)) 64))) C0 G (GL.pure (fun W1 => c_L_up l D cy W1 (sy >>> (9 &&& 31)) 64 (by omega) (by omega))) k_L_up ml_L_29 dL_law_252 rfl rfl hl.1 (Nat.le_of_ble_eq_true rfl) ⟨Nat.le_of_ble_eq_true rfl, Nat.le_of_ble_eq_true rfl⟩ ⟨Nat.le_of_ble_eq_true rfl, Nat.le_of_ble_eq_true rfl⟩ (fun H locs G => ?_)
                                    obtain ⟨z64, ez64⟩ : ∃ g9 : Nat, g9 = upN (sy >>> (9 &&& 31)) 64 := ⟨_, rfl⟩
                                    have hz64 : z64 < 64 := by rw [ez64]; exact upN_lt _ (by decide)
                                    refine g_topi (x' := nI z64) (congrArg nI ez64.symm) ?_
                                    refine l_callS (As := [.ref (ad 0), .int (nI k), .int (nI z64)]) (rest := []) (cs' := c2) (hs' := if tb (sdW (c2 k).1 (c2 k).2.1) z64 then ((ps cs (hs.take 5)).take 2).take 3 else ((ps cs (hs.take 5)).take 2)) (r := .int 1) C0 G (h_isAhead l D cy ad tv c2 ((ps cs (hs.take 5)).take 2) k z64 (by omega) (by omega) (hv2)) k_L_isAhead ml_L_135 dL_law_255 rfl rfl hl.1 (Nat.le_of_ble_eq_true rfl) ⟨Nat.le_of_ble_eq_true rfl, Nat.le_of_ble_eq_true rfl⟩ ⟨Nat.le_of_ble_eq_true rfl, Nat.le_of_ble_eq_true rfl⟩ (fun H locs G => ?_)
                                    refine lv_if_eq (tgt := 265) hx hb dL_law_258 (by decide) (fun c_258 => ?_) (fun c_258 => ?_)
                                    · exact absurd c_258 (by decide)
                                    · skip
                                      refine lv_iconst (v := 1) hx hb dL_law_261 (by decide) ?_
                                      refine lv_goto (tgt := 266) hx hb dL_law_262 (by decide) ?_
                                      refine lv_istore_n (lv' := [(2, .int 1), (12, .int (nI (((ps cs (hs)).length) - 1))), (10, .long (kiC c1)), (9, .int (nI ((hs).length))), (7, .long (kiC cs)), (6, .int (nI k)), (5, .int sy), (4, .int sx), (0, .ref b), (1, .ref (ad 0)), (3, .int (nI t))]) hx hb dL_law_266 rfl hl (by decide) rfl (fun ls hl => ?_)
                                      refine lv_iinc (v := nI (t + 1)) (lv' := [(3, .int (nI (t + 1))), (2, .int 1), (12, .int (nI (((ps cs (hs)).length) - 1))), (10, .long (kiC c1)), (9, .int (nI ((hs).length))), (7, .long (kiC cs)), (6, .int (nI k)), (5, .int sy), (4, .int sx), (0, .ref b), (1, .ref (ad 0))]) hx hb dL_law_267 hl (k := 10) rfl (nI_add t 1) (by decide) rfl (fun ls hl => ?_)
                                      refine lv_goto (tgt := 33) hx hb dL_law_270 (by decide) ?_
                                      exact ih (t + 1) (by omega) (by omega) _ _ _ _ _ hv2 G (lv_sub hl [9, 10, 1, 0] rfl)
          · skip
            have c_102 : ¬ (6 ≤ ((hs).length)) := fun h => c_102 ((nI_leI (a := 6) (b := (hs).length) (by omega) (by omega)).mpr h)
            refine lv_iload hx hb dL_law_105 (lv_at hl 0 rfl) ?_
            refine lv_iconst (v := 1) hx hb dL_law_107 (by decide) ?_
            refine lv_iadd hx hb dL_law_108 ?_
            refine g_topi (x' := nI (((hs).length) + 1)) (nI_add ((hs).length) 1) ?_
            refine lv_goto (tgt := 114) hx hb dL_law_109 (by decide) ?_
            refine lv_icmp_ne (tgt := 121) hx hb dL_law_114 (by decide) (fun c_114 => ?_) (fun c_114 => ?_)
            · skip
              have c_114 : ¬ (((ps cs (hs)).length) = (((hs).length) + 1)) := fun h => c_114 ((nI_eq (a := (ps cs (hs)).length) (b := ((hs).length) + 1) (by omega) (by omega)).mpr h)
              exact absurd c_114 (by omega)
            · skip
              have c_114 : ((ps cs (hs)).length) = (((hs).length) + 1) := (nI_eq (a := (ps cs (hs)).length) (b := ((hs).length) + 1) (by omega) (by omega)).mp c_114
              refine lv_iconst (v := 1) hx hb dL_law_117 (by decide) ?_
              refine lv_goto (tgt := 122) hx hb dL_law_118 (by decide) ?_
              refine lv_istore_n (lv' := [(2, .int 1), (9, .int (nI ((hs).length))), (7, .long (kiC cs)), (6, .int (nI k)), (5, .int sy), (4, .int sx), (0, .ref b), (1, .ref (ad 0)), (3, .int (nI t))]) hx hb dL_law_122 rfl hl (by decide) rfl (fun ls hl => ?_)
              refine lv_iload_n hx hb dL_law_123 rfl (lv_at hl 0 rfl) ?_
              refine lv_if_eq (tgt := 197) hx hb dL_law_124 (by decide) (fun c_124 => ?_) (fun c_124 => ?_)
              · exact absurd c_124 (by decide)
              · skip
                refine lv_iload hx hb dL_law_127 (lv_at hl 5 rfl) ?_
                refine lv_bipush (v := 8) hx hb dL_law_129 (by decide) ?_
                refine lv_ishr hx hb dL_law_131 ?_
                refine lv_iconst (v := 3) hx hb dL_law_132 (by decide) ?_
                refine lv_iand hx hb dL_law_133 ?_
                refine lv_if_ne (tgt := 197) hx hb dL_law_134 (by decide) (fun c_134 => ?_) (fun c_134 => ?_)
                · skip
                  refine lv_iload_n hx hb dL_law_197 rfl (lv_at hl 0 rfl) ?_
                  refine lv_if_eq (tgt := 265) hx hb dL_law_198 (by decide) (fun c_198 => ?_) (fun c_198 => ?_)
                  · exact absurd c_198 (by decide)
                  · skip
                    refine lv_aload_n hx hb dL_law_201 rfl (lv_at hl 7 rfl) ?_
                    refine lv_iload hx hb dL_law_202 (lv_at hl 3 rfl) ?_
                    refine l_callS (As := [.ref (ad 0), .int (nI k)]) (rest := []) (cs' := c1) (hs' := ps cs (hs)) (r := .int 1) C0 G (h_holds l D cy ad tv c1 (ps cs (hs)) k (by omega)) k_L_holds ml_L_119 dL_law_204 rfl rfl hl.1 (Nat.le_of_ble_eq_true rfl) ⟨Nat.le_of_ble_eq_true rfl, Nat.le_of_ble_eq_true rfl⟩ ⟨Nat.le_of_ble_eq_true rfl, Nat.le_of_ble_eq_true rfl⟩ (fun H locs G => ?_)
                    refine lv_if_eq (tgt := 265) hx hb dL_law_207 (by decide) (fun c_207 => ?_) (fun c_207 => ?_)
                    · exact absurd c_207 (by decide)
                    · skip
                      refine lv_iload_n hx hb dL_law_210 rfl (lv_at hl 8 rfl) ?_
                      refine lv_iconst (v := 3) hx hb dL_law_211 (by decide) ?_
                      refine lv_irem hx hb dL_law_212 (by decide) ?_
                      refine g_topi (x' := nI (t % 3)) (pk_rem (a := t) (d := 3) (by omega) (by decide) (by decide)) ?_
                      refine lv_iconst (v := 1) hx hb dL_law_213 (by decide) ?_
                      refine lv_icmp_ne (tgt := 235) hx hb dL_law_214 (by decide) (fun c_214 => ?_) (fun c_214 => ?_)
                      · skip
                        have c_214 : ¬ ((t % 3) = 1) := fun h => c_214 ((nI_eq (a := t % 3) (b := 1) (by omega) (by omega)).mpr h)
                        refine lv_iload_n hx hb dL_law_235 rfl (lv_at hl 8 rfl) ?_
                        refine lv_iconst (v := 3) hx hb dL_law_236 (by decide) ?_
                        refine lv_irem hx hb dL_law_237 (by decide) ?_
                        refine g_topi (x' := nI (t % 3)) (pk_rem (a := t) (d := 3) (by omega) (by decide) (by decide)) ?_
                        refine lv_iconst (v := 2) hx hb dL_law_238 (by decide) ?_
                        refine lv_icmp_ne (tgt := 261) hx hb dL_law_239 (by decide) (fun c_239 => ?_) (fun c_239 => ?_)
                        · skip
                          have c_239 : ¬ ((t % 3) = 2) := fun h => c_239 ((nI_eq (a := t % 3) (b := 2) (by omega) (by omega)).mpr h)
                          refine lv_iconst (v := 1) hx hb dL_law_261 (by decide) ?_
                          refine lv_goto (tgt := 266) hx hb dL_law_262 (by decide) ?_
                          refine lv_istore_n (lv' := [(2, .int 1), (9, .int (nI ((hs).length))), (7, .long (kiC cs)), (6, .int (nI k)), (5, .int sy), (4, .int sx), (0, .ref b), (1, .ref (ad 0)), (3, .int (nI t))]) hx hb dL_law_266 rfl hl (by decide) rfl (fun ls hl => ?_)
                          refine lv_iinc (v := nI (t + 1)) (lv' := [(3, .int (nI (t + 1))), (2, .int 1), (9, .int (nI ((hs).length))), (7, .long (kiC cs)), (6, .int (nI k)), (5, .int sy), (4, .int sx), (0, .ref b), (1, .ref (ad 0))]) hx hb dL_law_267 hl (k := 8) rfl (nI_add t 1) (by decide) rfl (fun ls hl => ?_)
                          refine lv_goto (tgt := 33) hx hb dL_law_270 (by decide) ?_
                          exact ih (t + 1) (by omega) (by omega) _ _ _ _ _ hv1 G (lv_sub hl [7, 8, 1, 0] rfl)
                        · skip
                          have c_239 : (t % 3) = 2 := (nI_eq (a := t % 3) (b := 2) (by omega) (by omega)).mp c_239
                          refine lv_aload_n hx hb dL_law_242 rfl (lv_at hl 7 rfl) ?_
                          refine lv_iload hx hb dL_law_243 (lv_at hl 3 rfl) ?_
                          refine lv_iload hx hb dL_law_245 (lv_at hl 4 rfl) ?_
                          refine lv_bipush (v := 9) hx hb dL_law_247 (by decide) ?_
                          refine lv_ishr hx hb dL_law_249 ?_
                          refine lv_bipush (v := 64) hx hb dL_law_250 (by decide) ?_
                          refine l_callS (As := [.int (sy >>> (9 &&& 31)), .int 64]) (rest := [.int (nI k), .ref (ad 0)]) (cs' := c1) (hs' := ps cs (hs)) (r := .int (nI (upN (sy >>> (9 &&& 31)) 64))) C0 G (GL.pure (fun W1 => c_L_up l D cy W1 (sy >>> (9 &&& 31)) 64 (by omega) (by omega))) k_L_up ml_L_29 dL_law_252 rfl rfl hl.1 (Nat.le_of_ble_eq_true rfl) ⟨Nat.le_of_ble_eq_true rfl, Nat.le_of_ble_eq_true rfl⟩ ⟨Nat.le_of_ble_eq_true rfl, Nat.le_of_ble_eq_true rfl⟩ (fun H locs G => ?_)
                          obtain ⟨z64, ez64⟩ : ∃ g9 : Nat, g9 = upN (sy >>> (9 &&& 31)) 64 := ⟨_, rfl⟩
                          have hz64 : z64 < 64 := by rw [ez64]; exact upN_lt _ (by decide)
                          refine g_topi (x' := nI z64) (congrArg nI ez64.symm) ?_
                          refine l_callS (As := [.ref (ad 0), .int (nI k), .int (nI z64)]) (rest := []) (cs' := c1) (hs' := if tb (sdW (c1 k).1 (c1 k).2.1) z64 then (ps cs (hs)).take 3 else (ps cs (hs))) (r := .int 1) C0 G (h_isAhead l D cy ad tv c1 (ps cs (hs)) k z64 (by omega) (by omega) (hv1)) k_L_isAhead ml_L_135 dL_law_255 rfl rfl hl.1 (Nat.le_of_ble_eq_true rfl) ⟨Nat.le_of_ble_eq_true rfl, Nat.le_of_ble_eq_true rfl⟩ ⟨Nat.le_of_ble_eq_true rfl, Nat.le_of_ble_eq_true rfl⟩ (fun H locs G => ?_)
                          refine lv_if_eq (tgt := 265) hx hb dL_law_258 (by decide) (fun c_258 => ?_) (fun c_258 => ?_)
                          · exact absurd c_258 (by decide)
                          · skip
                            refine lv_iconst (v := 1) hx hb dL_law_261 (by decide) ?_
                            refine lv_goto (tgt := 266) hx hb dL_law_262 (by decide) ?_
                            refine lv_istore_n (lv' := [(2, .int 1), (9, .int (nI ((hs).length))), (7, .long (kiC cs)), (6, .int (nI k)), (5, .int sy), (4, .int sx), (0, .ref b), (1, .ref (ad 0)), (3, .int (nI t))]) hx hb dL_law_266 rfl hl (by decide) rfl (fun ls hl => ?_)
                            refine lv_iinc (v := nI (t + 1)) (lv' := [(3, .int (nI (t + 1))), (2, .int 1), (9, .int (nI ((hs).length))), (7, .long (kiC cs)), (6, .int (nI k)), (5, .int sy), (4, .int sx), (0, .ref b), (1, .ref (ad 0))]) hx hb dL_law_267 hl (k := 8) rfl (nI_add t 1) (by decide) rfl (fun ls hl => ?_)
                            refine lv_goto (tgt := 33) hx hb dL_law_270 (by decide) ?_
                            exact ih (t + 1) (by omega) (by omega) _ _ _ _ _ hv1 G (lv_sub hl [7, 8, 1, 0] rfl)
                      · skip
                        have c_214 : (t % 3) = 1 := (nI_eq (a := t % 3) (b := 1) (by omega) (by omega)).mp c_214
                        refine lv_aload_n hx hb dL_law_217 rfl (lv_at hl 7 rfl) ?_
                        refine lv_iload hx hb dL_law_218 (lv_at hl 3 rfl) ?_
                        refine lv_iload hx hb dL_law_220 (lv_at hl 5 rfl) ?_
                        refine lv_iconst (v := 5) hx hb dL_law_222 (by decide) ?_
                        refine lv_ishr hx hb dL_law_223 ?_
                        refine lv_bipush (v := 8) hx hb dL_law_224 (by decide) ?_
                        refine l_callS (As := [.int (sx >>> (5 &&& 31)), .int 8]) (rest := [.int (nI k), .ref (ad 0)]) (cs' := c1) (hs' := ps cs (hs)) (r := .int (nI (upN (sx >>> (5 &&& 31)) 8))) C0 G (GL.pure (fun W1 => c_L_up l D cy W1 (sx >>> (5 &&& 31)) 8 (by omega) (by omega))) k_L_up ml_L_29 dL_law_226 rfl rfl hl.1 (Nat.le_of_ble_eq_true rfl) ⟨Nat.le_of_ble_eq_true rfl, Nat.le_of_ble_eq_true rfl⟩ ⟨Nat.le_of_ble_eq_true rfl, Nat.le_of_ble_eq_true rfl⟩ (fun H locs G => ?_)
                        obtain ⟨z8, ez8⟩ : ∃ g9 : Nat, g9 = upN (sx >>> (5 &&& 31)) 8 := ⟨_, rfl⟩
                        have hz8 : z8 < 8 := by rw [ez8]; exact upN_lt _ (by decide)
                        refine g_topi (x' := nI z8) (congrArg nI ez8.symm) ?_
                        refine l_callS (As := [.ref (ad 0), .int (nI k), .int (nI z8)]) (rest := []) (cs' := c1) (hs' := (ps cs (hs)).take 2) (r := .int 1) C0 G (h_isSeen l D cy ad tv c1 (ps cs (hs)) k z8 (by omega) (by omega) (hv1)) k_L_isSeen ml_L_132 dL_law_229 rfl rfl hl.1 (Nat.le_of_ble_eq_true rfl) ⟨Nat.le_of_ble_eq_true rfl, Nat.le_of_ble_eq_true rfl⟩ ⟨Nat.le_of_ble_eq_true rfl, Nat.le_of_ble_eq_true rfl⟩ (fun H locs G => ?_)
                        refine lv_if_eq (tgt := 265) hx hb dL_law_232 (by decide) (fun c_232 => ?_) (fun c_232 => ?_)
                        · exact absurd c_232 (by decide)
                        · skip
                          refine lv_iload_n hx hb dL_law_235 rfl (lv_at hl 8 rfl) ?_
                          refine lv_iconst (v := 3) hx hb dL_law_236 (by decide) ?_
                          refine lv_irem hx hb dL_law_237 (by decide) ?_
                          refine g_topi (x' := nI (t % 3)) (pk_rem (a := t) (d := 3) (by omega) (by decide) (by decide)) ?_
                          refine lv_iconst (v := 2) hx hb dL_law_238 (by decide) ?_
                          refine lv_icmp_ne (tgt := 261) hx hb dL_law_239 (by decide) (fun c_239 => ?_) (fun c_239 => ?_)
                          · skip
                            have c_239 : ¬ ((t % 3) = 2) := fun h => c_239 ((nI_eq (a := t % 3) (b := 2) (by omega) (by omega)).mpr h)
                            refine lv_iconst (v := 1) hx hb dL_law_261 (by decide) ?_
                            refine lv_goto (tgt := 266) hx hb dL_law_262 (by decide) ?_
                            refine lv_istore_n (lv' := [(2, .int 1), (9, .int (nI ((hs).length))), (7, .long (kiC cs)), (6, .int (nI k)), (5, .int sy), (4, .int sx), (0, .ref b), (1, .ref (ad 0)), (3, .int (nI t))]) hx hb dL_law_266 rfl hl (by decide) rfl (fun ls hl => ?_)
                            refine lv_iinc (v := nI (t + 1)) (lv' := [(3, .int (nI (t + 1))), (2, .int 1), (9, .int (nI ((hs).length))), (7, .long (kiC cs)), (6, .int (nI k)), (5, .int sy), (4, .int sx), (0, .ref b), (1, .ref (ad 0))]) hx hb dL_law_267 hl (k := 8) rfl (nI_add t 1) (by decide) rfl (fun ls hl => ?_)
                            refine lv_goto (tgt := 33) hx hb dL_law_270 (by decide) ?_
                            exact ih (t + 1) (by omega) (by omega) _ _ _ _ _ hv1 G (lv_sub hl [7, 8, 1, 0] rfl)
                          · skip
                            have c_239 : (t % 3) = 2 := (nI_eq (a := t % 3) (b := 2) (by omega) (by omega)).mp c_239
                            refine lv_aload_n hx hb dL_law_242 rfl (lv_at hl 7 rfl) ?_
                            refine lv_iload hx hb dL_law_243 (lv_at hl 3 rfl) ?_
                            refine lv_iload hx hb dL_law_245 (lv_at hl 4 rfl) ?_
                            refine lv_bipush (v := 9) hx hb dL_law_247 (by decide) ?_
                            refine lv_ishr hx hb dL_law_249 ?_
                            refine lv_bipush (v := 64) hx hb dL_law_250 (by decide) ?_
                            refine l_callS (As := [.int (sy >>> (9 &&& 31)), .int 64]) (rest := [.int (nI k), .ref (ad 0)]) (cs' := c1) (hs' := (ps cs (hs)).take 2) (r := .int (nI (upN (sy >>> (9 &&& 31)) 64))) C0 G (GL.pure (fun W1 => c_L_up l D cy W1 (sy >>> (9 &&& 31)) 64 (by omega) (by omega))) k_L_up ml_L_29 dL_law_252 rfl rfl hl.1 (Nat.le_of_ble_eq_true rfl) ⟨Nat.le_of_ble_eq_true rfl, Nat.le_of_ble_eq_true rfl⟩ ⟨Nat.le_of_ble_eq_true rfl, Nat.le_of_ble_eq_true rfl⟩ (fun H locs G => ?_)
                            obtain ⟨z64, ez64⟩ : ∃ g9 : Nat, g9 = upN (sy >>> (9 &&& 31)) 64 := ⟨_, rfl⟩
                            have hz64 : z64 < 64 := by rw [ez64]; exact upN_lt _ (by decide)
                            refine g_topi (x' := nI z64) (congrArg nI ez64.symm) ?_
                            refine l_callS (As := [.ref (ad 0), .int (nI k), .int (nI z64)]) (rest := []) (cs' := c1) (hs' := if tb (sdW (c1 k).1 (c1 k).2.1) z64 then ((ps cs (hs)).take 2).take 3 else ((ps cs (hs)).take 2)) (r := .int 1) C0 G (h_isAhead l D cy ad tv c1 ((ps cs (hs)).take 2) k z64 (by omega) (by omega) (hv1)) k_L_isAhead ml_L_135 dL_law_255 rfl rfl hl.1 (Nat.le_of_ble_eq_true rfl) ⟨Nat.le_of_ble_eq_true rfl, Nat.le_of_ble_eq_true rfl⟩ ⟨Nat.le_of_ble_eq_true rfl, Nat.le_of_ble_eq_true rfl⟩ (fun H locs G => ?_)
                            refine lv_if_eq (tgt := 265) hx hb dL_law_258 (by decide) (fun c_258 => ?_) (fun c_258 => ?_)
                            · exact absurd c_258 (by decide)
                            · skip
                              refine lv_iconst (v := 1) hx hb dL_law_261 (by decide) ?_
                              refine lv_goto (tgt := 266) hx hb dL_law_262 (by decide) ?_
                              refine lv_istore_n (lv' := [(2, .int 1), (9, .int (nI ((hs).length))), (7, .long (kiC cs)), (6, .int (nI k)), (5, .int sy), (4, .int sx), (0, .ref b), (1, .ref (ad 0)), (3, .int (nI t))]) hx hb dL_law_266 rfl hl (by decide) rfl (fun ls hl => ?_)
                              refine lv_iinc (v := nI (t + 1)) (lv' := [(3, .int (nI (t + 1))), (2, .int 1), (9, .int (nI ((hs).length))), (7, .long (kiC cs)), (6, .int (nI k)), (5, .int sy), (4, .int sx), (0, .ref b), (1, .ref (ad 0))]) hx hb dL_law_267 hl (k := 8) rfl (nI_add t 1) (by decide) rfl (fun ls hl => ?_)
                              refine lv_goto (tgt := 33) hx hb dL_law_270 (by decide) ?_
                              exact ih (t + 1) (by omega) (by omega) _ _ _ _ _ hv1 G (lv_sub hl [7, 8, 1, 0] rfl)
                · skip
                  refine lv_aload_n hx hb dL_law_137 rfl (lv_at hl 7 rfl) ?_
                  refine l_callS (As := [.ref (ad 0)]) (rest := []) (cs' := c1) (hs' := ps cs (hs)) (r := .long (kiC c1)) C0 G (h_kinds l D cy ad tv c1 (ps cs (hs))  ) k_L_kinds ml_L_48 dL_law_138 rfl rfl hl.1 (Nat.le_of_ble_eq_true rfl) ⟨Nat.le_of_ble_eq_true rfl, Nat.le_of_ble_eq_true rfl⟩ ⟨Nat.le_of_ble_eq_true rfl, Nat.le_of_ble_eq_true rfl⟩ (fun H locs G => ?_)
                  refine lv_lstore (lv' := [(10, .long (kiC c1)), (2, .int 1), (9, .int (nI ((hs).length))), (7, .long (kiC cs)), (6, .int (nI k)), (5, .int sy), (4, .int sx), (0, .ref b), (1, .ref (ad 0)), (3, .int (nI t))]) hx hb dL_law_141 hl (by decide) rfl (fun ls hl => ?_)
                  refine lv_aload_n hx hb dL_law_143 rfl (lv_at hl 8 rfl) ?_
                  refine l_callV (As := []) (rest := []) (cs' := c1) (hs' := ps cs (hs)) (r := .int (nI ((ps cs (hs)).length))) C0 G (l_savedStates l D cy ad tv c1 (ps cs (hs))) k_X4_savedStates ml_L_126 dL_law_144 rfl rfl hl.1 (Nat.le_of_ble_eq_true rfl) ⟨Nat.le_of_ble_eq_true rfl, Nat.le_of_ble_eq_true rfl⟩ ⟨Nat.le_of_ble_eq_true rfl, Nat.le_of_ble_eq_true rfl⟩ (fun H locs G => ?_)
                  refine lv_iconst (v := 1) hx hb dL_law_147 (by decide) ?_
                  refine lv_isub hx hb dL_law_148 ?_
                  refine g_topi (x' := nI (((ps cs (hs)).length) - 1)) (pk_sub (a := (ps cs (hs)).length) (b := 1) (by omega)) ?_
                  refine lv_istore (lv' := [(12, .int (nI (((ps cs (hs)).length) - 1))), (10, .long (kiC c1)), (2, .int 1), (9, .int (nI ((hs).length))), (7, .long (kiC cs)), (6, .int (nI k)), (5, .int sy), (4, .int sx), (0, .ref b), (1, .ref (ad 0)), (3, .int (nI t))]) hx hb dL_law_149 hl (by decide) rfl (fun ls hl => ?_)
                  refine lv_aload_n hx hb dL_law_151 rfl (lv_at hl 9 rfl) ?_
                  have G : gL D cy ad tv c1 (cs :: hs.take 5) (fun q : Nat => s.heap.size ≤ q) s _ _ := l_eq rfl (ps_1 cs hs) G
                  refine l_callV (As := []) (rest := []) (cs' := cs) (hs' := hs.take 5) (r := .int (nI ((hs.take 5).length))) C0 G (l_undo l D cy ad tv c1 (hs.take 5) cs) k_X4_undo ml_L_111 dL_law_152 rfl rfl hl.1 (Nat.le_of_ble_eq_true rfl) ⟨Nat.le_of_ble_eq_true rfl, Nat.le_of_ble_eq_true rfl⟩ ⟨Nat.le_of_ble_eq_true rfl, Nat.le_of_ble_eq_true rfl⟩ (fun H locs G => ?_)
                  refine lv_iload hx hb dL_law_155 (lv_at hl 0 rfl) ?_
                  refine lv_icmp_ne (tgt := 195) hx hb dL_law_157 (by decide) (fun c_157 => ?_) (fun c_157 => ?_)
                  · skip
                    have c_157 : ¬ (((hs.take 5).length) = (((ps cs (hs)).length) - 1)) := fun h => c_157 ((nI_eq (a := (hs.take 5).length) (b := ((ps cs (hs)).length) - 1) (by omega) (by omega)).mpr h)
                    exact absurd c_157 (by omega)
                  · skip
                    have c_157 : ((hs.take 5).length) = (((ps cs (hs)).length) - 1) := (nI_eq (a := (hs.take 5).length) (b := ((ps cs (hs)).length) - 1) (by omega) (by omega)).mp c_157
                    refine lv_aload_n hx hb dL_law_160 rfl (lv_at hl 9 rfl) ?_
                    refine l_callS (As := [.ref (ad 0)]) (rest := []) (cs' := cs) (hs' := hs.take 5) (r := .long (kiC cs)) C0 G (h_kinds l D cy ad tv cs (hs.take 5)  ) k_L_kinds ml_L_48 dL_law_161 rfl rfl hl.1 (Nat.le_of_ble_eq_true rfl) ⟨Nat.le_of_ble_eq_true rfl, Nat.le_of_ble_eq_true rfl⟩ ⟨Nat.le_of_ble_eq_true rfl, Nat.le_of_ble_eq_true rfl⟩ (fun H locs G => ?_)
                    refine lv_lload hx hb dL_law_164 (lv_at hl 4 rfl) ?_
                    refine W.lcmp hx hb dL_law_166 ?_
                    refine lv_if_ne (tgt := 195) hx hb dL_law_167 (by decide) (fun c_167 => ?_) (fun c_167 => ?_)
                    · skip
                      have c_167 : ¬ (kiC cs) = (kiC cs) := fun h => c_167 (lgc_eq.mpr h)
                      exact absurd rfl c_167
                    · skip
                      have c_167 : (kiC cs) = (kiC cs) := lgc_eq.mp c_167
                      refine lv_aload_n hx hb dL_law_170 rfl (lv_at hl 9 rfl) ?_
                      refine lv_iload hx hb dL_law_171 (lv_at hl 7 rfl) ?_
                      refine lv_iload hx hb dL_law_173 (lv_at hl 6 rfl) ?_
                      refine l_callS (As := [.ref (ad 0), .int sx, .int sy]) (rest := []) (cs' := actS sx sy cs) (hs' := ps cs (hs.take 5)) (r := .int 1) C0 G (h_acts l D cy ad tv cs (hs.take 5) sx sy hv) k_L_acts ml_L_129 dL_law_175 rfl rfl hl.1 (Nat.le_of_ble_eq_true rfl) ⟨Nat.le_of_ble_eq_true rfl, Nat.le_of_ble_eq_true rfl⟩ ⟨Nat.le_of_ble_eq_true rfl, Nat.le_of_ble_eq_true rfl⟩ (fun H locs G => ?_)
                      obtain ⟨c2, hc2⟩ : ∃ g9 : Nat → Cd, g9 = actS sx sy cs := ⟨_, rfl⟩
                      have G : gL D cy ad tv c2 (ps cs (hs.take 5)) (fun q : Nat => s.heap.size ≤ q) s _ _ := l_eq hc2.symm rfl G
                      have hv2 : Vk c2 := by rw [hc2]; exact vk_act hv _ _
                      refine lv_if_eq (tgt := 195) hx hb dL_law_178 (by decide) (fun c_178 => ?_) (fun c_178 => ?_)
                      · exact absurd c_178 (by decide)
                      · skip
                        refine lv_aload_n hx hb dL_law_181 rfl (lv_at hl 9 rfl) ?_
                        refine l_callS (As := [.ref (ad 0)]) (rest := []) (cs' := c2) (hs' := ps cs (hs.take 5)) (r := .long (kiC c2)) C0 G (h_kinds l D cy ad tv c2 (ps cs (hs.take 5))  ) k_L_kinds ml_L_48 dL_law_182 rfl rfl hl.1 (Nat.le_of_ble_eq_true rfl) ⟨Nat.le_of_ble_eq_true rfl, Nat.le_of_ble_eq_true rfl⟩ ⟨Nat.le_of_ble_eq_true rfl, Nat.le_of_ble_eq_true rfl⟩ (fun H locs G => ?_)
                        refine g_topl (x' := kiC c1) (by rw [hc2, hc1]) ?_
                        refine lv_lload hx hb dL_law_185 (lv_at hl 1 rfl) ?_
                        refine W.lcmp hx hb dL_law_187 ?_
                        refine lv_if_ne (tgt := 195) hx hb dL_law_188 (by decide) (fun c_188 => ?_) (fun c_188 => ?_)
                        · skip
                          have c_188 : ¬ (kiC c1) = (kiC c1) := fun h => c_188 (lgc_eq.mpr h)
                          exact absurd rfl c_188
                        · skip
                          have c_188 : (kiC c1) = (kiC c1) := lgc_eq.mp c_188
                          refine lv_iconst (v := 1) hx hb dL_law_191 (by decide) ?_
                          refine lv_goto (tgt := 196) hx hb dL_law_192 (by decide) ?_
                          refine lv_istore_n (lv' := [(2, .int 1), (12, .int (nI (((ps cs (hs)).length) - 1))), (10, .long (kiC c1)), (9, .int (nI ((hs).length))), (7, .long (kiC cs)), (6, .int (nI k)), (5, .int sy), (4, .int sx), (0, .ref b), (1, .ref (ad 0)), (3, .int (nI t))]) hx hb dL_law_196 rfl hl (by decide) rfl (fun ls hl => ?_)
                          refine lv_iload_n hx hb dL_law_197 rfl (lv_at hl 0 rfl) ?_
                          refine lv_if_eq (tgt := 265) hx hb dL_law_198 (by decide) (fun c_198 => ?_) (fun c_198 => ?_)
                          · exact absurd c_198 (by decide)
                          · skip
                            refine lv_aload_n hx hb dL_law_201 rfl (lv_at hl 9 rfl) ?_
                            refine lv_iload hx hb dL_law_202 (lv_at hl 5 rfl) ?_
                            refine l_callS (As := [.ref (ad 0), .int (nI k)]) (rest := []) (cs' := c2) (hs' := ps cs (hs.take 5)) (r := .int 1) C0 G (h_holds l D cy ad tv c2 (ps cs (hs.take 5)) k (by omega)) k_L_holds ml_L_119 dL_law_204 rfl rfl hl.1 (Nat.le_of_ble_eq_true rfl) ⟨Nat.le_of_ble_eq_true rfl, Nat.le_of_ble_eq_true rfl⟩ ⟨Nat.le_of_ble_eq_true rfl, Nat.le_of_ble_eq_true rfl⟩ (fun H locs G => ?_)
                            refine lv_if_eq (tgt := 265) hx hb dL_law_207 (by decide) (fun c_207 => ?_) (fun c_207 => ?_)
                            · exact absurd c_207 (by decide)
                            · skip
                              refine lv_iload_n hx hb dL_law_210 rfl (lv_at hl 10 rfl) ?_
                              refine lv_iconst (v := 3) hx hb dL_law_211 (by decide) ?_
                              refine lv_irem hx hb dL_law_212 (by decide) ?_
                              refine g_topi (x' := nI (t % 3)) (pk_rem (a := t) (d := 3) (by omega) (by decide) (by decide)) ?_
                              refine lv_iconst (v := 1) hx hb dL_law_213 (by decide) ?_
                              refine lv_icmp_ne (tgt := 235) hx hb dL_law_214 (by decide) (fun c_214 => ?_) (fun c_214 => ?_)
                              · skip
                                have c_214 : ¬ ((t % 3) = 1) := fun h => c_214 ((nI_eq (a := t % 3) (b := 1) (by omega) (by omega)).mpr h)
                                refine lv_iload_n hx hb dL_law_235 rfl (lv_at hl 10 rfl) ?_
                                refine lv_iconst (v := 3) hx hb dL_law_236 (by decide) ?_
                                refine lv_irem hx hb dL_law_237 (by decide) ?_
                                refine g_topi (x' := nI (t % 3)) (pk_rem (a := t) (d := 3) (by omega) (by decide) (by decide)) ?_
                                refine lv_iconst (v := 2) hx hb dL_law_238 (by decide) ?_
                                refine lv_icmp_ne (tgt := 261) hx hb dL_law_239 (by decide) (fun c_239 => ?_) (fun c_239 => ?_)
                                · skip
                                  have c_239 : ¬ ((t % 3) = 2) := fun h => c_239 ((nI_eq (a := t % 3) (b := 2) (by omega) (by omega)).mpr h)
                                  refine lv_iconst (v := 1) hx hb dL_law_261 (by decide) ?_
                                  refine lv_goto (tgt := 266) hx hb dL_law_262 (by decide) ?_
                                  refine lv_istore_n (lv' := [(2, .int 1), (12, .int (nI (((ps cs (hs)).length) - 1))), (10, .long (kiC c1)), (9, .int (nI ((hs).length))), (7, .long (kiC cs)), (6, .int (nI k)), (5, .int sy), (4, .int sx), (0, .ref b), (1, .ref (ad 0)), (3, .int (nI t))]) hx hb dL_law_266 rfl hl (by decide) rfl (fun ls hl => ?_)
                                  refine lv_iinc (v := nI (t + 1)) (lv' := [(3, .int (nI (t + 1))), (2, .int 1), (12, .int (nI (((ps cs (hs)).length) - 1))), (10, .long (kiC c1)), (9, .int (nI ((hs).length))), (7, .long (kiC cs)), (6, .int (nI k)), (5, .int sy), (4, .int sx), (0, .ref b), (1, .ref (ad 0))]) hx hb dL_law_267 hl (k := 10) rfl (nI_add t 1) (by decide) rfl (fun ls hl => ?_)
                                  refine lv_goto (tgt := 33) hx hb dL_law_270 (by decide) ?_
                                  exact ih (t + 1) (by omega) (by omega) _ _ _ _ _ hv2 G (lv_sub hl [9, 10, 1, 0] rfl)
                                · skip
                                  have c_239 : (t % 3) = 2 := (nI_eq (a := t % 3) (b := 2) (by omega) (by omega)).mp c_239
                                  refine lv_aload_n hx hb dL_law_242 rfl (lv_at hl 9 rfl) ?_
                                  refine lv_iload hx hb dL_law_243 (lv_at hl 5 rfl) ?_
                                  refine lv_iload hx hb dL_law_245 (lv_at hl 6 rfl) ?_
                                  refine lv_bipush (v := 9) hx hb dL_law_247 (by decide) ?_
                                  refine lv_ishr hx hb dL_law_249 ?_
                                  refine lv_bipush (v := 64) hx hb dL_law_250 (by decide) ?_
                                  refine l_callS (As := [.int (sy >>> (9 &&& 31)), .int 64]) (rest := [.int (nI k), .ref (ad 0)]) (cs' := c2) (hs' := ps cs (hs.take 5)) (r := .int (nI (upN (sy >>> (9 &&& 31)) 64))) C0 G (GL.pure (fun W1 => c_L_up l D cy W1 (sy >>> (9 &&& 31)) 64 (by omega) (by omega))) k_L_up ml_L_29 dL_law_252 rfl rfl hl.1 (Nat.le_of_ble_eq_true rfl) ⟨Nat.le_of_ble_eq_true rfl, Nat.le_of_ble_eq_true rfl⟩ ⟨Nat.le_of_ble_eq_true rfl, Nat.le_of_ble_eq_true rfl⟩ (fun H locs G => ?_)
                                  obtain ⟨z64, ez64⟩ : ∃ g9 : Nat, g9 = upN (sy >>> (9 &&& 31)) 64 := ⟨_, rfl⟩
                                  have hz64 : z64 < 64 := by rw [ez64]; exact upN_lt _ (by decide)
                                  refine g_topi (x' := nI z64) (congrArg nI ez64.symm) ?_
                                  refine l_callS (As := [.ref (ad 0), .int (nI k), .int (nI z64)]) (rest := []) (cs' := c2) (hs' := if tb (sdW (c2 k).1 (c2 k).2.1) z64 then (ps cs (hs.take 5)).take 3 else (ps cs (hs.take 5))) (r := .int 1) C0 G (h_isAhead l D cy ad tv c2 (ps cs (hs.take 5)) k z64 (by omega) (by omega) (hv2)) k_L_isAhead ml_L_135 dL_law_255 rfl rfl hl.1 (Nat.le_of_ble_eq_true rfl) ⟨Nat.le_of_ble_eq_true rfl, Nat.le_of_ble_eq_true rfl⟩ ⟨Nat.le_of_ble_eq_true rfl, Nat.le_of_ble_eq_true rfl⟩ (fun H locs G => ?_)
                                  refine lv_if_eq (tgt := 265) hx hb dL_law_258 (by decide) (fun c_258 => ?_) (fun c_258 => ?_)
                                  · exact absurd c_258 (by decide)
                                  · skip
                                    refine lv_iconst (v := 1) hx hb dL_law_261 (by decide) ?_
                                    refine lv_goto (tgt := 266) hx hb dL_law_262 (by decide) ?_
                                    refine lv_istore_n (lv' := [(2, .int 1), (12, .int (nI (((ps cs (hs)).length) - 1))), (10, .long (kiC c1)), (9, .int (nI ((hs).length))), (7, .long (kiC cs)), (6, .int (nI k)), (5, .int sy), (4, .int sx), (0, .ref b), (1, .ref (ad 0)), (3, .int (nI t))]) hx hb dL_law_266 rfl hl (by decide) rfl (fun ls hl => ?_)
                                    refine lv_iinc (v := nI (t + 1)) (lv' := [(3, .int (nI (t + 1))), (2, .int 1), (12, .int (nI (((ps cs (hs)).length) - 1))), (10, .long (kiC c1)), (9, .int (nI ((hs).length))), (7, .long (kiC cs)), (6, .int (nI k)), (5, .int sy), (4, .int sx), (0, .ref b), (1, .ref (ad 0))]) hx hb dL_law_267 hl (k := 10) rfl (nI_add t 1) (by decide) rfl (fun ls hl => ?_)
                                    refine lv_goto (tgt := 33) hx hb dL_law_270 (by decide) ?_
                                    exact ih (t + 1) (by omega) (by omega) _ _ _ _ _ hv2 G (lv_sub hl [9, 10, 1, 0] rfl)
                              · skip
                                have c_214 : (t % 3) = 1 := (nI_eq (a := t % 3) (b := 1) (by omega) (by omega)).mp c_214
                                refine lv_aload_n hx hb dL_law_217 rfl (lv_at hl 9 rfl) ?_
                                refine lv_iload hx hb dL_law_218 (lv_at hl 5 rfl) ?_
                                refine lv_iload hx hb dL_law_220 (lv_at hl 7 rfl) ?_
                                refine lv_iconst (v := 5) hx hb dL_law_222 (by decide) ?_
                                refine lv_ishr hx hb dL_law_223 ?_
                                refine lv_bipush (v := 8) hx hb dL_law_224 (by decide) ?_
                                refine l_callS (As := [.int (sx >>> (5 &&& 31)), .int 8]) (rest := [.int (nI k), .ref (ad 0)]) (cs' := c2) (hs' := ps cs (hs.take 5)) (r := .int (nI (upN (sx >>> (5 &&& 31)) 8))) C0 G (GL.pure (fun W1 => c_L_up l D cy W1 (sx >>> (5 &&& 31)) 8 (by omega) (by omega))) k_L_up ml_L_29 dL_law_226 rfl rfl hl.1 (Nat.le_of_ble_eq_true rfl) ⟨Nat.le_of_ble_eq_true rfl, Nat.le_of_ble_eq_true rfl⟩ ⟨Nat.le_of_ble_eq_true rfl, Nat.le_of_ble_eq_true rfl⟩ (fun H locs G => ?_)
                                obtain ⟨z8, ez8⟩ : ∃ g9 : Nat, g9 = upN (sx >>> (5 &&& 31)) 8 := ⟨_, rfl⟩
                                have hz8 : z8 < 8 := by rw [ez8]; exact upN_lt _ (by decide)
                                refine g_topi (x' := nI z8) (congrArg nI ez8.symm) ?_
                                refine l_callS (As := [.ref (ad 0), .int (nI k), .int (nI z8)]) (rest := []) (cs' := c2) (hs' := (ps cs (hs.take 5)).take 2) (r := .int 1) C0 G (h_isSeen l D cy ad tv c2 (ps cs (hs.take 5)) k z8 (by omega) (by omega) (hv2)) k_L_isSeen ml_L_132 dL_law_229 rfl rfl hl.1 (Nat.le_of_ble_eq_true rfl) ⟨Nat.le_of_ble_eq_true rfl, Nat.le_of_ble_eq_true rfl⟩ ⟨Nat.le_of_ble_eq_true rfl, Nat.le_of_ble_eq_true rfl⟩ (fun H locs G => ?_)
                                refine lv_if_eq (tgt := 265) hx hb dL_law_232 (by decide) (fun c_232 => ?_) (fun c_232 => ?_)
                                · exact absurd c_232 (by decide)
                                · skip
                                  refine lv_iload_n hx hb dL_law_235 rfl (lv_at hl 10 rfl) ?_
                                  refine lv_iconst (v := 3) hx hb dL_law_236 (by decide) ?_
                                  refine lv_irem hx hb dL_law_237 (by decide) ?_
                                  refine g_topi (x' := nI (t % 3)) (pk_rem (a := t) (d := 3) (by omega) (by decide) (by decide)) ?_
                                  refine lv_iconst (v := 2) hx hb dL_law_238 (by decide) ?_
                                  refine lv_icmp_ne (tgt := 261) hx hb dL_law_239 (by decide) (fun c_239 => ?_) (fun c_239 => ?_)
                                  · skip
                                    have c_239 : ¬ ((t % 3) = 2) := fun h => c_239 ((nI_eq (a := t % 3) (b := 2) (by omega) (by omega)).mpr h)
                                    refine lv_iconst (v := 1) hx hb dL_law_261 (by decide) ?_
                                    refine lv_goto (tgt := 266) hx hb dL_law_262 (by decide) ?_
                                    refine lv_istore_n (lv' := [(2, .int 1), (12, .int (nI (((ps cs (hs)).length) - 1))), (10, .long (kiC c1)), (9, .int (nI ((hs).length))), (7, .long (kiC cs)), (6, .int (nI k)), (5, .int sy), (4, .int sx), (0, .ref b), (1, .ref (ad 0)), (3, .int (nI t))]) hx hb dL_law_266 rfl hl (by decide) rfl (fun ls hl => ?_)
                                    refine lv_iinc (v := nI (t + 1)) (lv' := [(3, .int (nI (t + 1))), (2, .int 1), (12, .int (nI (((ps cs (hs)).length) - 1))), (10, .long (kiC c1)), (9, .int (nI ((hs).length))), (7, .long (kiC cs)), (6, .int (nI k)), (5, .int sy), (4, .int sx), (0, .ref b), (1, .ref (ad 0))]) hx hb dL_law_267 hl (k := 10) rfl (nI_add t 1) (by decide) rfl (fun ls hl => ?_)
                                    refine lv_goto (tgt := 33) hx hb dL_law_270 (by decide) ?_
                                    exact ih (t + 1) (by omega) (by omega) _ _ _ _ _ hv2 G (lv_sub hl [9, 10, 1, 0] rfl)
                                  · skip
                                    have c_239 : (t % 3) = 2 := (nI_eq (a := t % 3) (b := 2) (by omega) (by omega)).mp c_239
                                    refine lv_aload_n hx hb dL_law_242 rfl (lv_at hl 9 rfl) ?_
                                    refine lv_iload hx hb dL_law_243 (lv_at hl 5 rfl) ?_
                                    refine lv_iload hx hb dL_law_245 (lv_at hl 6 rfl) ?_
                                    refine lv_bipush (v := 9) hx hb dL_law_247 (by decide) ?_
                                    refine lv_ishr hx hb dL_law_249 ?_
                                    refine lv_bipush (v := 64) hx hb dL_law_250 (by decide) ?_
                                    refine l_callS (As := [.int (sy >>> (9 &&& 31)), .int 64]) (rest := [.int (nI k), .ref (ad 0)]) (cs' := c2) (hs' := (ps cs (hs.take 5)).take 2) (r := .int (nI (upN (sy >>> (9 &&& 31)) 64))) C0 G (GL.pure (fun W1 => c_L_up l D cy W1 (sy >>> (9 &&& 31)) 64 (by omega) (by omega))) k_L_up ml_L_29 dL_law_252 rfl rfl hl.1 (Nat.le_of_ble_eq_true rfl) ⟨Nat.le_of_ble_eq_true rfl, Nat.le_of_ble_eq_true rfl⟩ ⟨Nat.le_of_ble_eq_true rfl, Nat.le_of_ble_eq_true rfl⟩ (fun H locs G => ?_)
                                    obtain ⟨z64, ez64⟩ : ∃ g9 : Nat, g9 = upN (sy >>> (9 &&& 31)) 64 := ⟨_, rfl⟩
                                    have hz64 : z64 < 64 := by rw [ez64]; exact upN_lt _ (by decide)
                                    refine g_topi (x' := nI z64) (congrArg nI ez64.symm) ?_
                                    refine l_callS (As := [.ref (ad 0), .int (nI k), .int (nI z64)]) (rest := []) (cs' := c2) (hs' := if tb (sdW (c2 k).1 (c2 k).2.1) z64 then ((ps cs (hs.take 5)).take 2).take 3 else ((ps cs (hs.take 5)).take 2)) (r := .int 1) C0 G (h_isAhead l D cy ad tv c2 ((ps cs (hs.take 5)).take 2) k z64 (by omega) (by omega) (hv2)) k_L_isAhead ml_L_135 dL_law_255 rfl rfl hl.1 (Nat.le_of_ble_eq_true rfl) ⟨Nat.le_of_ble_eq_true rfl, Nat.le_of_ble_eq_true rfl⟩ ⟨Nat.le_of_ble_eq_true rfl, Nat.le_of_ble_eq_true rfl⟩ (fun H locs G => ?_)
                                    refine lv_if_eq (tgt := 265) hx hb dL_law_258 (by decide) (fun c_258 => ?_) (fun c_258 => ?_)
                                    · exact absurd c_258 (by decide)
                                    · skip
                                      refine lv_iconst (v := 1) hx hb dL_law_261 (by decide) ?_
                                      refine lv_goto (tgt := 266) hx hb dL_law_262 (by decide) ?_
                                      refine lv_istore_n (lv' := [(2, .int 1), (12, .int (nI (((ps cs (hs)).length) - 1))), (10, .long (kiC c1)), (9, .int (nI ((hs).length))), (7, .long (kiC cs)), (6, .int (nI k)), (5, .int sy), (4, .int sx), (0, .ref b), (1, .ref (ad 0)), (3, .int (nI t))]) hx hb dL_law_266 rfl hl (by decide) rfl (fun ls hl => ?_)
                                      refine lv_iinc (v := nI (t + 1)) (lv' := [(3, .int (nI (t + 1))), (2, .int 1), (12, .int (nI (((ps cs (hs)).length) - 1))), (10, .long (kiC c1)), (9, .int (nI ((hs).length))), (7, .long (kiC cs)), (6, .int (nI k)), (5, .int sy), (4, .int sx), (0, .ref b), (1, .ref (ad 0))]) hx hb dL_law_267 hl (k := 10) rfl (nI_add t 1) (by decide) rfl (fun ls hl => ?_)
                                      refine lv_goto (tgt := 33) hx hb dL_law_270 (by decide) ?_
                                      exact ih (t + 1) (by omega) (by omega) _ _ _ _ _ hv2 G (lv_sub hl [9, 10, 1, 0] rfl)
