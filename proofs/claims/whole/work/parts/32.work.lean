set_option maxHeartbeats 4000000 in
set_option maxRecDepth 100000 in
theorem c_X5_readsPart (l : Launch) (D : va_G) (cy : Nat → ClassId) (am : Nat → Nat) (mf : Nat → Int64) (mb : Nat → Int64) (mv : Nat → Nat) (th : Int32) (sv : Nat) (X : Nat → Int32) (ln : Nat) (ap : Nat) (le : Nat) (fc : Nat) (f1 : Int32) (f2 : Int32) (ha : Int64) (R : va_W) (B : Nat → Int32) (tx : Nat → Nat) (q : RS) (l0 : Nat) (i0 : Bool) (r0 : Nat) (k0 : Nat) (n0 : Nat) (h1 : ln ≤ 60) (hmx : ∀ j, j < ln → X j = nI (tx j) ∧ tx j < 128) (hQ : rdQ tx q ln ap ap (0, l0, i0, r0, k0, n0)) (hq : rsOk q) : GE l D (gts cy) yX5_readsPart cX5_readsPart 1 (some .boolean) 3 0 0 [.ref (am 0)] (wM am cy th (cS mf mb mv) sv X ln ap le fc f1 f2 (B) ha R) (fun r W2 => ∃ a2 : Nat, ∃ le2 : Nat, ∃ fc2 : Nat, ∃ g1 : Int32, ∃ g2 : Int32, ∃ o2 : Bool, r = some (.int (bI o2)) ∧ W2 = wM am cy th (cS mf mb mv) sv X ln a2 le2 fc2 g1 g2 (B) ha R ∧ a2 ≤ ln ∧ (o2 = true → rdD tx q ln ap a2 le2 fc2 g1 g2) ∧ (o2 = false → rdF tx q ln a2)) := by
  refine g_intro (by decide +kernel) (lv := [(0, .ref (am 0))]) rfl (Nat.le_of_ble_eq_true rfl) ?_
  intro p e s m below meth c C0 G ls hl
  have hx := C0.1
  have hb := C0.2.1
  have hown := C0.2.2.2.2.2.1
  have hts := C0.2.2.2.2.2.2.1
  have hsg := sg_b (ap := ap) hmx
  have hap := hQ.1
  refine lv_aload_n hx hb dX5_readsPart_0 rfl (lv_at hl 0 rfl) ?_
  refine lv_aload_n hx hb dX5_readsPart_1 rfl (lv_at hl 0 rfl) ?_
  refine g_callV (As := []) (rest := [.ref (am 0)]) (q0 := 0) C0 G (c_X5_sign l D cy (am := am) (mf := mf) (mb := mb) (mv := mv) (th := th) (sv := sv) (X := X) (ln := ln) (ap := ap) (le := le) (fc := fc) (f1 := f1) (f2 := f2) (ha := ha) (R := R) (B := B) (tx := tx) (by omega) (by omega) hmx) k_X5_sign ml_X5_146 rfl rfl dX5_readsPart_2 rfl rfl hl.1 (Nat.le_of_ble_eq_true rfl) ⟨Nat.le_of_ble_eq_true rfl, Nat.le_of_ble_eq_true rfl⟩ ⟨Nat.le_of_ble_eq_true rfl, Nat.le_of_ble_eq_true rfl⟩ (fun r W2 H locs hp G => ?_)
  obtain ⟨rfl, hw⟩ := hp
  have G := g_wc hw G
  refine W.eq (g2 := F0 m 5 ls [.int (nI (sgN tx ln ap)), .ref (am 0)]) rfl ?_
  refine g_put (q0 := 0) (W2 := wM am cy th (cS mf mb mv) sv X ln ap (sgN tx ln ap) fc f1 f2 (B) ha R) C0 G ft_X5 in_X5 rfl rfl 6 (by decide) fl_X5_156 (fun _ h => h) rfl rfl rfl (Nat.le_of_ble_eq_true rfl) rfl dX5_readsPart_5 (fun H locs G => ?_)
  refine lv_aload_n hx hb dX5_readsPart_8 rfl (lv_at hl 0 rfl) ?_
  refine lv_bipush (v := 99) hx hb dX5_readsPart_9 (by decide) ?_
  refine g_callV (As := [.int 99]) (rest := []) (q0 := 0) C0 G (c_X5_takes l D cy (am := am) (mf := mf) (mb := mb) (mv := mv) (th := th) (sv := sv) (X := X) (ln := ln) (ap := ap) (le := sgN tx ln ap) (fc := fc) (f1 := f1) (f2 := f2) (ha := ha) (R := R) (B := B) (sg := 99) (tx := tx) (by omega) (by omega) (by omega) hmx) k_X5_takes ml_X5_159 rfl rfl dX5_readsPart_11 rfl rfl hl.1 (Nat.le_of_ble_eq_true rfl) ⟨Nat.le_of_ble_eq_true rfl, Nat.le_of_ble_eq_true rfl⟩ ⟨Nat.le_of_ble_eq_true rfl, Nat.le_of_ble_eq_true rfl⟩ (fun r W2 H locs hp G => ?_)
  obtain ⟨rfl, hw⟩ := hp
  have G := g_wc hw G
  refine W.eq (g2 := F0 m 14 ls [.int (bI (decide (sgN tx ln ap = 99)))]) rfl ?_
  refine lv_if_eq (tgt := 19) hx hb dX5_readsPart_14 (by decide) (fun c_14 => ?_) (fun c_14 => ?_)
  · skip
    have c_14 : (decide (sgN tx ln ap = 99)) = false := bI_f c_14
    have G : gW D (wM am cy th (cS mf mb mv) sv X ln ap (sgN tx ln ap) fc f1 f2 (B) ha R) (va_A (wM am cy th (cS mf mb mv) sv X ln ap le fc f1 f2 (B) ha R) s.heap.size) s _ _ := g_wc (by rw [if_neg (of_decide_eq_false c_14)]) G
    refine lv_aload_n hx hb dX5_readsPart_19 rfl (lv_at hl 0 rfl) ?_
    refine lv_bipush (v := 118) hx hb dX5_readsPart_20 (by decide) ?_
    refine g_callV (As := [.int 118]) (rest := []) (q0 := 0) C0 G (c_X5_takes l D cy (am := am) (mf := mf) (mb := mb) (mv := mv) (th := th) (sv := sv) (X := X) (ln := ln) (ap := ap) (le := sgN tx ln ap) (fc := fc) (f1 := f1) (f2 := f2) (ha := ha) (R := R) (B := B) (sg := 118) (tx := tx) (by omega) (by omega) (by omega) hmx) k_X5_takes ml_X5_159 rfl rfl dX5_readsPart_22 rfl rfl hl.1 (Nat.le_of_ble_eq_true rfl) ⟨Nat.le_of_ble_eq_true rfl, Nat.le_of_ble_eq_true rfl⟩ ⟨Nat.le_of_ble_eq_true rfl, Nat.le_of_ble_eq_true rfl⟩ (fun r W2 H locs hp G => ?_)
    obtain ⟨rfl, hw⟩ := hp
    have G := g_wc hw G
    refine W.eq (g2 := F0 m 25 ls [.int (bI (decide (sgN tx ln ap = 118)))]) rfl ?_
    refine lv_if_eq (tgt := 51) hx hb dX5_readsPart_25 (by decide) (fun c_25 => ?_) (fun c_25 => ?_)
    · skip
      have c_25 : (decide (sgN tx ln ap = 118)) = false := bI_f c_25
      have G : gW D (wM am cy th (cS mf mb mv) sv X ln ap (sgN tx ln ap) fc f1 f2 (B) ha R) (va_A (wM am cy th (cS mf mb mv) sv X ln ap le fc f1 f2 (B) ha R) s.heap.size) s _ _ := g_wc (by rw [if_neg (of_decide_eq_false c_25)]) G
      refine lv_aload_n hx hb dX5_readsPart_51 rfl (lv_at hl 0 rfl) ?_
      refine lv_bipush (v := 112) hx hb dX5_readsPart_52 (by decide) ?_
      refine g_callV (As := [.int 112]) (rest := []) (q0 := 0) C0 G (c_X5_takes l D cy (am := am) (mf := mf) (mb := mb) (mv := mv) (th := th) (sv := sv) (X := X) (ln := ln) (ap := ap) (le := sgN tx ln ap) (fc := fc) (f1 := f1) (f2 := f2) (ha := ha) (R := R) (B := B) (sg := 112) (tx := tx) (by omega) (by omega) (by omega) hmx) k_X5_takes ml_X5_159 rfl rfl dX5_readsPart_54 rfl rfl hl.1 (Nat.le_of_ble_eq_true rfl) ⟨Nat.le_of_ble_eq_true rfl, Nat.le_of_ble_eq_true rfl⟩ ⟨Nat.le_of_ble_eq_true rfl, Nat.le_of_ble_eq_true rfl⟩ (fun r W2 H locs hp G => ?_)
      obtain ⟨rfl, hw⟩ := hp
      have G := g_wc hw G
      refine W.eq (g2 := F0 m 57 ls [.int (bI (decide (sgN tx ln ap = 112)))]) rfl ?_
      refine lv_if_eq (tgt := 100) hx hb dX5_readsPart_57 (by decide) (fun c_57 => ?_) (fun c_57 => ?_)
      · skip
        have c_57 : (decide (sgN tx ln ap = 112)) = false := bI_f c_57
        have G : gW D (wM am cy th (cS mf mb mv) sv X ln ap (sgN tx ln ap) fc f1 f2 (B) ha R) (va_A (wM am cy th (cS mf mb mv) sv X ln ap le fc f1 f2 (B) ha R) s.heap.size) s _ _ := g_wc (by rw [if_neg (of_decide_eq_false c_57)]) G
        refine lv_aload_n hx hb dX5_readsPart_100 rfl (lv_at hl 0 rfl) ?_
        refine lv_bipush (v := 119) hx hb dX5_readsPart_101 (by decide) ?_
        refine g_callV (As := [.int 119]) (rest := []) (q0 := 0) C0 G (c_X5_takes l D cy (am := am) (mf := mf) (mb := mb) (mv := mv) (th := th) (sv := sv) (X := X) (ln := ln) (ap := ap) (le := sgN tx ln ap) (fc := fc) (f1 := f1) (f2 := f2) (ha := ha) (R := R) (B := B) (sg := 119) (tx := tx) (by omega) (by omega) (by omega) hmx) k_X5_takes ml_X5_159 rfl rfl dX5_readsPart_103 rfl rfl hl.1 (Nat.le_of_ble_eq_true rfl) ⟨Nat.le_of_ble_eq_true rfl, Nat.le_of_ble_eq_true rfl⟩ ⟨Nat.le_of_ble_eq_true rfl, Nat.le_of_ble_eq_true rfl⟩ (fun r W2 H locs hp G => ?_)
        obtain ⟨rfl, hw⟩ := hp
        have G := g_wc hw G
        refine W.eq (g2 := F0 m 106 ls [.int (bI (decide (sgN tx ln ap = 119)))]) rfl ?_
        refine lv_if_ne (tgt := 120) hx hb dX5_readsPart_106 (by decide) (fun c_106 => ?_) (fun c_106 => ?_)
        · skip
          have c_106 : (decide (sgN tx ln ap = 119)) = true := bI_t c_106
          have G : gW D (wM am cy th (cS mf mb mv) sv X ln (ap + 1) (sgN tx ln ap) fc f1 f2 (B) ha R) (va_A (wM am cy th (cS mf mb mv) sv X ln ap le fc f1 f2 (B) ha R) s.heap.size) s _ _ := g_wc (by rw [if_pos (of_decide_eq_true c_106)]) G
          have Q1 := q_w hQ (by first | exact Or.inl (of_decide_eq_true c_106) | exact Or.inr (of_decide_eq_true c_115))
          have hq1 := Q1.1
          have hsg1 := sg_b (ap := ap + 1) hmx
          have h112 : sgN tx ln ap ≠ 112 := of_decide_eq_false c_57
          refine lv_aload_n hx hb dX5_readsPart_120 rfl (lv_at hl 0 rfl) ?_
          refine lv_aload_n hx hb dX5_readsPart_121 rfl (lv_at hl 0 rfl) ?_
          refine g_callV (As := []) (rest := [.ref (am 0)]) (q0 := 0) C0 G (c_X5_sign l D cy (am := am) (mf := mf) (mb := mb) (mv := mv) (th := th) (sv := sv) (X := X) (ln := ln) (ap := (ap + 1)) (le := sgN tx ln ap) (fc := fc) (f1 := f1) (f2 := f2) (ha := ha) (R := R) (B := B) (tx := tx) (by omega) (by omega) hmx) k_X5_sign ml_X5_146 rfl rfl dX5_readsPart_122 rfl rfl hl.1 (Nat.le_of_ble_eq_true rfl) ⟨Nat.le_of_ble_eq_true rfl, Nat.le_of_ble_eq_true rfl⟩ ⟨Nat.le_of_ble_eq_true rfl, Nat.le_of_ble_eq_true rfl⟩ (fun r W2 H locs hp G => ?_)
          obtain ⟨rfl, hw⟩ := hp
          have G := g_wc hw G
          refine W.eq (g2 := F0 m 125 ls [.int (nI (sgN tx ln (ap + 1))), .ref (am 0)]) rfl ?_
          refine lv_bipush (v := 102) hx hb dX5_readsPart_125 (by decide) ?_
          refine lv_icmp_ne (tgt := 134) hx hb dX5_readsPart_127 (by decide) (fun c_127 => ?_) (fun c_127 => ?_)
          · skip
            have c_127 : ¬ ((sgN tx ln (ap + 1)) = 102) := fun h => c_127 ((nI_eq (a := sgN tx ln (ap + 1)) (b := 102) (by omega) (by omega)).mpr h)
            refine lv_iconst (v := 0) hx hb dX5_readsPart_134 (by decide) ?_
            refine g_put (q0 := 0) (W2 := wM am cy th (cS mf mb mv) sv X ln (ap + 1) (sgN tx ln ap) 0 f1 f2 (B) ha R) C0 G ft_X5 in_X5 rfl rfl 7 (by decide) fl_X5_169 (fun _ h => h) rfl rfl rfl (Nat.le_of_ble_eq_true rfl) rfl dX5_readsPart_135 (fun H locs G => ?_)
            refine lv_aload_n hx hb dX5_readsPart_138 rfl (lv_at hl 0 rfl) ?_
            refine lv_bipush (v := 102) hx hb dX5_readsPart_139 (by decide) ?_
            refine g_callV (As := [.int 102]) (rest := []) (q0 := 0) C0 G (c_X5_takes l D cy (am := am) (mf := mf) (mb := mb) (mv := mv) (th := th) (sv := sv) (X := X) (ln := ln) (ap := (ap + 1)) (le := sgN tx ln ap) (fc := 0) (f1 := f1) (f2 := f2) (ha := ha) (R := R) (B := B) (sg := 102) (tx := tx) (by omega) (by omega) (by omega) hmx) k_X5_takes ml_X5_159 rfl rfl dX5_readsPart_141 rfl rfl hl.1 (Nat.le_of_ble_eq_true rfl) ⟨Nat.le_of_ble_eq_true rfl, Nat.le_of_ble_eq_true rfl⟩ ⟨Nat.le_of_ble_eq_true rfl, Nat.le_of_ble_eq_true rfl⟩ (fun r W2 H locs hp G => ?_)
            obtain ⟨rfl, hw⟩ := hp
            have G := g_wc hw G
            refine W.eq (g2 := F0 m 144 ls [.int (bI (decide (sgN tx ln (ap + 1) = 102)))]) rfl ?_
            refine lv_if_ne (tgt := 158) hx hb dX5_readsPart_144 (by decide) (fun c_144 => ?_) (fun c_144 => ?_)
            · skip
              have c_144 : (decide (sgN tx ln (ap + 1) = 102)) = true := bI_t c_144
              exact absurd (of_decide_eq_true c_144) c_127
            · skip
              have c_144 : (decide (sgN tx ln (ap + 1) = 102)) = false := bI_f c_144
              have G : gW D (wM am cy th (cS mf mb mv) sv X ln (ap + 1) (sgN tx ln ap) 0 f1 f2 (B) ha R) (va_A (wM am cy th (cS mf mb mv) sv X ln ap le fc f1 f2 (B) ha R) s.heap.size) s _ _ := g_wc (by rw [if_neg (of_decide_eq_false c_144)]) G
              refine lv_aload_n hx hb dX5_readsPart_147 rfl (lv_at hl 0 rfl) ?_
              refine lv_bipush (v := 98) hx hb dX5_readsPart_148 (by decide) ?_
              refine g_callV (As := [.int 98]) (rest := []) (q0 := 0) C0 G (c_X5_takes l D cy (am := am) (mf := mf) (mb := mb) (mv := mv) (th := th) (sv := sv) (X := X) (ln := ln) (ap := (ap + 1)) (le := sgN tx ln ap) (fc := 0) (f1 := f1) (f2 := f2) (ha := ha) (R := R) (B := B) (sg := 98) (tx := tx) (by omega) (by omega) (by omega) hmx) k_X5_takes ml_X5_159 rfl rfl dX5_readsPart_150 rfl rfl hl.1 (Nat.le_of_ble_eq_true rfl) ⟨Nat.le_of_ble_eq_true rfl, Nat.le_of_ble_eq_true rfl⟩ ⟨Nat.le_of_ble_eq_true rfl, Nat.le_of_ble_eq_true rfl⟩ (fun r W2 H locs hp G => ?_)
              obtain ⟨rfl, hw⟩ := hp
              have G := g_wc hw G
              refine W.eq (g2 := F0 m 153 ls [.int (bI (decide (sgN tx ln (ap + 1) = 98)))]) rfl ?_
              refine lv_if_ne (tgt := 158) hx hb dX5_readsPart_153 (by decide) (fun c_153 => ?_) (fun c_153 => ?_)
              · skip
                have c_153 : (decide (sgN tx ln (ap + 1) = 98)) = true := bI_t c_153
                have G : gW D (wM am cy th (cS mf mb mv) sv X ln ((ap + 1) + 1) (sgN tx ln ap) 0 f1 f2 (B) ha R) (va_A (wM am cy th (cS mf mb mv) sv X ln ap le fc f1 f2 (B) ha R) s.heap.size) s _ _ := g_wc (by rw [if_pos (of_decide_eq_true c_153)]) G
                have Q2 := q_b Q1 (of_decide_eq_true c_153)
                have hsg2 := sg_b (ap := ap + 1 + 1) hmx
                have hq2 := Q2.1
                refine lv_aload_n hx hb dX5_readsPart_158 rfl (lv_at hl 0 rfl) ?_
                refine lv_aload_n hx hb dX5_readsPart_159 rfl (lv_at hl 0 rfl) ?_
                refine lv_bipush (v := 7) hx hb dX5_readsPart_160 (by decide) ?_
                refine g_callV (As := [.int 7]) (rest := [.ref (am 0)]) (q0 := 0) C0 G (c_X5_figure l D cy (am := am) (mf := mf) (mb := mb) (mv := mv) (th := th) (sv := sv) (X := X) (ln := ln) (ap := ((ap + 1) + 1)) (le := sgN tx ln ap) (fc := 0) (f1 := f1) (f2 := f2) (ha := ha) (R := R) (B := B) (most := 7) (tx := tx) (by omega) (by omega) (by omega) hmx) k_X5_figure ml_X5_150 rfl rfl dX5_readsPart_162 rfl rfl hl.1 (Nat.le_of_ble_eq_true rfl) ⟨Nat.le_of_ble_eq_true rfl, Nat.le_of_ble_eq_true rfl⟩ ⟨Nat.le_of_ble_eq_true rfl, Nat.le_of_ble_eq_true rfl⟩ (fun r W2 H locs hp G => ?_)
                obtain ⟨rfl, hw⟩ := hp
                have G := g_wc hw G
                refine W.eq (g2 := F0 m 165 ls [.int (dgI 7 (sgN tx ln ((ap + 1) + 1))), .ref (am 0)]) rfl ?_
                refine g_put (q0 := 0) (W2 := wM am cy th (cS mf mb mv) sv X ln (if dgOk 7 (sgN tx ln ((ap + 1) + 1)) = true then ((ap + 1) + 1) + 1 else ((ap + 1) + 1)) (sgN tx ln ap) 0 (dgI 7 (sgN tx ln ((ap + 1) + 1))) f2 (B) ha R) C0 G ft_X5 in_X5 rfl rfl 8 (by decide) fl_X5_162 (fun _ h => h) rfl rfl rfl (Nat.le_of_ble_eq_true rfl) rfl dX5_readsPart_165 (fun H locs G => ?_)
                refine lv_aload_n hx hb dX5_readsPart_168 rfl (lv_at hl 0 rfl) ?_
                refine lv_aload_n hx hb dX5_readsPart_169 rfl (lv_at hl 0 rfl) ?_
                refine g_get (q0 := 0) (v := .int (dgI 7 (sgN tx ln ((ap + 1) + 1)))) C0 G in_X5 rfl rfl 8 (by decide) fl_X5_162 (fun _ h => h) rfl dX5_readsPart_170 ?_
                refine lv_iconst (v := (-1)) hx hb dX5_readsPart_173 (by decide) ?_
                refine lv_icmp_ne (tgt := 181) hx hb dX5_readsPart_174 (by decide) (fun c_174 => ?_) (fun c_174 => ?_)
                · skip
                  have c_174 : dgOk 7 (sgN tx ln ((ap + 1) + 1)) = true := dgI_y (by omega) c_174
                  have G : gW D (wM am cy th (cS mf mb mv) sv X ln (((ap + 1) + 1) + 1) (sgN tx ln ap) 0 (dgI 7 (sgN tx ln ((ap + 1) + 1))) f2 (B) ha R) (va_A (wM am cy th (cS mf mb mv) sv X ln ap le fc f1 f2 (B) ha R) s.heap.size) s _ _ := g_wc (by rw [if_pos c_174]) G
                  have G : gW D (wM am cy th (cS mf mb mv) sv X ln (((ap + 1) + 1) + 1) (sgN tx ln ap) 0 (nI ((sgN tx ln ((ap + 1) + 1)) - 48)) f2 (B) ha R) (va_A (wM am cy th (cS mf mb mv) sv X ln ap le fc f1 f2 (B) ha R) s.heap.size) s _ _ := g_wc (by rw [dgI_e c_174]) G
                  have Q3 := q_r7 Q2 h112 c_174
                  have hq3 := Q3.1
                  have hsg3 := sg_b (ap := ap + 1 + 1 + 1) hmx
                  refine lv_aload_n hx hb dX5_readsPart_181 rfl (lv_at hl 0 rfl) ?_
                  refine lv_bipush (v := 7) hx hb dX5_readsPart_182 (by decide) ?_
                  refine g_callV (As := [.int 7]) (rest := [.ref (am 0)]) (q0 := 0) C0 G (c_X5_figure l D cy (am := am) (mf := mf) (mb := mb) (mv := mv) (th := th) (sv := sv) (X := X) (ln := ln) (ap := (((ap + 1) + 1) + 1)) (le := sgN tx ln ap) (fc := 0) (f1 := nI ((sgN tx ln ((ap + 1) + 1)) - 48)) (f2 := f2) (ha := ha) (R := R) (B := B) (most := 7) (tx := tx) (by omega) (by omega) (by omega) hmx) k_X5_figure ml_X5_150 rfl rfl dX5_readsPart_184 rfl rfl hl.1 (Nat.le_of_ble_eq_true rfl) ⟨Nat.le_of_ble_eq_true rfl, Nat.le_of_ble_eq_true rfl⟩ ⟨Nat.le_of_ble_eq_true rfl, Nat.le_of_ble_eq_true rfl⟩ (fun r W2 H locs hp G => ?_)
                  obtain ⟨rfl, hw⟩ := hp
                  have G := g_wc hw G
                  refine W.eq (g2 := F0 m 187 ls [.int (dgI 7 (sgN tx ln (((ap + 1) + 1) + 1))), .ref (am 0)]) rfl ?_
                  refine g_put (q0 := 0) (W2 := wM am cy th (cS mf mb mv) sv X ln (if dgOk 7 (sgN tx ln (((ap + 1) + 1) + 1)) = true then (((ap + 1) + 1) + 1) + 1 else (((ap + 1) + 1) + 1)) (sgN tx ln ap) 0 (nI ((sgN tx ln ((ap + 1) + 1)) - 48)) (dgI 7 (sgN tx ln (((ap + 1) + 1) + 1))) (B) ha R) C0 G ft_X5 in_X5 rfl rfl 9 (by decide) fl_X5_153 (fun _ h => h) rfl rfl rfl (Nat.le_of_ble_eq_true rfl) rfl dX5_readsPart_187 (fun H locs G => ?_)
                  refine lv_aload_n hx hb dX5_readsPart_190 rfl (lv_at hl 0 rfl) ?_
                  refine g_get (q0 := 0) (v := .int (dgI 7 (sgN tx ln (((ap + 1) + 1) + 1)))) C0 G in_X5 rfl rfl 9 (by decide) fl_X5_153 (fun _ h => h) rfl dX5_readsPart_191 ?_
                  refine lv_iconst (v := (-1)) hx hb dX5_readsPart_194 (by decide) ?_
                  refine lv_icmp_eq (tgt := 202) hx hb dX5_readsPart_195 (by decide) (fun c_195 => ?_) (fun c_195 => ?_)
                  · skip
                    have c_195 : dgOk 7 (sgN tx ln (((ap + 1) + 1) + 1)) = false := dgI_n (by omega) c_195
                    have G : gW D (wM am cy th (cS mf mb mv) sv X ln (((ap + 1) + 1) + 1) (sgN tx ln ap) 0 (nI ((sgN tx ln ((ap + 1) + 1)) - 48)) (dgI 7 (sgN tx ln (((ap + 1) + 1) + 1))) (B) ha R) (va_A (wM am cy th (cS mf mb mv) sv X ln ap le fc f1 f2 (B) ha R) s.heap.size) s _ _ := g_wc (by rw [if_neg (by rw [c_195]; decide)]) G
                    refine lv_iconst (v := 0) hx hb dX5_readsPart_202 (by decide) ?_
                    exact g_zret C0 G rfl (by first | exact ⟨_, _, _, _, _, true, rfl, rfl, by omega, fun _ => ⟨8, (sgN tx ln ap), false, (sgN tx ln (ap + 1 + 1)) - 48, (sgN tx ln (ap + 1 + 1 + 1)) - 48, n0, Q4, Or.inr rfl, mx_8 Q4, by omega, ⟨rfl, Or.inr (Or.inr (Or.inr ⟨(by first | exact Or.inl (of_decide_eq_true c_106) | exact Or.inr (of_decide_eq_true c_115)), rfl, rfl, rfl⟩))⟩⟩, (fun h => by cases h)⟩ | exact ⟨_, _, _, _, _, true, rfl, rfl, by omega, fun _ => ⟨8, (sgN tx ln ap), true, (sgN tx ln (ap + 1 + 1)) - 48, (sgN tx ln (ap + 1 + 1 + 1)) - 48, n0, Q4, Or.inr rfl, mx_8 Q4, by omega, ⟨rfl, Or.inr (Or.inr (Or.inr ⟨(by first | exact Or.inl (of_decide_eq_true c_106) | exact Or.inr (of_decide_eq_true c_115)), rfl, rfl, rfl⟩))⟩⟩, (fun h => by cases h)⟩ | exact ⟨_, _, _, _, _, false, rfl, rfl, by omega, (fun h => by cases h), fun _ => f_27 Q2 h112 c_174⟩ | exact ⟨_, _, _, _, _, false, rfl, rfl, by omega, (fun h => by cases h), fun _ => f_3 Q3 c_195⟩) dX5_readsPart_203
                  · skip
                    have c_195 : dgOk 7 (sgN tx ln (((ap + 1) + 1) + 1)) = true := dgI_y (by omega) c_195
                    have G : gW D (wM am cy th (cS mf mb mv) sv X ln ((((ap + 1) + 1) + 1) + 1) (sgN tx ln ap) 0 (nI ((sgN tx ln ((ap + 1) + 1)) - 48)) (dgI 7 (sgN tx ln (((ap + 1) + 1) + 1))) (B) ha R) (va_A (wM am cy th (cS mf mb mv) sv X ln ap le fc f1 f2 (B) ha R) s.heap.size) s _ _ := g_wc (by rw [if_pos c_195]) G
                    have G : gW D (wM am cy th (cS mf mb mv) sv X ln ((((ap + 1) + 1) + 1) + 1) (sgN tx ln ap) 0 (nI ((sgN tx ln ((ap + 1) + 1)) - 48)) (nI ((sgN tx ln (((ap + 1) + 1) + 1)) - 48)) (B) ha R) (va_A (wM am cy th (cS mf mb mv) sv X ln ap le fc f1 f2 (B) ha R) s.heap.size) s _ _ := g_wc (by rw [dgI_e c_195]) G
                    have Q4 := q_k Q3 c_195
                    have hq4 := Q4.1
                    refine lv_iconst (v := 1) hx hb dX5_readsPart_198 (by decide) ?_
                    refine lv_goto (tgt := 203) hx hb dX5_readsPart_199 (by decide) ?_
                    exact g_zret C0 G rfl (by first | exact ⟨_, _, _, _, _, true, rfl, rfl, by omega, fun _ => ⟨8, (sgN tx ln ap), false, (sgN tx ln (ap + 1 + 1)) - 48, (sgN tx ln (ap + 1 + 1 + 1)) - 48, n0, Q4, Or.inr rfl, mx_8 Q4, by omega, ⟨rfl, Or.inr (Or.inr (Or.inr ⟨(by first | exact Or.inl (of_decide_eq_true c_106) | exact Or.inr (of_decide_eq_true c_115)), rfl, rfl, rfl⟩))⟩⟩, (fun h => by cases h)⟩ | exact ⟨_, _, _, _, _, true, rfl, rfl, by omega, fun _ => ⟨8, (sgN tx ln ap), true, (sgN tx ln (ap + 1 + 1)) - 48, (sgN tx ln (ap + 1 + 1 + 1)) - 48, n0, Q4, Or.inr rfl, mx_8 Q4, by omega, ⟨rfl, Or.inr (Or.inr (Or.inr ⟨(by first | exact Or.inl (of_decide_eq_true c_106) | exact Or.inr (of_decide_eq_true c_115)), rfl, rfl, rfl⟩))⟩⟩, (fun h => by cases h)⟩ | exact ⟨_, _, _, _, _, false, rfl, rfl, by omega, (fun h => by cases h), fun _ => f_27 Q2 h112 c_174⟩ | exact ⟨_, _, _, _, _, false, rfl, rfl, by omega, (fun h => by cases h), fun _ => f_3 Q3 c_195⟩) dX5_readsPart_203
                · skip
                  have c_174 : dgOk 7 (sgN tx ln ((ap + 1) + 1)) = false := dgI_n (by omega) c_174
                  have G : gW D (wM am cy th (cS mf mb mv) sv X ln ((ap + 1) + 1) (sgN tx ln ap) 0 (dgI 7 (sgN tx ln ((ap + 1) + 1))) f2 (B) ha R) (va_A (wM am cy th (cS mf mb mv) sv X ln ap le fc f1 f2 (B) ha R) s.heap.size) s _ _ := g_wc (by rw [if_neg (by rw [c_174]; decide)]) G
                  refine lv_iconst (v := (-1)) hx hb dX5_readsPart_177 (by decide) ?_
                  refine lv_goto (tgt := 187) hx hb dX5_readsPart_178 (by decide) ?_
                  refine g_put (q0 := 0) (W2 := wM am cy th (cS mf mb mv) sv X ln ((ap + 1) + 1) (sgN tx ln ap) 0 (dgI 7 (sgN tx ln ((ap + 1) + 1))) (-1) (B) ha R) C0 G ft_X5 in_X5 rfl rfl 9 (by decide) fl_X5_153 (fun _ h => h) rfl rfl rfl (Nat.le_of_ble_eq_true rfl) rfl dX5_readsPart_187 (fun H locs G => ?_)
                  refine lv_aload_n hx hb dX5_readsPart_190 rfl (lv_at hl 0 rfl) ?_
                  refine g_get (q0 := 0) (v := .int (-1)) C0 G in_X5 rfl rfl 9 (by decide) fl_X5_153 (fun _ h => h) rfl dX5_readsPart_191 ?_
                  refine g_topi (x' := (-1)) rfl ?_
                  refine lv_iconst (v := (-1)) hx hb dX5_readsPart_194 (by decide) ?_
                  refine lv_icmp_eq (tgt := 202) hx hb dX5_readsPart_195 (by decide) (fun c_195 => ?_) (fun c_195 => ?_)
                  · skip
                    refine lv_iconst (v := 0) hx hb dX5_readsPart_202 (by decide) ?_
                    exact g_zret C0 G rfl (by first | exact ⟨_, _, _, _, _, true, rfl, rfl, by omega, fun _ => ⟨8, (sgN tx ln ap), false, (sgN tx ln (ap + 1 + 1)) - 48, (sgN tx ln (ap + 1 + 1 + 1)) - 48, n0, Q4, Or.inr rfl, mx_8 Q4, by omega, ⟨rfl, Or.inr (Or.inr (Or.inr ⟨(by first | exact Or.inl (of_decide_eq_true c_106) | exact Or.inr (of_decide_eq_true c_115)), rfl, rfl, rfl⟩))⟩⟩, (fun h => by cases h)⟩ | exact ⟨_, _, _, _, _, true, rfl, rfl, by omega, fun _ => ⟨8, (sgN tx ln ap), true, (sgN tx ln (ap + 1 + 1)) - 48, (sgN tx ln (ap + 1 + 1 + 1)) - 48, n0, Q4, Or.inr rfl, mx_8 Q4, by omega, ⟨rfl, Or.inr (Or.inr (Or.inr ⟨(by first | exact Or.inl (of_decide_eq_true c_106) | exact Or.inr (of_decide_eq_true c_115)), rfl, rfl, rfl⟩))⟩⟩, (fun h => by cases h)⟩ | exact ⟨_, _, _, _, _, false, rfl, rfl, by omega, (fun h => by cases h), fun _ => f_27 Q2 h112 c_174⟩ | exact ⟨_, _, _, _, _, false, rfl, rfl, by omega, (fun h => by cases h), fun _ => f_3 Q3 c_195⟩) dX5_readsPart_203
                  · exact absurd c_195 (by decide)
              · skip
                have c_153 : (decide (sgN tx ln (ap + 1) = 98)) = false := bI_f c_153
                have G : gW D (wM am cy th (cS mf mb mv) sv X ln (ap + 1) (sgN tx ln ap) 0 f1 f2 (B) ha R) (va_A (wM am cy th (cS mf mb mv) sv X ln ap le fc f1 f2 (B) ha R) s.heap.size) s _ _ := g_wc (by rw [if_neg (of_decide_eq_false c_153)]) G
                refine lv_iconst (v := 0) hx hb dX5_readsPart_156 (by decide) ?_
                exact g_zret C0 G rfl ⟨_, _, _, _, _, false, rfl, rfl, by omega, (fun h => by cases h), fun _ => f_1 Q1 (of_decide_eq_false c_144) (of_decide_eq_false c_153)⟩ dX5_readsPart_157
          · skip
            have c_127 : (sgN tx ln (ap + 1)) = 102 := (nI_eq (a := sgN tx ln (ap + 1)) (b := 102) (by omega) (by omega)).mp c_127
            refine lv_iconst (v := 1) hx hb dX5_readsPart_130 (by decide) ?_
            refine lv_goto (tgt := 135) hx hb dX5_readsPart_131 (by decide) ?_
            refine g_put (q0 := 0) (W2 := wM am cy th (cS mf mb mv) sv X ln (ap + 1) (sgN tx ln ap) 1 f1 f2 (B) ha R) C0 G ft_X5 in_X5 rfl rfl 7 (by decide) fl_X5_169 (fun _ h => h) rfl rfl rfl (Nat.le_of_ble_eq_true rfl) rfl dX5_readsPart_135 (fun H locs G => ?_)
            refine lv_aload_n hx hb dX5_readsPart_138 rfl (lv_at hl 0 rfl) ?_
            refine lv_bipush (v := 102) hx hb dX5_readsPart_139 (by decide) ?_
            refine g_callV (As := [.int 102]) (rest := []) (q0 := 0) C0 G (c_X5_takes l D cy (am := am) (mf := mf) (mb := mb) (mv := mv) (th := th) (sv := sv) (X := X) (ln := ln) (ap := (ap + 1)) (le := sgN tx ln ap) (fc := 1) (f1 := f1) (f2 := f2) (ha := ha) (R := R) (B := B) (sg := 102) (tx := tx) (by omega) (by omega) (by omega) hmx) k_X5_takes ml_X5_159 rfl rfl dX5_readsPart_141 rfl rfl hl.1 (Nat.le_of_ble_eq_true rfl) ⟨Nat.le_of_ble_eq_true rfl, Nat.le_of_ble_eq_true rfl⟩ ⟨Nat.le_of_ble_eq_true rfl, Nat.le_of_ble_eq_true rfl⟩ (fun r W2 H locs hp G => ?_)
            obtain ⟨rfl, hw⟩ := hp
            have G := g_wc hw G
            refine W.eq (g2 := F0 m 144 ls [.int (bI (decide (sgN tx ln (ap + 1) = 102)))]) rfl ?_
            refine lv_if_ne (tgt := 158) hx hb dX5_readsPart_144 (by decide) (fun c_144 => ?_) (fun c_144 => ?_)
            · skip
              have c_144 : (decide (sgN tx ln (ap + 1) = 102)) = true := bI_t c_144
              have G : gW D (wM am cy th (cS mf mb mv) sv X ln ((ap + 1) + 1) (sgN tx ln ap) 1 f1 f2 (B) ha R) (va_A (wM am cy th (cS mf mb mv) sv X ln ap le fc f1 f2 (B) ha R) s.heap.size) s _ _ := g_wc (by rw [if_pos (of_decide_eq_true c_144)]) G
              have Q2 := q_f Q1 (of_decide_eq_true c_144)
              have hsg2 := sg_b (ap := ap + 1 + 1) hmx
              have hq2 := Q2.1
              refine lv_aload_n hx hb dX5_readsPart_158 rfl (lv_at hl 0 rfl) ?_
              refine lv_aload_n hx hb dX5_readsPart_159 rfl (lv_at hl 0 rfl) ?_
              refine lv_bipush (v := 7) hx hb dX5_readsPart_160 (by decide) ?_
              refine g_callV (As := [.int 7]) (rest := [.ref (am 0)]) (q0 := 0) C0 G (c_X5_figure l D cy (am := am) (mf := mf) (mb := mb) (mv := mv) (th := th) (sv := sv) (X := X) (ln := ln) (ap := ((ap + 1) + 1)) (le := sgN tx ln ap) (fc := 1) (f1 := f1) (f2 := f2) (ha := ha) (R := R) (B := B) (most := 7) (tx := tx) (by omega) (by omega) (by omega) hmx) k_X5_figure ml_X5_150 rfl rfl dX5_readsPart_162 rfl rfl hl.1 (Nat.le_of_ble_eq_true rfl) ⟨Nat.le_of_ble_eq_true rfl, Nat.le_of_ble_eq_true rfl⟩ ⟨Nat.le_of_ble_eq_true rfl, Nat.le_of_ble_eq_true rfl⟩ (fun r W2 H locs hp G => ?_)
              obtain ⟨rfl, hw⟩ := hp
              have G := g_wc hw G
              refine W.eq (g2 := F0 m 165 ls [.int (dgI 7 (sgN tx ln ((ap + 1) + 1))), .ref (am 0)]) rfl ?_
              refine g_put (q0 := 0) (W2 := wM am cy th (cS mf mb mv) sv X ln (if dgOk 7 (sgN tx ln ((ap + 1) + 1)) = true then ((ap + 1) + 1) + 1 else ((ap + 1) + 1)) (sgN tx ln ap) 1 (dgI 7 (sgN tx ln ((ap + 1) + 1))) f2 (B) ha R) C0 G ft_X5 in_X5 rfl rfl 8 (by decide) fl_X5_162 (fun _ h => h) rfl rfl rfl (Nat.le_of_ble_eq_true rfl) rfl dX5_readsPart_165 (fun H locs G => ?_)
              refine lv_aload_n hx hb dX5_readsPart_168 rfl (lv_at hl 0 rfl) ?_
              refine lv_aload_n hx hb dX5_readsPart_169 rfl (lv_at hl 0 rfl) ?_
              refine g_get (q0 := 0) (v := .int (dgI 7 (sgN tx ln ((ap + 1) + 1)))) C0 G in_X5 rfl rfl 8 (by decide) fl_X5_162 (fun _ h => h) rfl dX5_readsPart_170 ?_
              refine lv_iconst (v := (-1)) hx hb dX5_readsPart_173 (by decide) ?_
              refine lv_icmp_ne (tgt := 181) hx hb dX5_readsPart_174 (by decide) (fun c_174 => ?_) (fun c_174 => ?_)
              · skip
                have c_174 : dgOk 7 (sgN tx ln ((ap + 1) + 1)) = true := dgI_y (by omega) c_174
                have G : gW D (wM am cy th (cS mf mb mv) sv X ln (((ap + 1) + 1) + 1) (sgN tx ln ap) 1 (dgI 7 (sgN tx ln ((ap + 1) + 1))) f2 (B) ha R) (va_A (wM am cy th (cS mf mb mv) sv X ln ap le fc f1 f2 (B) ha R) s.heap.size) s _ _ := g_wc (by rw [if_pos c_174]) G
                have G : gW D (wM am cy th (cS mf mb mv) sv X ln (((ap + 1) + 1) + 1) (sgN tx ln ap) 1 (nI ((sgN tx ln ((ap + 1) + 1)) - 48)) f2 (B) ha R) (va_A (wM am cy th (cS mf mb mv) sv X ln ap le fc f1 f2 (B) ha R) s.heap.size) s _ _ := g_wc (by rw [dgI_e c_174]) G
                have Q3 := q_r7 Q2 h112 c_174
                have hq3 := Q3.1
                have hsg3 := sg_b (ap := ap + 1 + 1 + 1) hmx
                refine lv_aload_n hx hb dX5_readsPart_181 rfl (lv_at hl 0 rfl) ?_
                refine lv_bipush (v := 7) hx hb dX5_readsPart_182 (by decide) ?_
                refine g_callV (As := [.int 7]) (rest := [.ref (am 0)]) (q0 := 0) C0 G (c_X5_figure l D cy (am := am) (mf := mf) (mb := mb) (mv := mv) (th := th) (sv := sv) (X := X) (ln := ln) (ap := (((ap + 1) + 1) + 1)) (le := sgN tx ln ap) (fc := 1) (f1 := nI ((sgN tx ln ((ap + 1) + 1)) - 48)) (f2 := f2) (ha := ha) (R := R) (B := B) (most := 7) (tx := tx) (by omega) (by omega) (by omega) hmx) k_X5_figure ml_X5_150 rfl rfl dX5_readsPart_184 rfl rfl hl.1 (Nat.le_of_ble_eq_true rfl) ⟨Nat.le_of_ble_eq_true rfl, Nat.le_of_ble_eq_true rfl⟩ ⟨Nat.le_of_ble_eq_true rfl, Nat.le_of_ble_eq_true rfl⟩ (fun r W2 H locs hp G => ?_)
                obtain ⟨rfl, hw⟩ := hp
                have G := g_wc hw G
                refine W.eq (g2 := F0 m 187 ls [.int (dgI 7 (sgN tx ln (((ap + 1) + 1) + 1))), .ref (am 0)]) rfl ?_
                refine g_put (q0 := 0) (W2 := wM am cy th (cS mf mb mv) sv X ln (if dgOk 7 (sgN tx ln (((ap + 1) + 1) + 1)) = true then (((ap + 1) + 1) + 1) + 1 else (((ap + 1) + 1) + 1)) (sgN tx ln ap) 1 (nI ((sgN tx ln ((ap + 1) + 1)) - 48)) (dgI 7 (sgN tx ln (((ap + 1) + 1) + 1))) (B) ha R) C0 G ft_X5 in_X5 rfl rfl 9 (by decide) fl_X5_153 (fun _ h => h) rfl rfl rfl (Nat.le_of_ble_eq_true rfl) rfl dX5_readsPart_187 (fun H locs G => ?_)
                refine lv_aload_n hx hb dX5_readsPart_190 rfl (lv_at hl 0 rfl) ?_
                refine g_get (q0 := 0) (v := .int (dgI 7 (sgN tx ln (((ap + 1) + 1) + 1)))) C0 G in_X5 rfl rfl 9 (by decide) fl_X5_153 (fun _ h => h) rfl dX5_readsPart_191 ?_
                refine lv_iconst (v := (-1)) hx hb dX5_readsPart_194 (by decide) ?_
                refine lv_icmp_eq (tgt := 202) hx hb dX5_readsPart_195 (by decide) (fun c_195 => ?_) (fun c_195 => ?_)
                · skip
                  have c_195 : dgOk 7 (sgN tx ln (((ap + 1) + 1) + 1)) = false := dgI_n (by omega) c_195
                  have G : gW D (wM am cy th (cS mf mb mv) sv X ln (((ap + 1) + 1) + 1) (sgN tx ln ap) 1 (nI ((sgN tx ln ((ap + 1) + 1)) - 48)) (dgI 7 (sgN tx ln (((ap + 1) + 1) + 1))) (B) ha R) (va_A (wM am cy th (cS mf mb mv) sv X ln ap le fc f1 f2 (B) ha R) s.heap.size) s _ _ := g_wc (by rw [if_neg (by rw [c_195]; decide)]) G
                  refine lv_iconst (v := 0) hx hb dX5_readsPart_202 (by decide) ?_
                  exact g_zret C0 G rfl (by first | exact ⟨_, _, _, _, _, true, rfl, rfl, by omega, fun _ => ⟨8, (sgN tx ln ap), false, (sgN tx ln (ap + 1 + 1)) - 48, (sgN tx ln (ap + 1 + 1 + 1)) - 48, n0, Q4, Or.inr rfl, mx_8 Q4, by omega, ⟨rfl, Or.inr (Or.inr (Or.inr ⟨(by first | exact Or.inl (of_decide_eq_true c_106) | exact Or.inr (of_decide_eq_true c_115)), rfl, rfl, rfl⟩))⟩⟩, (fun h => by cases h)⟩ | exact ⟨_, _, _, _, _, true, rfl, rfl, by omega, fun _ => ⟨8, (sgN tx ln ap), true, (sgN tx ln (ap + 1 + 1)) - 48, (sgN tx ln (ap + 1 + 1 + 1)) - 48, n0, Q4, Or.inr rfl, mx_8 Q4, by omega, ⟨rfl, Or.inr (Or.inr (Or.inr ⟨(by first | exact Or.inl (of_decide_eq_true c_106) | exact Or.inr (of_decide_eq_true c_115)), rfl, rfl, rfl⟩))⟩⟩, (fun h => by cases h)⟩ | exact ⟨_, _, _, _, _, false, rfl, rfl, by omega, (fun h => by cases h), fun _ => f_27 Q2 h112 c_174⟩ | exact ⟨_, _, _, _, _, false, rfl, rfl, by omega, (fun h => by cases h), fun _ => f_3 Q3 c_195⟩) dX5_readsPart_203
                · skip
                  have c_195 : dgOk 7 (sgN tx ln (((ap + 1) + 1) + 1)) = true := dgI_y (by omega) c_195
                  have G : gW D (wM am cy th (cS mf mb mv) sv X ln ((((ap + 1) + 1) + 1) + 1) (sgN tx ln ap) 1 (nI ((sgN tx ln ((ap + 1) + 1)) - 48)) (dgI 7 (sgN tx ln (((ap + 1) + 1) + 1))) (B) ha R) (va_A (wM am cy th (cS mf mb mv) sv X ln ap le fc f1 f2 (B) ha R) s.heap.size) s _ _ := g_wc (by rw [if_pos c_195]) G
                  have G : gW D (wM am cy th (cS mf mb mv) sv X ln ((((ap + 1) + 1) + 1) + 1) (sgN tx ln ap) 1 (nI ((sgN tx ln ((ap + 1) + 1)) - 48)) (nI ((sgN tx ln (((ap + 1) + 1) + 1)) - 48)) (B) ha R) (va_A (wM am cy th (cS mf mb mv) sv X ln ap le fc f1 f2 (B) ha R) s.heap.size) s _ _ := g_wc (by rw [dgI_e c_195]) G
                  have Q4 := q_k Q3 c_195
                  have hq4 := Q4.1
                  refine lv_iconst (v := 1) hx hb dX5_readsPart_198 (by decide) ?_
                  refine lv_goto (tgt := 203) hx hb dX5_readsPart_199 (by decide) ?_
                  exact g_zret C0 G rfl (by first | exact ⟨_, _, _, _, _, true, rfl, rfl, by omega, fun _ => ⟨8, (sgN tx ln ap), false, (sgN tx ln (ap + 1 + 1)) - 48, (sgN tx ln (ap + 1 + 1 + 1)) - 48, n0, Q4, Or.inr rfl, mx_8 Q4, by omega, ⟨rfl, Or.inr (Or.inr (Or.inr ⟨(by first | exact Or.inl (of_decide_eq_true c_106) | exact Or.inr (of_decide_eq_true c_115)), rfl, rfl, rfl⟩))⟩⟩, (fun h => by cases h)⟩ | exact ⟨_, _, _, _, _, true, rfl, rfl, by omega, fun _ => ⟨8, (sgN tx ln ap), true, (sgN tx ln (ap + 1 + 1)) - 48, (sgN tx ln (ap + 1 + 1 + 1)) - 48, n0, Q4, Or.inr rfl, mx_8 Q4, by omega, ⟨rfl, Or.inr (Or.inr (Or.inr ⟨(by first | exact Or.inl (of_decide_eq_true c_106) | exact Or.inr (of_decide_eq_true c_115)), rfl, rfl, rfl⟩))⟩⟩, (fun h => by cases h)⟩ | exact ⟨_, _, _, _, _, false, rfl, rfl, by omega, (fun h => by cases h), fun _ => f_27 Q2 h112 c_174⟩ | exact ⟨_, _, _, _, _, false, rfl, rfl, by omega, (fun h => by cases h), fun _ => f_3 Q3 c_195⟩) dX5_readsPart_203
              · skip
                have c_174 : dgOk 7 (sgN tx ln ((ap + 1) + 1)) = false := dgI_n (by omega) c_174
                have G : gW D (wM am cy th (cS mf mb mv) sv X ln ((ap + 1) + 1) (sgN tx ln ap) 1 (dgI 7 (sgN tx ln ((ap + 1) + 1))) f2 (B) ha R) (va_A (wM am cy th (cS mf mb mv) sv X ln ap le fc f1 f2 (B) ha R) s.heap.size) s _ _ := g_wc (by rw [if_neg (by rw [c_174]; decide)]) G
                refine lv_iconst (v := (-1)) hx hb dX5_readsPart_177 (by decide) ?_
                refine lv_goto (tgt := 187) hx hb dX5_readsPart_178 (by decide) ?_
                refine g_put (q0 := 0) (W2 := wM am cy th (cS mf mb mv) sv X ln ((ap + 1) + 1) (sgN tx ln ap) 1 (dgI 7 (sgN tx ln ((ap + 1) + 1))) (-1) (B) ha R) C0 G ft_X5 in_X5 rfl rfl 9 (by decide) fl_X5_153 (fun _ h => h) rfl rfl rfl (Nat.le_of_ble_eq_true rfl) rfl dX5_readsPart_187 (fun H locs G => ?_)
                refine lv_aload_n hx hb dX5_readsPart_190 rfl (lv_at hl 0 rfl) ?_
                refine g_get (q0 := 0) (v := .int (-1)) C0 G in_X5 rfl rfl 9 (by decide) fl_X5_153 (fun _ h => h) rfl dX5_readsPart_191 ?_
                refine g_topi (x' := (-1)) rfl ?_
                refine lv_iconst (v := (-1)) hx hb dX5_readsPart_194 (by decide) ?_
                refine lv_icmp_eq (tgt := 202) hx hb dX5_readsPart_195 (by decide) (fun c_195 => ?_) (fun c_195 => ?_)
                · skip
                  refine lv_iconst (v := 0) hx hb dX5_readsPart_202 (by decide) ?_
                  exact g_zret C0 G rfl (by first | exact ⟨_, _, _, _, _, true, rfl, rfl, by omega, fun _ => ⟨8, (sgN tx ln ap), false, (sgN tx ln (ap + 1 + 1)) - 48, (sgN tx ln (ap + 1 + 1 + 1)) - 48, n0, Q4, Or.inr rfl, mx_8 Q4, by omega, ⟨rfl, Or.inr (Or.inr (Or.inr ⟨(by first | exact Or.inl (of_decide_eq_true c_106) | exact Or.inr (of_decide_eq_true c_115)), rfl, rfl, rfl⟩))⟩⟩, (fun h => by cases h)⟩ | exact ⟨_, _, _, _, _, true, rfl, rfl, by omega, fun _ => ⟨8, (sgN tx ln ap), true, (sgN tx ln (ap + 1 + 1)) - 48, (sgN tx ln (ap + 1 + 1 + 1)) - 48, n0, Q4, Or.inr rfl, mx_8 Q4, by omega, ⟨rfl, Or.inr (Or.inr (Or.inr ⟨(by first | exact Or.inl (of_decide_eq_true c_106) | exact Or.inr (of_decide_eq_true c_115)), rfl, rfl, rfl⟩))⟩⟩, (fun h => by cases h)⟩ | exact ⟨_, _, _, _, _, false, rfl, rfl, by omega, (fun h => by cases h), fun _ => f_27 Q2 h112 c_174⟩ | exact ⟨_, _, _, _, _, false, rfl, rfl, by omega, (fun h => by cases h), fun _ => f_3 Q3 c_195⟩) dX5_readsPart_203
                · exact absurd c_195 (by decide)
            · skip
              have c_144 : (decide (sgN tx ln (ap + 1) = 102)) = false := bI_f c_144
              exact absurd c_127 (of_decide_eq_false c_144)
        · skip
          have c_106 : (decide (sgN tx ln ap = 119)) = false := bI_f c_106
          have G : gW D (wM am cy th (cS mf mb mv) sv X ln ap (sgN tx ln ap) fc f1 f2 (B) ha R) (va_A (wM am cy th (cS mf mb mv) sv X ln ap le fc f1 f2 (B) ha R) s.heap.size) s _ _ := g_wc (by rw [if_neg (of_decide_eq_false c_106)]) G
          refine lv_aload_n hx hb dX5_readsPart_109 rfl (lv_at hl 0 rfl) ?_
          refine lv_bipush (v := 120) hx hb dX5_readsPart_110 (by decide) ?_
          refine g_callV (As := [.int 120]) (rest := []) (q0 := 0) C0 G (c_X5_takes l D cy (am := am) (mf := mf) (mb := mb) (mv := mv) (th := th) (sv := sv) (X := X) (ln := ln) (ap := ap) (le := sgN tx ln ap) (fc := fc) (f1 := f1) (f2 := f2) (ha := ha) (R := R) (B := B) (sg := 120) (tx := tx) (by omega) (by omega) (by omega) hmx) k_X5_takes ml_X5_159 rfl rfl dX5_readsPart_112 rfl rfl hl.1 (Nat.le_of_ble_eq_true rfl) ⟨Nat.le_of_ble_eq_true rfl, Nat.le_of_ble_eq_true rfl⟩ ⟨Nat.le_of_ble_eq_true rfl, Nat.le_of_ble_eq_true rfl⟩ (fun r W2 H locs hp G => ?_)
          obtain ⟨rfl, hw⟩ := hp
          have G := g_wc hw G
          refine W.eq (g2 := F0 m 115 ls [.int (bI (decide (sgN tx ln ap = 120)))]) rfl ?_
          refine lv_if_ne (tgt := 120) hx hb dX5_readsPart_115 (by decide) (fun c_115 => ?_) (fun c_115 => ?_)
          · skip
            have c_115 : (decide (sgN tx ln ap = 120)) = true := bI_t c_115
            have G : gW D (wM am cy th (cS mf mb mv) sv X ln (ap + 1) (sgN tx ln ap) fc f1 f2 (B) ha R) (va_A (wM am cy th (cS mf mb mv) sv X ln ap le fc f1 f2 (B) ha R) s.heap.size) s _ _ := g_wc (by rw [if_pos (of_decide_eq_true c_115)]) G
            have Q1 := q_w hQ (by first | exact Or.inl (of_decide_eq_true c_106) | exact Or.inr (of_decide_eq_true c_115))
            have hq1 := Q1.1
            have hsg1 := sg_b (ap := ap + 1) hmx
            have h112 : sgN tx ln ap ≠ 112 := of_decide_eq_false c_57
            refine lv_aload_n hx hb dX5_readsPart_120 rfl (lv_at hl 0 rfl) ?_
            refine lv_aload_n hx hb dX5_readsPart_121 rfl (lv_at hl 0 rfl) ?_
            refine g_callV (As := []) (rest := [.ref (am 0)]) (q0 := 0) C0 G (c_X5_sign l D cy (am := am) (mf := mf) (mb := mb) (mv := mv) (th := th) (sv := sv) (X := X) (ln := ln) (ap := (ap + 1)) (le := sgN tx ln ap) (fc := fc) (f1 := f1) (f2 := f2) (ha := ha) (R := R) (B := B) (tx := tx) (by omega) (by omega) hmx) k_X5_sign ml_X5_146 rfl rfl dX5_readsPart_122 rfl rfl hl.1 (Nat.le_of_ble_eq_true rfl) ⟨Nat.le_of_ble_eq_true rfl, Nat.le_of_ble_eq_true rfl⟩ ⟨Nat.le_of_ble_eq_true rfl, Nat.le_of_ble_eq_true rfl⟩ (fun r W2 H locs hp G => ?_)
            obtain ⟨rfl, hw⟩ := hp
            have G := g_wc hw G
            refine W.eq (g2 := F0 m 125 ls [.int (nI (sgN tx ln (ap + 1))), .ref (am 0)]) rfl ?_
            refine lv_bipush (v := 102) hx hb dX5_readsPart_125 (by decide) ?_
            refine lv_icmp_ne (tgt := 134) hx hb dX5_readsPart_127 (by decide) (fun c_127 => ?_) (fun c_127 => ?_)
            · skip
              have c_127 : ¬ ((sgN tx ln (ap + 1)) = 102) := fun h => c_127 ((nI_eq (a := sgN tx ln (ap + 1)) (b := 102) (by omega) (by omega)).mpr h)
              refine lv_iconst (v := 0) hx hb dX5_readsPart_134 (by decide) ?_
              refine g_put (q0 := 0) (W2 := wM am cy th (cS mf mb mv) sv X ln (ap + 1) (sgN tx ln ap) 0 f1 f2 (B) ha R) C0 G ft_X5 in_X5 rfl rfl 7 (by decide) fl_X5_169 (fun _ h => h) rfl rfl rfl (Nat.le_of_ble_eq_true rfl) rfl dX5_readsPart_135 (fun H locs G => ?_)
              refine lv_aload_n hx hb dX5_readsPart_138 rfl (lv_at hl 0 rfl) ?_
              refine lv_bipush (v := 102) hx hb dX5_readsPart_139 (by decide) ?_
              refine g_callV (As := [.int 102]) (rest := []) (q0 := 0) C0 G (c_X5_takes l D cy (am := am) (mf := mf) (mb := mb) (mv := mv) (th := th) (sv := sv) (X := X) (ln := ln) (ap := (ap + 1)) (le := sgN tx ln ap) (fc := 0) (f1 := f1) (f2 := f2) (ha := ha) (R := R) (B := B) (sg := 102) (tx := tx) (by omega) (by omega) (by omega) hmx) k_X5_takes ml_X5_159 rfl rfl dX5_readsPart_141 rfl rfl hl.1 (Nat.le_of_ble_eq_true rfl) ⟨Nat.le_of_ble_eq_true rfl, Nat.le_of_ble_eq_true rfl⟩ ⟨Nat.le_of_ble_eq_true rfl, Nat.le_of_ble_eq_true rfl⟩ (fun r W2 H locs hp G => ?_)
              obtain ⟨rfl, hw⟩ := hp
              have G := g_wc hw G
              refine W.eq (g2 := F0 m 144 ls [.int (bI (decide (sgN tx ln (ap + 1) = 102)))]) rfl ?_
              refine lv_if_ne (tgt := 158) hx hb dX5_readsPart_144 (by decide) (fun c_144 => ?_) (fun c_144 => ?_)
              · skip
                have c_144 : (decide (sgN tx ln (ap + 1) = 102)) = true := bI_t c_144
                exact absurd (of_decide_eq_true c_144) c_127
              · skip
                have c_144 : (decide (sgN tx ln (ap + 1) = 102)) = false := bI_f c_144
                have G : gW D (wM am cy th (cS mf mb mv) sv X ln (ap + 1) (sgN tx ln ap) 0 f1 f2 (B) ha R) (va_A (wM am cy th (cS mf mb mv) sv X ln ap le fc f1 f2 (B) ha R) s.heap.size) s _ _ := g_wc (by rw [if_neg (of_decide_eq_false c_144)]) G
                refine lv_aload_n hx hb dX5_readsPart_147 rfl (lv_at hl 0 rfl) ?_
                refine lv_bipush (v := 98) hx hb dX5_readsPart_148 (by decide) ?_
                refine g_callV (As := [.int 98]) (rest := []) (q0 := 0) C0 G (c_X5_takes l D cy (am := am) (mf := mf) (mb := mb) (mv := mv) (th := th) (sv := sv) (X := X) (ln := ln) (ap := (ap + 1)) (le := sgN tx ln ap) (fc := 0) (f1 := f1) (f2 := f2) (ha := ha) (R := R) (B := B) (sg := 98) (tx := tx) (by omega) (by omega) (by omega) hmx) k_X5_takes ml_X5_159 rfl rfl dX5_readsPart_150 rfl rfl hl.1 (Nat.le_of_ble_eq_true rfl) ⟨Nat.le_of_ble_eq_true rfl, Nat.le_of_ble_eq_true rfl⟩ ⟨Nat.le_of_ble_eq_true rfl, Nat.le_of_ble_eq_true rfl⟩ (fun r W2 H locs hp G => ?_)
                obtain ⟨rfl, hw⟩ := hp
                have G := g_wc hw G
                refine W.eq (g2 := F0 m 153 ls [.int (bI (decide (sgN tx ln (ap + 1) = 98)))]) rfl ?_
                refine lv_if_ne (tgt := 158) hx hb dX5_readsPart_153 (by decide) (fun c_153 => ?_) (fun c_153 => ?_)
                · skip
                  have c_153 : (decide (sgN tx ln (ap + 1) = 98)) = true := bI_t c_153
                  have G : gW D (wM am cy th (cS mf mb mv) sv X ln ((ap + 1) + 1) (sgN tx ln ap) 0 f1 f2 (B) ha R) (va_A (wM am cy th (cS mf mb mv) sv X ln ap le fc f1 f2 (B) ha R) s.heap.size) s _ _ := g_wc (by rw [if_pos (of_decide_eq_true c_153)]) G
                  have Q2 := q_b Q1 (of_decide_eq_true c_153)
                  have hsg2 := sg_b (ap := ap + 1 + 1) hmx
                  have hq2 := Q2.1
                  refine lv_aload_n hx hb dX5_readsPart_158 rfl (lv_at hl 0 rfl) ?_
                  refine lv_aload_n hx hb dX5_readsPart_159 rfl (lv_at hl 0 rfl) ?_
                  refine lv_bipush (v := 7) hx hb dX5_readsPart_160 (by decide) ?_
                  refine g_callV (As := [.int 7]) (rest := [.ref (am 0)]) (q0 := 0) C0 G (c_X5_figure l D cy (am := am) (mf := mf) (mb := mb) (mv := mv) (th := th) (sv := sv) (X := X) (ln := ln) (ap := ((ap + 1) + 1)) (le := sgN tx ln ap) (fc := 0) (f1 := f1) (f2 := f2) (ha := ha) (R := R) (B := B) (most := 7) (tx := tx) (by omega) (by omega) (by omega) hmx) k_X5_figure ml_X5_150 rfl rfl dX5_readsPart_162 rfl rfl hl.1 (Nat.le_of_ble_eq_true rfl) ⟨Nat.le_of_ble_eq_true rfl, Nat.le_of_ble_eq_true rfl⟩ ⟨Nat.le_of_ble_eq_true rfl, Nat.le_of_ble_eq_true rfl⟩ (fun r W2 H locs hp G => ?_)
                  obtain ⟨rfl, hw⟩ := hp
                  have G := g_wc hw G
                  refine W.eq (g2 := F0 m 165 ls [.int (dgI 7 (sgN tx ln ((ap + 1) + 1))), .ref (am 0)]) rfl ?_
                  refine g_put (q0 := 0) (W2 := wM am cy th (cS mf mb mv) sv X ln (if dgOk 7 (sgN tx ln ((ap + 1) + 1)) = true then ((ap + 1) + 1) + 1 else ((ap + 1) + 1)) (sgN tx ln ap) 0 (dgI 7 (sgN tx ln ((ap + 1) + 1))) f2 (B) ha R) C0 G ft_X5 in_X5 rfl rfl 8 (by decide) fl_X5_162 (fun _ h => h) rfl rfl rfl (Nat.le_of_ble_eq_true rfl) rfl dX5_readsPart_165 (fun H locs G => ?_)
                  refine lv_aload_n hx hb dX5_readsPart_168 rfl (lv_at hl 0 rfl) ?_
                  refine lv_aload_n hx hb dX5_readsPart_169 rfl (lv_at hl 0 rfl) ?_
                  refine g_get (q0 := 0) (v := .int (dgI 7 (sgN tx ln ((ap + 1) + 1)))) C0 G in_X5 rfl rfl 8 (by decide) fl_X5_162 (fun _ h => h) rfl dX5_readsPart_170 ?_
                  refine lv_iconst (v := (-1)) hx hb dX5_readsPart_173 (by decide) ?_
                  refine lv_icmp_ne (tgt := 181) hx hb dX5_readsPart_174 (by decide) (fun c_174 => ?_) (fun c_174 => ?_)
                  · skip
                    have c_174 : dgOk 7 (sgN tx ln ((ap + 1) + 1)) = true := dgI_y (by omega) c_174
                    have G : gW D (wM am cy th (cS mf mb mv) sv X ln (((ap + 1) + 1) + 1) (sgN tx ln ap) 0 (dgI 7 (sgN tx ln ((ap + 1) + 1))) f2 (B) ha R) (va_A (wM am cy th (cS mf mb mv) sv X ln ap le fc f1 f2 (B) ha R) s.heap.size) s _ _ := g_wc (by rw [if_pos c_174]) G
                    have G : gW D (wM am cy th (cS mf mb mv) sv X ln (((ap + 1) + 1) + 1) (sgN tx ln ap) 0 (nI ((sgN tx ln ((ap + 1) + 1)) - 48)) f2 (B) ha R) (va_A (wM am cy th (cS mf mb mv) sv X ln ap le fc f1 f2 (B) ha R) s.heap.size) s _ _ := g_wc (by rw [dgI_e c_174]) G
                    have Q3 := q_r7 Q2 h112 c_174
                    have hq3 := Q3.1
                    have hsg3 := sg_b (ap := ap + 1 + 1 + 1) hmx
                    refine lv_aload_n hx hb dX5_readsPart_181 rfl (lv_at hl 0 rfl) ?_
                    refine lv_bipush (v := 7) hx hb dX5_readsPart_182 (by decide) ?_
                    refine g_callV (As := [.int 7]) (rest := [.ref (am 0)]) (q0 := 0) C0 G (c_X5_figure l D cy (am := am) (mf := mf) (mb := mb) (mv := mv) (th := th) (sv := sv) (X := X) (ln := ln) (ap := (((ap + 1) + 1) + 1)) (le := sgN tx ln ap) (fc := 0) (f1 := nI ((sgN tx ln ((ap + 1) + 1)) - 48)) (f2 := f2) (ha := ha) (R := R) (B := B) (most := 7) (tx := tx) (by omega) (by omega) (by omega) hmx) k_X5_figure ml_X5_150 rfl rfl dX5_readsPart_184 rfl rfl hl.1 (Nat.le_of_ble_eq_true rfl) ⟨Nat.le_of_ble_eq_true rfl, Nat.le_of_ble_eq_true rfl⟩ ⟨Nat.le_of_ble_eq_true rfl, Nat.le_of_ble_eq_true rfl⟩ (fun r W2 H locs hp G => ?_)
                    obtain ⟨rfl, hw⟩ := hp
                    have G := g_wc hw G
                    refine W.eq (g2 := F0 m 187 ls [.int (dgI 7 (sgN tx ln (((ap + 1) + 1) + 1))), .ref (am 0)]) rfl ?_
                    refine g_put (q0 := 0) (W2 := wM am cy th (cS mf mb mv) sv X ln (if dgOk 7 (sgN tx ln (((ap + 1) + 1) + 1)) = true then (((ap + 1) + 1) + 1) + 1 else (((ap + 1) + 1) + 1)) (sgN tx ln ap) 0 (nI ((sgN tx ln ((ap + 1) + 1)) - 48)) (dgI 7 (sgN tx ln (((ap + 1) + 1) + 1))) (B) ha R) C0 G ft_X5 in_X5 rfl rfl 9 (by decide) fl_X5_153 (fun _ h => h) rfl rfl rfl (Nat.le_of_ble_eq_true rfl) rfl dX5_readsPart_187 (fun H locs G => ?_)
                    refine lv_aload_n hx hb dX5_readsPart_190 rfl (lv_at hl 0 rfl) ?_
                    refine g_get (q0 := 0) (v := .int (dgI 7 (sgN tx ln (((ap + 1) + 1) + 1)))) C0 G in_X5 rfl rfl 9 (by decide) fl_X5_153 (fun _ h => h) rfl dX5_readsPart_191 ?_
                    refine lv_iconst (v := (-1)) hx hb dX5_readsPart_194 (by decide) ?_
                    refine lv_icmp_eq (tgt := 202) hx hb dX5_readsPart_195 (by decide) (fun c_195 => ?_) (fun c_195 => ?_)
                    · skip
                      have c_195 : dgOk 7 (sgN tx ln (((ap + 1) + 1) + 1)) = false := dgI_n (by omega) c_195
                      have G : gW D (wM am cy th (cS mf mb mv) sv X ln (((ap + 1) + 1) + 1) (sgN tx ln ap) 0 (nI ((sgN tx ln ((ap + 1) + 1)) - 48)) (dgI 7 (sgN tx ln (((ap + 1) + 1) + 1))) (B) ha R) (va_A (wM am cy th (cS mf mb mv) sv X ln ap le fc f1 f2 (B) ha R) s.heap.size) s _ _ := g_wc (by rw [if_neg (by rw [c_195]; decide)]) G
                      refine lv_iconst (v := 0) hx hb dX5_readsPart_202 (by decide) ?_
                      exact g_zret C0 G rfl (by first | exact ⟨_, _, _, _, _, true, rfl, rfl, by omega, fun _ => ⟨8, (sgN tx ln ap), false, (sgN tx ln (ap + 1 + 1)) - 48, (sgN tx ln (ap + 1 + 1 + 1)) - 48, n0, Q4, Or.inr rfl, mx_8 Q4, by omega, ⟨rfl, Or.inr (Or.inr (Or.inr ⟨(by first | exact Or.inl (of_decide_eq_true c_106) | exact Or.inr (of_decide_eq_true c_115)), rfl, rfl, rfl⟩))⟩⟩, (fun h => by cases h)⟩ | exact ⟨_, _, _, _, _, true, rfl, rfl, by omega, fun _ => ⟨8, (sgN tx ln ap), true, (sgN tx ln (ap + 1 + 1)) - 48, (sgN tx ln (ap + 1 + 1 + 1)) - 48, n0, Q4, Or.inr rfl, mx_8 Q4, by omega, ⟨rfl, Or.inr (Or.inr (Or.inr ⟨(by first | exact Or.inl (of_decide_eq_true c_106) | exact Or.inr (of_decide_eq_true c_115)), rfl, rfl, rfl⟩))⟩⟩, (fun h => by cases h)⟩ | exact ⟨_, _, _, _, _, false, rfl, rfl, by omega, (fun h => by cases h), fun _ => f_27 Q2 h112 c_174⟩ | exact ⟨_, _, _, _, _, false, rfl, rfl, by omega, (fun h => by cases h), fun _ => f_3 Q3 c_195⟩) dX5_readsPart_203
                    · skip
                      have c_195 : dgOk 7 (sgN tx ln (((ap + 1) + 1) + 1)) = true := dgI_y (by omega) c_195
                      have G : gW D (wM am cy th (cS mf mb mv) sv X ln ((((ap + 1) + 1) + 1) + 1) (sgN tx ln ap) 0 (nI ((sgN tx ln ((ap + 1) + 1)) - 48)) (dgI 7 (sgN tx ln (((ap + 1) + 1) + 1))) (B) ha R) (va_A (wM am cy th (cS mf mb mv) sv X ln ap le fc f1 f2 (B) ha R) s.heap.size) s _ _ := g_wc (by rw [if_pos c_195]) G
                      have G : gW D (wM am cy th (cS mf mb mv) sv X ln ((((ap + 1) + 1) + 1) + 1) (sgN tx ln ap) 0 (nI ((sgN tx ln ((ap + 1) + 1)) - 48)) (nI ((sgN tx ln (((ap + 1) + 1) + 1)) - 48)) (B) ha R) (va_A (wM am cy th (cS mf mb mv) sv X ln ap le fc f1 f2 (B) ha R) s.heap.size) s _ _ := g_wc (by rw [dgI_e c_195]) G
                      have Q4 := q_k Q3 c_195
                      have hq4 := Q4.1
                      refine lv_iconst (v := 1) hx hb dX5_readsPart_198 (by decide) ?_
                      refine lv_goto (tgt := 203) hx hb dX5_readsPart_199 (by decide) ?_
                      exact g_zret C0 G rfl (by first | exact ⟨_, _, _, _, _, true, rfl, rfl, by omega, fun _ => ⟨8, (sgN tx ln ap), false, (sgN tx ln (ap + 1 + 1)) - 48, (sgN tx ln (ap + 1 + 1 + 1)) - 48, n0, Q4, Or.inr rfl, mx_8 Q4, by omega, ⟨rfl, Or.inr (Or.inr (Or.inr ⟨(by first | exact Or.inl (of_decide_eq_true c_106) | exact Or.inr (of_decide_eq_true c_115)), rfl, rfl, rfl⟩))⟩⟩, (fun h => by cases h)⟩ | exact ⟨_, _, _, _, _, true, rfl, rfl, by omega, fun _ => ⟨8, (sgN tx ln ap), true, (sgN tx ln (ap + 1 + 1)) - 48, (sgN tx ln (ap + 1 + 1 + 1)) - 48, n0, Q4, Or.inr rfl, mx_8 Q4, by omega, ⟨rfl, Or.inr (Or.inr (Or.inr ⟨(by first | exact Or.inl (of_decide_eq_true c_106) | exact Or.inr (of_decide_eq_true c_115)), rfl, rfl, rfl⟩))⟩⟩, (fun h => by cases h)⟩ | exact ⟨_, _, _, _, _, false, rfl, rfl, by omega, (fun h => by cases h), fun _ => f_27 Q2 h112 c_174⟩ | exact ⟨_, _, _, _, _, false, rfl, rfl, by omega, (fun h => by cases h), fun _ => f_3 Q3 c_195⟩) dX5_readsPart_203
                  · skip
                    have c_174 : dgOk 7 (sgN tx ln ((ap + 1) + 1)) = false := dgI_n (by omega) c_174
                    have G : gW D (wM am cy th (cS mf mb mv) sv X ln ((ap + 1) + 1) (sgN tx ln ap) 0 (dgI 7 (sgN tx ln ((ap + 1) + 1))) f2 (B) ha R) (va_A (wM am cy th (cS mf mb mv) sv X ln ap le fc f1 f2 (B) ha R) s.heap.size) s _ _ := g_wc (by rw [if_neg (by rw [c_174]; decide)]) G
                    refine lv_iconst (v := (-1)) hx hb dX5_readsPart_177 (by decide) ?_
                    refine lv_goto (tgt := 187) hx hb dX5_readsPart_178 (by decide) ?_
                    refine g_put (q0 := 0) (W2 := wM am cy th (cS mf mb mv) sv X ln ((ap + 1) + 1) (sgN tx ln ap) 0 (dgI 7 (sgN tx ln ((ap + 1) + 1))) (-1) (B) ha R) C0 G ft_X5 in_X5 rfl rfl 9 (by decide) fl_X5_153 (fun _ h => h) rfl rfl rfl (Nat.le_of_ble_eq_true rfl) rfl dX5_readsPart_187 (fun H locs G => ?_)
                    refine lv_aload_n hx hb dX5_readsPart_190 rfl (lv_at hl 0 rfl) ?_
                    refine g_get (q0 := 0) (v := .int (-1)) C0 G in_X5 rfl rfl 9 (by decide) fl_X5_153 (fun _ h => h) rfl dX5_readsPart_191 ?_
                    refine g_topi (x' := (-1)) rfl ?_
                    refine lv_iconst (v := (-1)) hx hb dX5_readsPart_194 (by decide) ?_
                    refine lv_icmp_eq (tgt := 202) hx hb dX5_readsPart_195 (by decide) (fun c_195 => ?_) (fun c_195 => ?_)
                    · skip
                      refine lv_iconst (v := 0) hx hb dX5_readsPart_202 (by decide) ?_
                      exact g_zret C0 G rfl (by first | exact ⟨_, _, _, _, _, true, rfl, rfl, by omega, fun _ => ⟨8, (sgN tx ln ap), false, (sgN tx ln (ap + 1 + 1)) - 48, (sgN tx ln (ap + 1 + 1 + 1)) - 48, n0, Q4, Or.inr rfl, mx_8 Q4, by omega, ⟨rfl, Or.inr (Or.inr (Or.inr ⟨(by first | exact Or.inl (of_decide_eq_true c_106) | exact Or.inr (of_decide_eq_true c_115)), rfl, rfl, rfl⟩))⟩⟩, (fun h => by cases h)⟩ | exact ⟨_, _, _, _, _, true, rfl, rfl, by omega, fun _ => ⟨8, (sgN tx ln ap), true, (sgN tx ln (ap + 1 + 1)) - 48, (sgN tx ln (ap + 1 + 1 + 1)) - 48, n0, Q4, Or.inr rfl, mx_8 Q4, by omega, ⟨rfl, Or.inr (Or.inr (Or.inr ⟨(by first | exact Or.inl (of_decide_eq_true c_106) | exact Or.inr (of_decide_eq_true c_115)), rfl, rfl, rfl⟩))⟩⟩, (fun h => by cases h)⟩ | exact ⟨_, _, _, _, _, false, rfl, rfl, by omega, (fun h => by cases h), fun _ => f_27 Q2 h112 c_174⟩ | exact ⟨_, _, _, _, _, false, rfl, rfl, by omega, (fun h => by cases h), fun _ => f_3 Q3 c_195⟩) dX5_readsPart_203
                    · exact absurd c_195 (by decide)
                · skip
                  have c_153 : (decide (sgN tx ln (ap + 1) = 98)) = false := bI_f c_153
                  have G : gW D (wM am cy th (cS mf mb mv) sv X ln (ap + 1) (sgN tx ln ap) 0 f1 f2 (B) ha R) (va_A (wM am cy th (cS mf mb mv) sv X ln ap le fc f1 f2 (B) ha R) s.heap.size) s _ _ := g_wc (by rw [if_neg (of_decide_eq_false c_153)]) G
                  refine lv_iconst (v := 0) hx hb dX5_readsPart_156 (by decide) ?_
                  exact g_zret C0 G rfl ⟨_, _, _, _, _, false, rfl, rfl, by omega, (fun h => by cases h), fun _ => f_1 Q1 (of_decide_eq_false c_144) (of_decide_eq_false c_153)⟩ dX5_readsPart_157
            · skip
              have c_127 : (sgN tx ln (ap + 1)) = 102 := (nI_eq (a := sgN tx ln (ap + 1)) (b := 102) (by omega) (by omega)).mp c_127
              refine lv_iconst (v := 1) hx hb dX5_readsPart_130 (by decide) ?_
              refine lv_goto (tgt := 135) hx hb dX5_readsPart_131 (by decide) ?_
              refine g_put (q0 := 0) (W2 := wM am cy th (cS mf mb mv) sv X ln (ap + 1) (sgN tx ln ap) 1 f1 f2 (B) ha R) C0 G ft_X5 in_X5 rfl rfl 7 (by decide) fl_X5_169 (fun _ h => h) rfl rfl rfl (Nat.le_of_ble_eq_true rfl) rfl dX5_readsPart_135 (fun H locs G => ?_)
              refine lv_aload_n hx hb dX5_readsPart_138 rfl (lv_at hl 0 rfl) ?_
              refine lv_bipush (v := 102) hx hb dX5_readsPart_139 (by decide) ?_
              refine g_callV (As := [.int 102]) (rest := []) (q0 := 0) C0 G (c_X5_takes l D cy (am := am) (mf := mf) (mb := mb) (mv := mv) (th := th) (sv := sv) (X := X) (ln := ln) (ap := (ap + 1)) (le := sgN tx ln ap) (fc := 1) (f1 := f1) (f2 := f2) (ha := ha) (R := R) (B := B) (sg := 102) (tx := tx) (by omega) (by omega) (by omega) hmx) k_X5_takes ml_X5_159 rfl rfl dX5_readsPart_141 rfl rfl hl.1 (Nat.le_of_ble_eq_true rfl) ⟨Nat.le_of_ble_eq_true rfl, Nat.le_of_ble_eq_true rfl⟩ ⟨Nat.le_of_ble_eq_true rfl, Nat.le_of_ble_eq_true rfl⟩ (fun r W2 H locs hp G => ?_)
              obtain ⟨rfl, hw⟩ := hp
              have G := g_wc hw G
              refine W.eq (g2 := F0 m 144 ls [.int (bI (decide (sgN tx ln (ap + 1) = 102)))]) rfl ?_
              refine lv_if_ne (tgt := 158) hx hb dX5_readsPart_144 (by decide) (fun c_144 => ?_) (fun c_144 => ?_)
              · skip
                have c_144 : (decide (sgN tx ln (ap + 1) = 102)) = true := bI_t c_144
                have G : gW D (wM am cy th (cS mf mb mv) sv X ln ((ap + 1) + 1) (sgN tx ln ap) 1 f1 f2 (B) ha R) (va_A (wM am cy th (cS mf mb mv) sv X ln ap le fc f1 f2 (B) ha R) s.heap.size) s _ _ := g_wc (by rw [if_pos (of_decide_eq_true c_144)]) G
                have Q2 := q_f Q1 (of_decide_eq_true c_144)
                have hsg2 := sg_b (ap := ap + 1 + 1) hmx
                have hq2 := Q2.1
                refine lv_aload_n hx hb dX5_readsPart_158 rfl (lv_at hl 0 rfl) ?_
                refine lv_aload_n hx hb dX5_readsPart_159 rfl (lv_at hl 0 rfl) ?_
                refine lv_bipush (v := 7) hx hb dX5_readsPart_160 (by decide) ?_
                refine g_callV (As := [.int 7]) (rest := [.ref (am 0)]) (q0 := 0) C0 G (c_X5_figure l D cy (am := am) (mf := mf) (mb := mb) (mv := mv) (th := th) (sv := sv) (X := X) (ln := ln) (ap := ((ap + 1) + 1)) (le := sgN tx ln ap) (fc := 1) (f1 := f1) (f2 := f2) (ha := ha) (R := R) (B := B) (most := 7) (tx := tx) (by omega) (by omega) (by omega) hmx) k_X5_figure ml_X5_150 rfl rfl dX5_readsPart_162 rfl rfl hl.1 (Nat.le_of_ble_eq_true rfl) ⟨Nat.le_of_ble_eq_true rfl, Nat.le_of_ble_eq_true rfl⟩ ⟨Nat.le_of_ble_eq_true rfl, Nat.le_of_ble_eq_true rfl⟩ (fun r W2 H locs hp G => ?_)
                obtain ⟨rfl, hw⟩ := hp
                have G := g_wc hw G
                refine W.eq (g2 := F0 m 165 ls [.int (dgI 7 (sgN tx ln ((ap + 1) + 1))), .ref (am 0)]) rfl ?_
                refine g_put (q0 := 0) (W2 := wM am cy th (cS mf mb mv) sv X ln (if dgOk 7 (sgN tx ln ((ap + 1) + 1)) = true then ((ap + 1) + 1) + 1 else ((ap + 1) + 1)) (sgN tx ln ap) 1 (dgI 7 (sgN tx ln ((ap + 1) + 1))) f2 (B) ha R) C0 G ft_X5 in_X5 rfl rfl 8 (by decide) fl_X5_162 (fun _ h => h) rfl rfl rfl (Nat.le_of_ble_eq_true rfl) rfl dX5_readsPart_165 (fun H locs G => ?_)
                refine lv_aload_n hx hb dX5_readsPart_168 rfl (lv_at hl 0 rfl) ?_
                refine lv_aload_n hx hb dX5_readsPart_169 rfl (lv_at hl 0 rfl) ?_
                refine g_get (q0 := 0) (v := .int (dgI 7 (sgN tx ln ((ap + 1) + 1)))) C0 G in_X5 rfl rfl 8 (by decide) fl_X5_162 (fun _ h => h) rfl dX5_readsPart_170 ?_
                refine lv_iconst (v := (-1)) hx hb dX5_readsPart_173 (by decide) ?_
                refine lv_icmp_ne (tgt := 181) hx hb dX5_readsPart_174 (by decide) (fun c_174 => ?_) (fun c_174 => ?_)
                · skip
                  have c_174 : dgOk 7 (sgN tx ln ((ap + 1) + 1)) = true := dgI_y (by omega) c_174
                  have G : gW D (wM am cy th (cS mf mb mv) sv X ln (((ap + 1) + 1) + 1) (sgN tx ln ap) 1 (dgI 7 (sgN tx ln ((ap + 1) + 1))) f2 (B) ha R) (va_A (wM am cy th (cS mf mb mv) sv X ln ap le fc f1 f2 (B) ha R) s.heap.size) s _ _ := g_wc (by rw [if_pos c_174]) G
                  have G : gW D (wM am cy th (cS mf mb mv) sv X ln (((ap + 1) + 1) + 1) (sgN tx ln ap) 1 (nI ((sgN tx ln ((ap + 1) + 1)) - 48)) f2 (B) ha R) (va_A (wM am cy th (cS mf mb mv) sv X ln ap le fc f1 f2 (B) ha R) s.heap.size) s _ _ := g_wc (by rw [dgI_e c_174]) G
                  have Q3 := q_r7 Q2 h112 c_174
                  have hq3 := Q3.1
                  have hsg3 := sg_b (ap := ap + 1 + 1 + 1) hmx
                  refine lv_aload_n hx hb dX5_readsPart_181 rfl (lv_at hl 0 rfl) ?_
                  refine lv_bipush (v := 7) hx hb dX5_readsPart_182 (by decide) ?_
                  refine g_callV (As := [.int 7]) (rest := [.ref (am 0)]) (q0 := 0) C0 G (c_X5_figure l D cy (am := am) (mf := mf) (mb := mb) (mv := mv) (th := th) (sv := sv) (X := X) (ln := ln) (ap := (((ap + 1) + 1) + 1)) (le := sgN tx ln ap) (fc := 1) (f1 := nI ((sgN tx ln ((ap + 1) + 1)) - 48)) (f2 := f2) (ha := ha) (R := R) (B := B) (most := 7) (tx := tx) (by omega) (by omega) (by omega) hmx) k_X5_figure ml_X5_150 rfl rfl dX5_readsPart_184 rfl rfl hl.1 (Nat.le_of_ble_eq_true rfl) ⟨Nat.le_of_ble_eq_true rfl, Nat.le_of_ble_eq_true rfl⟩ ⟨Nat.le_of_ble_eq_true rfl, Nat.le_of_ble_eq_true rfl⟩ (fun r W2 H locs hp G => ?_)
                  obtain ⟨rfl, hw⟩ := hp
                  have G := g_wc hw G
                  refine W.eq (g2 := F0 m 187 ls [.int (dgI 7 (sgN tx ln (((ap + 1) + 1) + 1))), .ref (am 0)]) rfl ?_
                  refine g_put (q0 := 0) (W2 := wM am cy th (cS mf mb mv) sv X ln (if dgOk 7 (sgN tx ln (((ap + 1) + 1) + 1)) = true then (((ap + 1) + 1) + 1) + 1 else (((ap + 1) + 1) + 1)) (sgN tx ln ap) 1 (nI ((sgN tx ln ((ap + 1) + 1)) - 48)) (dgI 7 (sgN tx ln (((ap + 1) + 1) + 1))) (B) ha R) C0 G ft_X5 in_X5 rfl rfl 9 (by decide) fl_X5_153 (fun _ h => h) rfl rfl rfl (Nat.le_of_ble_eq_true rfl) rfl dX5_readsPart_187 (fun H locs G => ?_)
                  refine lv_aload_n hx hb dX5_readsPart_190 rfl (lv_at hl 0 rfl) ?_
                  refine g_get (q0 := 0) (v := .int (dgI 7 (sgN tx ln (((ap + 1) + 1) + 1)))) C0 G in_X5 rfl rfl 9 (by decide) fl_X5_153 (fun _ h => h) rfl dX5_readsPart_191 ?_
                  refine lv_iconst (v := (-1)) hx hb dX5_readsPart_194 (by decide) ?_
                  refine lv_icmp_eq (tgt := 202) hx hb dX5_readsPart_195 (by decide) (fun c_195 => ?_) (fun c_195 => ?_)
                  · skip
                    have c_195 : dgOk 7 (sgN tx ln (((ap + 1) + 1) + 1)) = false := dgI_n (by omega) c_195
                    have G : gW D (wM am cy th (cS mf mb mv) sv X ln (((ap + 1) + 1) + 1) (sgN tx ln ap) 1 (nI ((sgN tx ln ((ap + 1) + 1)) - 48)) (dgI 7 (sgN tx ln (((ap + 1) + 1) + 1))) (B) ha R) (va_A (wM am cy th (cS mf mb mv) sv X ln ap le fc f1 f2 (B) ha R) s.heap.size) s _ _ := g_wc (by rw [if_neg (by rw [c_195]; decide)]) G
                    refine lv_iconst (v := 0) hx hb dX5_readsPart_202 (by decide) ?_
                    exact g_zret C0 G rfl (by first | exact ⟨_, _, _, _, _, true, rfl, rfl, by omega, fun _ => ⟨8, (sgN tx ln ap), false, (sgN tx ln (ap + 1 + 1)) - 48, (sgN tx ln (ap + 1 + 1 + 1)) - 48, n0, Q4, Or.inr rfl, mx_8 Q4, by omega, ⟨rfl, Or.inr (Or.inr (Or.inr ⟨(by first | exact Or.inl (of_decide_eq_true c_106) | exact Or.inr (of_decide_eq_true c_115)), rfl, rfl, rfl⟩))⟩⟩, (fun h => by cases h)⟩ | exact ⟨_, _, _, _, _, true, rfl, rfl, by omega, fun _ => ⟨8, (sgN tx ln ap), true, (sgN tx ln (ap + 1 + 1)) - 48, (sgN tx ln (ap + 1 + 1 + 1)) - 48, n0, Q4, Or.inr rfl, mx_8 Q4, by omega, ⟨rfl, Or.inr (Or.inr (Or.inr ⟨(by first | exact Or.inl (of_decide_eq_true c_106) | exact Or.inr (of_decide_eq_true c_115)), rfl, rfl, rfl⟩))⟩⟩, (fun h => by cases h)⟩ | exact ⟨_, _, _, _, _, false, rfl, rfl, by omega, (fun h => by cases h), fun _ => f_27 Q2 h112 c_174⟩ | exact ⟨_, _, _, _, _, false, rfl, rfl, by omega, (fun h => by cases h), fun _ => f_3 Q3 c_195⟩) dX5_readsPart_203
                  · skip
                    have c_195 : dgOk 7 (sgN tx ln (((ap + 1) + 1) + 1)) = true := dgI_y (by omega) c_195
                    have G : gW D (wM am cy th (cS mf mb mv) sv X ln ((((ap + 1) + 1) + 1) + 1) (sgN tx ln ap) 1 (nI ((sgN tx ln ((ap + 1) + 1)) - 48)) (dgI 7 (sgN tx ln (((ap + 1) + 1) + 1))) (B) ha R) (va_A (wM am cy th (cS mf mb mv) sv X ln ap le fc f1 f2 (B) ha R) s.heap.size) s _ _ := g_wc (by rw [if_pos c_195]) G
                    have G : gW D (wM am cy th (cS mf mb mv) sv X ln ((((ap + 1) + 1) + 1) + 1) (sgN tx ln ap) 1 (nI ((sgN tx ln ((ap + 1) + 1)) - 48)) (nI ((sgN tx ln (((ap + 1) + 1) + 1)) - 48)) (B) ha R) (va_A (wM am cy th (cS mf mb mv) sv X ln ap le fc f1 f2 (B) ha R) s.heap.size) s _ _ := g_wc (by rw [dgI_e c_195]) G
                    have Q4 := q_k Q3 c_195
                    have hq4 := Q4.1
                    refine lv_iconst (v := 1) hx hb dX5_readsPart_198 (by decide) ?_
                    refine lv_goto (tgt := 203) hx hb dX5_readsPart_199 (by decide) ?_
                    exact g_zret C0 G rfl (by first | exact ⟨_, _, _, _, _, true, rfl, rfl, by omega, fun _ => ⟨8, (sgN tx ln ap), false, (sgN tx ln (ap + 1 + 1)) - 48, (sgN tx ln (ap + 1 + 1 + 1)) - 48, n0, Q4, Or.inr rfl, mx_8 Q4, by omega, ⟨rfl, Or.inr (Or.inr (Or.inr ⟨(by first | exact Or.inl (of_decide_eq_true c_106) | exact Or.inr (of_decide_eq_true c_115)), rfl, rfl, rfl⟩))⟩⟩, (fun h => by cases h)⟩ | exact ⟨_, _, _, _, _, true, rfl, rfl, by omega, fun _ => ⟨8, (sgN tx ln ap), true, (sgN tx ln (ap + 1 + 1)) - 48, (sgN tx ln (ap + 1 + 1 + 1)) - 48, n0, Q4, Or.inr rfl, mx_8 Q4, by omega, ⟨rfl, Or.inr (Or.inr (Or.inr ⟨(by first | exact Or.inl (of_decide_eq_true c_106) | exact Or.inr (of_decide_eq_true c_115)), rfl, rfl, rfl⟩))⟩⟩, (fun h => by cases h)⟩ | exact ⟨_, _, _, _, _, false, rfl, rfl, by omega, (fun h => by cases h), fun _ => f_27 Q2 h112 c_174⟩ | exact ⟨_, _, _, _, _, false, rfl, rfl, by omega, (fun h => by cases h), fun _ => f_3 Q3 c_195⟩) dX5_readsPart_203
                · skip
                  have c_174 : dgOk 7 (sgN tx ln ((ap + 1) + 1)) = false := dgI_n (by omega) c_174
                  have G : gW D (wM am cy th (cS mf mb mv) sv X ln ((ap + 1) + 1) (sgN tx ln ap) 1 (dgI 7 (sgN tx ln ((ap + 1) + 1))) f2 (B) ha R) (va_A (wM am cy th (cS mf mb mv) sv X ln ap le fc f1 f2 (B) ha R) s.heap.size) s _ _ := g_wc (by rw [if_neg (by rw [c_174]; decide)]) G
                  refine lv_iconst (v := (-1)) hx hb dX5_readsPart_177 (by decide) ?_
                  refine lv_goto (tgt := 187) hx hb dX5_readsPart_178 (by decide) ?_
                  refine g_put (q0 := 0) (W2 := wM am cy th (cS mf mb mv) sv X ln ((ap + 1) + 1) (sgN tx ln ap) 1 (dgI 7 (sgN tx ln ((ap + 1) + 1))) (-1) (B) ha R) C0 G ft_X5 in_X5 rfl rfl 9 (by decide) fl_X5_153 (fun _ h => h) rfl rfl rfl (Nat.le_of_ble_eq_true rfl) rfl dX5_readsPart_187 (fun H locs G => ?_)
                  refine lv_aload_n hx hb dX5_readsPart_190 rfl (lv_at hl 0 rfl) ?_
                  refine g_get (q0 := 0) (v := .int (-1)) C0 G in_X5 rfl rfl 9 (by decide) fl_X5_153 (fun _ h => h) rfl dX5_readsPart_191 ?_
                  refine g_topi (x' := (-1)) rfl ?_
                  refine lv_iconst (v := (-1)) hx hb dX5_readsPart_194 (by decide) ?_
                  refine lv_icmp_eq (tgt := 202) hx hb dX5_readsPart_195 (by decide) (fun c_195 => ?_) (fun c_195 => ?_)
                  · skip
                    refine lv_iconst (v := 0) hx hb dX5_readsPart_202 (by decide) ?_
                    exact g_zret C0 G rfl (by first | exact ⟨_, _, _, _, _, true, rfl, rfl, by omega, fun _ => ⟨8, (sgN tx ln ap), false, (sgN tx ln (ap + 1 + 1)) - 48, (sgN tx ln (ap + 1 + 1 + 1)) - 48, n0, Q4, Or.inr rfl, mx_8 Q4, by omega, ⟨rfl, Or.inr (Or.inr (Or.inr ⟨(by first | exact Or.inl (of_decide_eq_true c_106) | exact Or.inr (of_decide_eq_true c_115)), rfl, rfl, rfl⟩))⟩⟩, (fun h => by cases h)⟩ | exact ⟨_, _, _, _, _, true, rfl, rfl, by omega, fun _ => ⟨8, (sgN tx ln ap), true, (sgN tx ln (ap + 1 + 1)) - 48, (sgN tx ln (ap + 1 + 1 + 1)) - 48, n0, Q4, Or.inr rfl, mx_8 Q4, by omega, ⟨rfl, Or.inr (Or.inr (Or.inr ⟨(by first | exact Or.inl (of_decide_eq_true c_106) | exact Or.inr (of_decide_eq_true c_115)), rfl, rfl, rfl⟩))⟩⟩, (fun h => by cases h)⟩ | exact ⟨_, _, _, _, _, false, rfl, rfl, by omega, (fun h => by cases h), fun _ => f_27 Q2 h112 c_174⟩ | exact ⟨_, _, _, _, _, false, rfl, rfl, by omega, (fun h => by cases h), fun _ => f_3 Q3 c_195⟩) dX5_readsPart_203
                  · exact absurd c_195 (by decide)
              · skip
                have c_144 : (decide (sgN tx ln (ap + 1) = 102)) = false := bI_f c_144
                exact absurd c_127 (of_decide_eq_false c_144)
          · skip
            have c_115 : (decide (sgN tx ln ap = 120)) = false := bI_f c_115
            have G : gW D (wM am cy th (cS mf mb mv) sv X ln ap (sgN tx ln ap) fc f1 f2 (B) ha R) (va_A (wM am cy th (cS mf mb mv) sv X ln ap le fc f1 f2 (B) ha R) s.heap.size) s _ _ := g_wc (by rw [if_neg (of_decide_eq_false c_115)]) G
            refine lv_iconst (v := 0) hx hb dX5_readsPart_118 (by decide) ?_
            exact g_zret C0 G rfl ⟨_, _, _, _, _, false, rfl, rfl, by omega, (fun h => by cases h), fun _ => f_0 hQ (of_decide_eq_false c_14) (of_decide_eq_false c_25) (of_decide_eq_false c_57) (of_decide_eq_false c_106) (of_decide_eq_false c_115)⟩ dX5_readsPart_119
      · skip
        have c_57 : (decide (sgN tx ln ap = 112)) = true := bI_t c_57
        have G : gW D (wM am cy th (cS mf mb mv) sv X ln (ap + 1) (sgN tx ln ap) fc f1 f2 (B) ha R) (va_A (wM am cy th (cS mf mb mv) sv X ln ap le fc f1 f2 (B) ha R) s.heap.size) s _ _ := g_wc (by rw [if_pos (of_decide_eq_true c_57)]) G
        have Q1 := q_p hQ (of_decide_eq_true c_57)
        have hq1 := Q1.1
        have hsg1 := sg_b (ap := ap + 1) hmx
        refine lv_aload_n hx hb dX5_readsPart_60 rfl (lv_at hl 0 rfl) ?_
        refine lv_aload_n hx hb dX5_readsPart_61 rfl (lv_at hl 0 rfl) ?_
        refine lv_bipush (v := 6) hx hb dX5_readsPart_62 (by decide) ?_
        refine g_callV (As := [.int 6]) (rest := [.ref (am 0)]) (q0 := 0) C0 G (c_X5_figure l D cy (am := am) (mf := mf) (mb := mb) (mv := mv) (th := th) (sv := sv) (X := X) (ln := ln) (ap := (ap + 1)) (le := sgN tx ln ap) (fc := fc) (f1 := f1) (f2 := f2) (ha := ha) (R := R) (B := B) (most := 6) (tx := tx) (by omega) (by omega) (by omega) hmx) k_X5_figure ml_X5_150 rfl rfl dX5_readsPart_64 rfl rfl hl.1 (Nat.le_of_ble_eq_true rfl) ⟨Nat.le_of_ble_eq_true rfl, Nat.le_of_ble_eq_true rfl⟩ ⟨Nat.le_of_ble_eq_true rfl, Nat.le_of_ble_eq_true rfl⟩ (fun r W2 H locs hp G => ?_)
        obtain ⟨rfl, hw⟩ := hp
        have G := g_wc hw G
        refine W.eq (g2 := F0 m 67 ls [.int (dgI 6 (sgN tx ln (ap + 1))), .ref (am 0)]) rfl ?_
        refine g_put (q0 := 0) (W2 := wM am cy th (cS mf mb mv) sv X ln (if dgOk 6 (sgN tx ln (ap + 1)) = true then (ap + 1) + 1 else (ap + 1)) (sgN tx ln ap) fc (dgI 6 (sgN tx ln (ap + 1))) f2 (B) ha R) C0 G ft_X5 in_X5 rfl rfl 8 (by decide) fl_X5_162 (fun _ h => h) rfl rfl rfl (Nat.le_of_ble_eq_true rfl) rfl dX5_readsPart_67 (fun H locs G => ?_)
        refine lv_aload_n hx hb dX5_readsPart_70 rfl (lv_at hl 0 rfl) ?_
        refine g_get (q0 := 0) (v := .int (dgI 6 (sgN tx ln (ap + 1)))) C0 G in_X5 rfl rfl 8 (by decide) fl_X5_162 (fun _ h => h) rfl dX5_readsPart_71 ?_
        refine lv_iconst (v := (-1)) hx hb dX5_readsPart_74 (by decide) ?_
        refine lv_icmp_eq (tgt := 98) hx hb dX5_readsPart_75 (by decide) (fun c_75 => ?_) (fun c_75 => ?_)
        · skip
          have c_75 : dgOk 6 (sgN tx ln (ap + 1)) = false := dgI_n (by omega) c_75
          have G : gW D (wM am cy th (cS mf mb mv) sv X ln (ap + 1) (sgN tx ln ap) fc (dgI 6 (sgN tx ln (ap + 1))) f2 (B) ha R) (va_A (wM am cy th (cS mf mb mv) sv X ln ap le fc f1 f2 (B) ha R) s.heap.size) s _ _ := g_wc (by rw [if_neg (by rw [c_75]; decide)]) G
          refine lv_iconst (v := 0) hx hb dX5_readsPart_98 (by decide) ?_
          exact g_zret C0 G rfl (by first | exact ⟨_, _, _, _, _, true, rfl, rfl, by omega, fun _ => ⟨6, 112, i0, (sgN tx ln (ap + 1)) - 48, k0, v2, Q4, Or.inl rfl, hm4, by omega, ⟨of_decide_eq_true c_57, Or.inr (Or.inl ⟨rfl, rfl, hv2⟩)⟩⟩, (fun h => by cases h)⟩ | exact ⟨_, _, _, _, _, false, rfl, rfl, by omega, (fun h => by cases h), fun _ => f_26 Q1 c_75⟩ | exact ⟨_, _, _, _, _, false, rfl, rfl, by omega, (fun h => by cases h), fun _ => f_4 Q2 (of_decide_eq_false c_84)⟩ | exact ⟨_, _, _, _, _, false, rfl, rfl, by omega, (fun h => by cases h), fun _ => ho2f c_91⟩) dX5_readsPart_99
        · skip
          have c_75 : dgOk 6 (sgN tx ln (ap + 1)) = true := dgI_y (by omega) c_75
          have G : gW D (wM am cy th (cS mf mb mv) sv X ln ((ap + 1) + 1) (sgN tx ln ap) fc (dgI 6 (sgN tx ln (ap + 1))) f2 (B) ha R) (va_A (wM am cy th (cS mf mb mv) sv X ln ap le fc f1 f2 (B) ha R) s.heap.size) s _ _ := g_wc (by rw [if_pos c_75]) G
          have G : gW D (wM am cy th (cS mf mb mv) sv X ln ((ap + 1) + 1) (sgN tx ln ap) fc (nI ((sgN tx ln (ap + 1)) - 48)) f2 (B) ha R) (va_A (wM am cy th (cS mf mb mv) sv X ln ap le fc f1 f2 (B) ha R) s.heap.size) s _ _ := g_wc (by rw [dgI_e c_75]) G
          have Q2 := q_r6 Q1 c_75
          have hq2 := Q2.1
          refine lv_aload_n hx hb dX5_readsPart_78 rfl (lv_at hl 0 rfl) ?_
          refine lv_bipush (v := 61) hx hb dX5_readsPart_79 (by decide) ?_
          refine g_callV (As := [.int 61]) (rest := []) (q0 := 0) C0 G (c_X5_takes l D cy (am := am) (mf := mf) (mb := mb) (mv := mv) (th := th) (sv := sv) (X := X) (ln := ln) (ap := ((ap + 1) + 1)) (le := sgN tx ln ap) (fc := fc) (f1 := nI ((sgN tx ln (ap + 1)) - 48)) (f2 := f2) (ha := ha) (R := R) (B := B) (sg := 61) (tx := tx) (by omega) (by omega) (by omega) hmx) k_X5_takes ml_X5_159 rfl rfl dX5_readsPart_81 rfl rfl hl.1 (Nat.le_of_ble_eq_true rfl) ⟨Nat.le_of_ble_eq_true rfl, Nat.le_of_ble_eq_true rfl⟩ ⟨Nat.le_of_ble_eq_true rfl, Nat.le_of_ble_eq_true rfl⟩ (fun r W2 H locs hp G => ?_)
          obtain ⟨rfl, hw⟩ := hp
          have G := g_wc hw G
          refine W.eq (g2 := F0 m 84 ls [.int (bI (decide (sgN tx ln ((ap + 1) + 1) = 61)))]) rfl ?_
          refine lv_if_eq (tgt := 98) hx hb dX5_readsPart_84 (by decide) (fun c_84 => ?_) (fun c_84 => ?_)
          · skip
            have c_84 : (decide (sgN tx ln ((ap + 1) + 1) = 61)) = false := bI_f c_84
            have G : gW D (wM am cy th (cS mf mb mv) sv X ln ((ap + 1) + 1) (sgN tx ln ap) fc (nI ((sgN tx ln (ap + 1)) - 48)) f2 (B) ha R) (va_A (wM am cy th (cS mf mb mv) sv X ln ap le fc f1 f2 (B) ha R) s.heap.size) s _ _ := g_wc (by rw [if_neg (of_decide_eq_false c_84)]) G
            refine lv_iconst (v := 0) hx hb dX5_readsPart_98 (by decide) ?_
            exact g_zret C0 G rfl (by first | exact ⟨_, _, _, _, _, true, rfl, rfl, by omega, fun _ => ⟨6, 112, i0, (sgN tx ln (ap + 1)) - 48, k0, v2, Q4, Or.inl rfl, hm4, by omega, ⟨of_decide_eq_true c_57, Or.inr (Or.inl ⟨rfl, rfl, hv2⟩)⟩⟩, (fun h => by cases h)⟩ | exact ⟨_, _, _, _, _, false, rfl, rfl, by omega, (fun h => by cases h), fun _ => f_26 Q1 c_75⟩ | exact ⟨_, _, _, _, _, false, rfl, rfl, by omega, (fun h => by cases h), fun _ => f_4 Q2 (of_decide_eq_false c_84)⟩ | exact ⟨_, _, _, _, _, false, rfl, rfl, by omega, (fun h => by cases h), fun _ => ho2f c_91⟩) dX5_readsPart_99
          · skip
            have c_84 : (decide (sgN tx ln ((ap + 1) + 1) = 61)) = true := bI_t c_84
            have G : gW D (wM am cy th (cS mf mb mv) sv X ln (((ap + 1) + 1) + 1) (sgN tx ln ap) fc (nI ((sgN tx ln (ap + 1)) - 48)) f2 (B) ha R) (va_A (wM am cy th (cS mf mb mv) sv X ln ap le fc f1 f2 (B) ha R) s.heap.size) s _ _ := g_wc (by rw [if_pos (of_decide_eq_true c_84)]) G
            have Q3 := q_e Q2 (of_decide_eq_true c_84)
            refine lv_aload_n hx hb dX5_readsPart_87 rfl (lv_at hl 0 rfl) ?_
            refine g_callV (As := []) (rest := []) (q0 := 0) C0 G (c_X5_readsValue l D cy (am := am) (mf := mf) (mb := mb) (mv := mv) (th := th) (sv := sv) (X := X) (ln := ln) (ap := (((ap + 1) + 1) + 1)) (le := sgN tx ln ap) (fc := fc) (f1 := nI ((sgN tx ln (ap + 1)) - 48)) (f2 := f2) (ha := ha) (R := R) (B := B) (tx := tx) (q := q) (b0 := ap) (l0 := 112) (i0 := i0) (r0 := (sgN tx ln (ap + 1)) - 48) (k0 := k0) (n0 := n0) (by omega) hmx Q3 hq) k_X5_readsValue ml_X5_165 rfl rfl dX5_readsPart_88 rfl rfl hl.1 (Nat.le_of_ble_eq_true rfl) ⟨Nat.le_of_ble_eq_true rfl, Nat.le_of_ble_eq_true rfl⟩ ⟨Nat.le_of_ble_eq_true rfl, Nat.le_of_ble_eq_true rfl⟩ (fun r W2 H locs hp G => ?_)
            obtain ⟨a2, w2, o2, rfl, hw, ha2, ho2t, ho2f⟩ := hp
            have G := g_wc hw G
            refine W.eq (g2 := F0 m 91 ls [.int (bI o2)]) rfl ?_
            refine lv_if_eq (tgt := 98) hx hb dX5_readsPart_91 (by decide) (fun c_91 => ?_) (fun c_91 => ?_)
            · skip
              have c_91 : o2 = false := bI_f c_91
              refine lv_iconst (v := 0) hx hb dX5_readsPart_98 (by decide) ?_
              exact g_zret C0 G rfl (by first | exact ⟨_, _, _, _, _, true, rfl, rfl, by omega, fun _ => ⟨6, 112, i0, (sgN tx ln (ap + 1)) - 48, k0, v2, Q4, Or.inl rfl, hm4, by omega, ⟨of_decide_eq_true c_57, Or.inr (Or.inl ⟨rfl, rfl, hv2⟩)⟩⟩, (fun h => by cases h)⟩ | exact ⟨_, _, _, _, _, false, rfl, rfl, by omega, (fun h => by cases h), fun _ => f_26 Q1 c_75⟩ | exact ⟨_, _, _, _, _, false, rfl, rfl, by omega, (fun h => by cases h), fun _ => f_4 Q2 (of_decide_eq_false c_84)⟩ | exact ⟨_, _, _, _, _, false, rfl, rfl, by omega, (fun h => by cases h), fun _ => ho2f c_91⟩) dX5_readsPart_99
            · skip
              have c_91 : o2 = true := bI_t c_91
              obtain ⟨v2, hv2, Q4, hm4, hlt4⟩ := ho2t c_91
              refine lv_iconst (v := 1) hx hb dX5_readsPart_94 (by decide) ?_
              refine lv_goto (tgt := 99) hx hb dX5_readsPart_95 (by decide) ?_
              exact g_zret C0 G rfl (by first | exact ⟨_, _, _, _, _, true, rfl, rfl, by omega, fun _ => ⟨6, 112, i0, (sgN tx ln (ap + 1)) - 48, k0, v2, Q4, Or.inl rfl, hm4, by omega, ⟨of_decide_eq_true c_57, Or.inr (Or.inl ⟨rfl, rfl, hv2⟩)⟩⟩, (fun h => by cases h)⟩ | exact ⟨_, _, _, _, _, false, rfl, rfl, by omega, (fun h => by cases h), fun _ => f_26 Q1 c_75⟩ | exact ⟨_, _, _, _, _, false, rfl, rfl, by omega, (fun h => by cases h), fun _ => f_4 Q2 (of_decide_eq_false c_84)⟩ | exact ⟨_, _, _, _, _, false, rfl, rfl, by omega, (fun h => by cases h), fun _ => ho2f c_91⟩) dX5_readsPart_99
    · skip
      have c_25 : (decide (sgN tx ln ap = 118)) = true := bI_t c_25
      have G : gW D (wM am cy th (cS mf mb mv) sv X ln (ap + 1) (sgN tx ln ap) fc f1 f2 (B) ha R) (va_A (wM am cy th (cS mf mb mv) sv X ln ap le fc f1 f2 (B) ha R) s.heap.size) s _ _ := g_wc (by rw [if_pos (of_decide_eq_true c_25)]) G
      have Q1 := q_v hQ (of_decide_eq_true c_25)
      have hq1 := Q1.1
      have hsg1 := sg_b (ap := ap + 1) hmx
      refine lv_aload_n hx hb dX5_readsPart_28 rfl (lv_at hl 0 rfl) ?_
      refine lv_aload_n hx hb dX5_readsPart_29 rfl (lv_at hl 0 rfl) ?_
      refine lv_iconst (v := 3) hx hb dX5_readsPart_30 (by decide) ?_
      refine g_callV (As := [.int 3]) (rest := [.ref (am 0)]) (q0 := 0) C0 G (c_X5_figure l D cy (am := am) (mf := mf) (mb := mb) (mv := mv) (th := th) (sv := sv) (X := X) (ln := ln) (ap := (ap + 1)) (le := sgN tx ln ap) (fc := fc) (f1 := f1) (f2 := f2) (ha := ha) (R := R) (B := B) (most := 3) (tx := tx) (by omega) (by omega) (by omega) hmx) k_X5_figure ml_X5_150 rfl rfl dX5_readsPart_31 rfl rfl hl.1 (Nat.le_of_ble_eq_true rfl) ⟨Nat.le_of_ble_eq_true rfl, Nat.le_of_ble_eq_true rfl⟩ ⟨Nat.le_of_ble_eq_true rfl, Nat.le_of_ble_eq_true rfl⟩ (fun r W2 H locs hp G => ?_)
      obtain ⟨rfl, hw⟩ := hp
      have G := g_wc hw G
      refine W.eq (g2 := F0 m 34 ls [.int (dgI 3 (sgN tx ln (ap + 1))), .ref (am 0)]) rfl ?_
      refine g_put (q0 := 0) (W2 := wM am cy th (cS mf mb mv) sv X ln (if dgOk 3 (sgN tx ln (ap + 1)) = true then (ap + 1) + 1 else (ap + 1)) (sgN tx ln ap) fc (dgI 3 (sgN tx ln (ap + 1))) f2 (B) ha R) C0 G ft_X5 in_X5 rfl rfl 8 (by decide) fl_X5_162 (fun _ h => h) rfl rfl rfl (Nat.le_of_ble_eq_true rfl) rfl dX5_readsPart_34 (fun H locs G => ?_)
      refine lv_aload_n hx hb dX5_readsPart_37 rfl (lv_at hl 0 rfl) ?_
      refine g_get (q0 := 0) (v := .int (dgI 3 (sgN tx ln (ap + 1)))) C0 G in_X5 rfl rfl 8 (by decide) fl_X5_162 (fun _ h => h) rfl dX5_readsPart_38 ?_
      refine lv_iconst (v := (-1)) hx hb dX5_readsPart_41 (by decide) ?_
      refine lv_icmp_eq (tgt := 49) hx hb dX5_readsPart_42 (by decide) (fun c_42 => ?_) (fun c_42 => ?_)
      · skip
        have c_42 : dgOk 3 (sgN tx ln (ap + 1)) = false := dgI_n (by omega) c_42
        have G : gW D (wM am cy th (cS mf mb mv) sv X ln (ap + 1) (sgN tx ln ap) fc (dgI 3 (sgN tx ln (ap + 1))) f2 (B) ha R) (va_A (wM am cy th (cS mf mb mv) sv X ln ap le fc f1 f2 (B) ha R) s.heap.size) s _ _ := g_wc (by rw [if_neg (by rw [c_42]; decide)]) G
        refine lv_iconst (v := 0) hx hb dX5_readsPart_49 (by decide) ?_
        exact g_zret C0 G rfl (by first | exact ⟨_, _, _, _, _, true, rfl, rfl, by omega, fun _ => ⟨8, 118, i0, r0, k0, (sgN tx ln (ap + 1)) - 48, Q2, Or.inr rfl, mx_8 Q2, by omega, ⟨of_decide_eq_true c_25, Or.inr (Or.inr (Or.inl ⟨rfl, rfl⟩))⟩⟩, (fun h => by cases h)⟩ | exact ⟨_, _, _, _, _, false, rfl, rfl, by omega, (fun h => by cases h), fun _ => f_7 Q1 c_42⟩) dX5_readsPart_50
      · skip
        have c_42 : dgOk 3 (sgN tx ln (ap + 1)) = true := dgI_y (by omega) c_42
        have G : gW D (wM am cy th (cS mf mb mv) sv X ln ((ap + 1) + 1) (sgN tx ln ap) fc (dgI 3 (sgN tx ln (ap + 1))) f2 (B) ha R) (va_A (wM am cy th (cS mf mb mv) sv X ln ap le fc f1 f2 (B) ha R) s.heap.size) s _ _ := g_wc (by rw [if_pos c_42]) G
        have G : gW D (wM am cy th (cS mf mb mv) sv X ln ((ap + 1) + 1) (sgN tx ln ap) fc (nI ((sgN tx ln (ap + 1)) - 48)) f2 (B) ha R) (va_A (wM am cy th (cS mf mb mv) sv X ln ap le fc f1 f2 (B) ha R) s.heap.size) s _ _ := g_wc (by rw [dgI_e c_42]) G
        have Q2 := q_n Q1 c_42
        have hq2 := Q2.1
        refine lv_iconst (v := 1) hx hb dX5_readsPart_45 (by decide) ?_
        refine lv_goto (tgt := 50) hx hb dX5_readsPart_46 (by decide) ?_
        exact g_zret C0 G rfl (by first | exact ⟨_, _, _, _, _, true, rfl, rfl, by omega, fun _ => ⟨8, 118, i0, r0, k0, (sgN tx ln (ap + 1)) - 48, Q2, Or.inr rfl, mx_8 Q2, by omega, ⟨of_decide_eq_true c_25, Or.inr (Or.inr (Or.inl ⟨rfl, rfl⟩))⟩⟩, (fun h => by cases h)⟩ | exact ⟨_, _, _, _, _, false, rfl, rfl, by omega, (fun h => by cases h), fun _ => f_7 Q1 c_42⟩) dX5_readsPart_50
  · skip
    have c_14 : (decide (sgN tx ln ap = 99)) = true := bI_t c_14
    have G : gW D (wM am cy th (cS mf mb mv) sv X ln (ap + 1) (sgN tx ln ap) fc f1 f2 (B) ha R) (va_A (wM am cy th (cS mf mb mv) sv X ln ap le fc f1 f2 (B) ha R) s.heap.size) s _ _ := g_wc (by rw [if_pos (of_decide_eq_true c_14)]) G
    have e1 := of_decide_eq_true c_14
    have Q1 := q_c hQ e1
    have hq1 := Q1.1
    refine lv_iconst (v := 1) hx hb dX5_readsPart_17 (by decide) ?_
    exact g_zret C0 G rfl ⟨_, _, _, _, _, true, rfl, rfl, by omega, fun _ => ⟨8, 99, i0, r0, k0, n0, Q1, Or.inr rfl, mx_8 Q1, by omega, ⟨e1, Or.inl rfl⟩⟩, (fun h => by cases h)⟩ dX5_readsPart_18

set_option maxHeartbeats 4000000 in
set_option maxRecDepth 100000 in
theorem c_X5_readsPart_z (l : Launch) (D : va_G) (cy : Nat → ClassId) (am : Nat → Nat) (mf : Nat → Int64) (mb : Nat → Int64) (mv : Nat → Nat) (th : Int32) (sv : Nat) (X : Nat → Int32) (ln : Nat) (ap : Nat) (le : Nat) (fc : Nat) (f1 : Int32) (f2 : Int32) (ha : Int64) (R : va_W) (B : Nat → Int32) (tx : Nat → Nat) (h1 : ln ≤ 60) (hmx : ∀ j, j < ln → X j = nI (tx j) ∧ tx j < 128) (hz : ap = ln) : GE l D (gts cy) yX5_readsPart cX5_readsPart 1 (some .boolean) 3 0 0 [.ref (am 0)] (wM am cy th (cS mf mb mv) sv X ln ap le fc f1 f2 (B) ha R) (gF (some (.int (bI false))) (wM am cy th (cS mf mb mv) sv X ln ap 0 fc f1 f2 (B) ha R)) := by
  refine g_intro (by decide +kernel) (lv := [(0, .ref (am 0))]) rfl (Nat.le_of_ble_eq_true rfl) ?_
  intro p e s m below meth c C0 G ls hl
  have hx := C0.1
  have hb := C0.2.1
  have hown := C0.2.2.2.2.2.1
  have hts := C0.2.2.2.2.2.2.1
  have hsg := sg_b (ap := ap) hmx
  have h9 : ln ≤ ap := by omega
  refine lv_aload_n hx hb dX5_readsPart_0 rfl (lv_at hl 0 rfl) ?_
  refine lv_aload_n hx hb dX5_readsPart_1 rfl (lv_at hl 0 rfl) ?_
  refine g_callV (As := []) (rest := [.ref (am 0)]) (q0 := 0) C0 G (c_X5_sign l D cy (am := am) (mf := mf) (mb := mb) (mv := mv) (th := th) (sv := sv) (X := X) (ln := ln) (ap := ap) (le := le) (fc := fc) (f1 := f1) (f2 := f2) (ha := ha) (R := R) (B := B) (tx := tx) (by omega) (by omega) hmx) k_X5_sign ml_X5_146 rfl rfl dX5_readsPart_2 rfl rfl hl.1 (Nat.le_of_ble_eq_true rfl) ⟨Nat.le_of_ble_eq_true rfl, Nat.le_of_ble_eq_true rfl⟩ ⟨Nat.le_of_ble_eq_true rfl, Nat.le_of_ble_eq_true rfl⟩ (fun r W2 H locs hp G => ?_)
  obtain ⟨rfl, hw⟩ := hp
  have G := g_wc hw G
  refine W.eq (g2 := F0 m 5 ls [.int (nI (sgN tx ln ap)), .ref (am 0)]) rfl ?_
  refine g_topi (x' := nI 0) (by rw [sg_end (tx := tx) h9]) ?_
  refine g_put (q0 := 0) (W2 := wM am cy th (cS mf mb mv) sv X ln ap 0 fc f1 f2 (B) ha R) C0 G ft_X5 in_X5 rfl rfl 6 (by decide) fl_X5_156 (fun _ h => h) rfl rfl rfl (Nat.le_of_ble_eq_true rfl) rfl dX5_readsPart_5 (fun H locs G => ?_)
  refine lv_aload_n hx hb dX5_readsPart_8 rfl (lv_at hl 0 rfl) ?_
  refine lv_bipush (v := 99) hx hb dX5_readsPart_9 (by decide) ?_
  refine g_callV (As := [.int 99]) (rest := []) (q0 := 0) C0 G (c_X5_takes l D cy (am := am) (mf := mf) (mb := mb) (mv := mv) (th := th) (sv := sv) (X := X) (ln := ln) (ap := ap) (le := 0) (fc := fc) (f1 := f1) (f2 := f2) (ha := ha) (R := R) (B := B) (sg := 99) (tx := tx) (by omega) (by omega) (by omega) hmx) k_X5_takes ml_X5_159 rfl rfl dX5_readsPart_11 rfl rfl hl.1 (Nat.le_of_ble_eq_true rfl) ⟨Nat.le_of_ble_eq_true rfl, Nat.le_of_ble_eq_true rfl⟩ ⟨Nat.le_of_ble_eq_true rfl, Nat.le_of_ble_eq_true rfl⟩ (fun r W2 H locs hp G => ?_)
  obtain ⟨rfl, hw⟩ := hp
  have G := g_wc hw G
  refine W.eq (g2 := F0 m 14 ls [.int (bI (decide (sgN tx ln ap = 99)))]) rfl ?_
  refine lv_if_eq (tgt := 19) hx hb dX5_readsPart_14 (by decide) (fun c_14 => ?_) (fun c_14 => ?_)
  · skip
    have c_14 : (decide (sgN tx ln ap = 99)) = false := bI_f c_14
    have G : gW D (wM am cy th (cS mf mb mv) sv X ln ap 0 fc f1 f2 (B) ha R) (va_A (wM am cy th (cS mf mb mv) sv X ln ap le fc f1 f2 (B) ha R) s.heap.size) s _ _ := g_wc (by rw [if_neg (of_decide_eq_false c_14)]) G
    refine lv_aload_n hx hb dX5_readsPart_19 rfl (lv_at hl 0 rfl) ?_
    refine lv_bipush (v := 118) hx hb dX5_readsPart_20 (by decide) ?_
    refine g_callV (As := [.int 118]) (rest := []) (q0 := 0) C0 G (c_X5_takes l D cy (am := am) (mf := mf) (mb := mb) (mv := mv) (th := th) (sv := sv) (X := X) (ln := ln) (ap := ap) (le := 0) (fc := fc) (f1 := f1) (f2 := f2) (ha := ha) (R := R) (B := B) (sg := 118) (tx := tx) (by omega) (by omega) (by omega) hmx) k_X5_takes ml_X5_159 rfl rfl dX5_readsPart_22 rfl rfl hl.1 (Nat.le_of_ble_eq_true rfl) ⟨Nat.le_of_ble_eq_true rfl, Nat.le_of_ble_eq_true rfl⟩ ⟨Nat.le_of_ble_eq_true rfl, Nat.le_of_ble_eq_true rfl⟩ (fun r W2 H locs hp G => ?_)
    obtain ⟨rfl, hw⟩ := hp
    have G := g_wc hw G
    refine W.eq (g2 := F0 m 25 ls [.int (bI (decide (sgN tx ln ap = 118)))]) rfl ?_
    refine lv_if_eq (tgt := 51) hx hb dX5_readsPart_25 (by decide) (fun c_25 => ?_) (fun c_25 => ?_)
    · skip
      have c_25 : (decide (sgN tx ln ap = 118)) = false := bI_f c_25
      have G : gW D (wM am cy th (cS mf mb mv) sv X ln ap 0 fc f1 f2 (B) ha R) (va_A (wM am cy th (cS mf mb mv) sv X ln ap le fc f1 f2 (B) ha R) s.heap.size) s _ _ := g_wc (by rw [if_neg (of_decide_eq_false c_25)]) G
      refine lv_aload_n hx hb dX5_readsPart_51 rfl (lv_at hl 0 rfl) ?_
      refine lv_bipush (v := 112) hx hb dX5_readsPart_52 (by decide) ?_
      refine g_callV (As := [.int 112]) (rest := []) (q0 := 0) C0 G (c_X5_takes l D cy (am := am) (mf := mf) (mb := mb) (mv := mv) (th := th) (sv := sv) (X := X) (ln := ln) (ap := ap) (le := 0) (fc := fc) (f1 := f1) (f2 := f2) (ha := ha) (R := R) (B := B) (sg := 112) (tx := tx) (by omega) (by omega) (by omega) hmx) k_X5_takes ml_X5_159 rfl rfl dX5_readsPart_54 rfl rfl hl.1 (Nat.le_of_ble_eq_true rfl) ⟨Nat.le_of_ble_eq_true rfl, Nat.le_of_ble_eq_true rfl⟩ ⟨Nat.le_of_ble_eq_true rfl, Nat.le_of_ble_eq_true rfl⟩ (fun r W2 H locs hp G => ?_)
      obtain ⟨rfl, hw⟩ := hp
      have G := g_wc hw G
      refine W.eq (g2 := F0 m 57 ls [.int (bI (decide (sgN tx ln ap = 112)))]) rfl ?_
      refine lv_if_eq (tgt := 100) hx hb dX5_readsPart_57 (by decide) (fun c_57 => ?_) (fun c_57 => ?_)
      · skip
        have c_57 : (decide (sgN tx ln ap = 112)) = false := bI_f c_57
        have G : gW D (wM am cy th (cS mf mb mv) sv X ln ap 0 fc f1 f2 (B) ha R) (va_A (wM am cy th (cS mf mb mv) sv X ln ap le fc f1 f2 (B) ha R) s.heap.size) s _ _ := g_wc (by rw [if_neg (of_decide_eq_false c_57)]) G
        refine lv_aload_n hx hb dX5_readsPart_100 rfl (lv_at hl 0 rfl) ?_
        refine lv_bipush (v := 119) hx hb dX5_readsPart_101 (by decide) ?_
        refine g_callV (As := [.int 119]) (rest := []) (q0 := 0) C0 G (c_X5_takes l D cy (am := am) (mf := mf) (mb := mb) (mv := mv) (th := th) (sv := sv) (X := X) (ln := ln) (ap := ap) (le := 0) (fc := fc) (f1 := f1) (f2 := f2) (ha := ha) (R := R) (B := B) (sg := 119) (tx := tx) (by omega) (by omega) (by omega) hmx) k_X5_takes ml_X5_159 rfl rfl dX5_readsPart_103 rfl rfl hl.1 (Nat.le_of_ble_eq_true rfl) ⟨Nat.le_of_ble_eq_true rfl, Nat.le_of_ble_eq_true rfl⟩ ⟨Nat.le_of_ble_eq_true rfl, Nat.le_of_ble_eq_true rfl⟩ (fun r W2 H locs hp G => ?_)
        obtain ⟨rfl, hw⟩ := hp
        have G := g_wc hw G
        refine W.eq (g2 := F0 m 106 ls [.int (bI (decide (sgN tx ln ap = 119)))]) rfl ?_
        refine lv_if_ne (tgt := 120) hx hb dX5_readsPart_106 (by decide) (fun c_106 => ?_) (fun c_106 => ?_)
        · skip
          have c_106 : (decide (sgN tx ln ap = 119)) = true := bI_t c_106
          exact absurd (of_decide_eq_true c_106) (by rw [sg_end (tx := tx) h9]; decide)
        · skip
          have c_106 : (decide (sgN tx ln ap = 119)) = false := bI_f c_106
          have G : gW D (wM am cy th (cS mf mb mv) sv X ln ap 0 fc f1 f2 (B) ha R) (va_A (wM am cy th (cS mf mb mv) sv X ln ap le fc f1 f2 (B) ha R) s.heap.size) s _ _ := g_wc (by rw [if_neg (of_decide_eq_false c_106)]) G
          refine lv_aload_n hx hb dX5_readsPart_109 rfl (lv_at hl 0 rfl) ?_
          refine lv_bipush (v := 120) hx hb dX5_readsPart_110 (by decide) ?_
          refine g_callV (As := [.int 120]) (rest := []) (q0 := 0) C0 G (c_X5_takes l D cy (am := am) (mf := mf) (mb := mb) (mv := mv) (th := th) (sv := sv) (X := X) (ln := ln) (ap := ap) (le := 0) (fc := fc) (f1 := f1) (f2 := f2) (ha := ha) (R := R) (B := B) (sg := 120) (tx := tx) (by omega) (by omega) (by omega) hmx) k_X5_takes ml_X5_159 rfl rfl dX5_readsPart_112 rfl rfl hl.1 (Nat.le_of_ble_eq_true rfl) ⟨Nat.le_of_ble_eq_true rfl, Nat.le_of_ble_eq_true rfl⟩ ⟨Nat.le_of_ble_eq_true rfl, Nat.le_of_ble_eq_true rfl⟩ (fun r W2 H locs hp G => ?_)
          obtain ⟨rfl, hw⟩ := hp
          have G := g_wc hw G
          refine W.eq (g2 := F0 m 115 ls [.int (bI (decide (sgN tx ln ap = 120)))]) rfl ?_
          refine lv_if_ne (tgt := 120) hx hb dX5_readsPart_115 (by decide) (fun c_115 => ?_) (fun c_115 => ?_)
          · skip
            have c_115 : (decide (sgN tx ln ap = 120)) = true := bI_t c_115
            exact absurd (of_decide_eq_true c_115) (by rw [sg_end (tx := tx) h9]; decide)
          · skip
            have c_115 : (decide (sgN tx ln ap = 120)) = false := bI_f c_115
            have G : gW D (wM am cy th (cS mf mb mv) sv X ln ap 0 fc f1 f2 (B) ha R) (va_A (wM am cy th (cS mf mb mv) sv X ln ap le fc f1 f2 (B) ha R) s.heap.size) s _ _ := g_wc (by rw [if_neg (of_decide_eq_false c_115)]) G
            refine lv_iconst (v := 0) hx hb dX5_readsPart_118 (by decide) ?_
            exact g_zret C0 G rfl ⟨by first | rfl | (exfalso; omega) | (simp only [c_14, c_25, c_57, c_106, c_115, Bool.false_eq_true, ↓reduceIte, eq_self, decide_true, decide_false, not_true_eq_false, not_false_eq_true, Bool.true_and, Bool.false_and, Bool.and_true, Bool.and_false]; done) | (simp [c_14, c_25, c_57, c_106, c_115]; done) | (simp [c_14, c_25, c_57, c_106, c_115]; rfl) | (simp [c_14, c_25, c_57, c_106, c_115]; omega), by first | rfl | (exfalso; omega) | (simp only [c_14, c_25, c_57, c_106, c_115, Bool.false_eq_true, ↓reduceIte, eq_self, decide_true, decide_false, not_true_eq_false, not_false_eq_true, Bool.true_and, Bool.false_and, Bool.and_true, Bool.and_false]; done) | (simp [c_14, c_25, c_57, c_106, c_115]; done) | (simp [c_14, c_25, c_57, c_106, c_115]; rfl) | (simp [c_14, c_25, c_57, c_106, c_115]; omega)⟩ dX5_readsPart_119
      · skip
        have c_57 : (decide (sgN tx ln ap = 112)) = true := bI_t c_57
        exact absurd (of_decide_eq_true c_57) (by rw [sg_end (tx := tx) h9]; decide)
    · skip
      have c_25 : (decide (sgN tx ln ap = 118)) = true := bI_t c_25
      exact absurd (of_decide_eq_true c_25) (by rw [sg_end (tx := tx) h9]; decide)
  · skip
    have c_14 : (decide (sgN tx ln ap = 99)) = true := bI_t c_14
    exact absurd (of_decide_eq_true c_14) (by rw [sg_end (tx := tx) h9]; decide)

set_option maxHeartbeats 4000000 in
set_option maxRecDepth 100000 in
theorem c_X5_isWork (l : Launch) (D : va_G) (cy : Nat → ClassId) (am : Nat → Nat) (mf : Nat → Int64) (mb : Nat → Int64) (mv : Nat → Nat) (th : Int32) (sv : Nat) (X : Nat → Int32) (ln : Nat) (ap : Nat) (le : Nat) (fc : Nat) (f1 : Int32) (f2 : Int32) (ha : Int64) (R : va_W) (B : Nat → Int32) (tx : Nat → Nat) (q : RS) (h1 : ln ≤ 60) (hmx : ∀ j, j < ln → X j = nI (tx j) ∧ tx j < 128) (hq : rsOk q) (h0 : q.1 = 0) : GE l D (gts cy) yX5_isWork cX5_isWork 1 (some .boolean) 4 0 0 [.ref (am 0)] (wM am cy th (cS mf mb mv) sv X ln ap le fc f1 f2 (B) ha R) (fun r W2 => ∃ le2 : Nat, ∃ fc2 : Nat, ∃ g1 : Int32, ∃ g2 : Int32, r = some (.int (bI (wkB tx q ln))) ∧ W2 = wM am cy th (cS mf mb mv) sv X ln (ldN (rdOk tx q) ln) le2 fc2 g1 g2 (B) ha R) := by
  refine g_intro (by decide +kernel) (lv := [(0, .ref (am 0))]) rfl (Nat.le_of_ble_eq_true rfl) ?_
  intro p e s m below meth c C0 G ls hl
  have hx := C0.1
  have hb := C0.2.1
  have hown := C0.2.2.2.2.2.1
  have hts := C0.2.2.2.2.2.2.1
  refine lv_aload_n hx hb dX5_isWork_0 rfl (lv_at hl 0 rfl) ?_
  refine lv_iconst (v := 0) hx hb dX5_isWork_1 (by decide) ?_
  refine g_put (q0 := 0) (W2 := wM am cy th (cS mf mb mv) sv X ln 0 le fc f1 f2 (B) ha R) C0 G ft_X5 in_X5 rfl rfl 5 (by decide) fl_X5_143 (fun _ h => h) rfl rfl rfl (Nat.le_of_ble_eq_true rfl) rfl dX5_isWork_2 (fun H locs G => ?_)
  have hl := lv_sub hl (l' := [(0, .ref (am 0))]) [0] rfl
  refine g_loop (σ := (Nat × Nat × Nat × Int32 × Int32)) (fun x => 61 - x.1) (fun x => wM am cy th (cS mf mb mv) sv X ln x.1 x.2.1 x.2.2.1 x.2.2.2.1 x.2.2.2.2 (B) ha R) (fun x => [(0, .ref (am 0))]) (fun x => ∃ (l0 : Nat) (i0 : Bool) (r0 k0 n0 : Nat), rdQ tx q ln x.1 x.1 (0, l0, i0, r0, k0, n0)) ?_ (0, le, fc, f1, f2) ⟨q.2.1, q.2.2.1, q.2.2.2.1, q.2.2.2.2.1, q.2.2.2.2.2, Nat.zero_le _, fun j hj => absurd hj (Nat.not_lt_zero _), rs_0 h0, Nat.le_refl _, fun j _ hj => absurd hj (Nat.not_lt_zero _)⟩ G hl
  intro x hi_5 ih_5 H locs ls G hl
  obtain ⟨l0, i0, r0, k0, n0, hQ⟩ := hi_5
  have hxa := hQ.1
  have G : gW D (wM am cy th (cS mf mb mv) sv X ln x.1 x.2.1 x.2.2.1 x.2.2.2.1 x.2.2.2.2 (B) ha R) (va_A (wM am cy th (cS mf mb mv) sv X ln ap le fc f1 f2 (B) ha R) s.heap.size) s H locs := G
  have hl : lv_has ls 1 [(0, .ref (am 0))] := hl
  refine lv_aload_n hx hb dX5_isWork_5 rfl (lv_at hl 0 rfl) ?_
  refine g_callV (As := []) (rest := []) (q0 := 0) C0 G (c_X5_readsPart l D cy (am := am) (mf := mf) (mb := mb) (mv := mv) (th := th) (sv := sv) (X := X) (ln := ln) (ap := x.1) (le := x.2.1) (fc := x.2.2.1) (f1 := x.2.2.2.1) (f2 := x.2.2.2.2) (ha := ha) (R := R) (B := B) (tx := tx) (q := q) (l0 := l0) (i0 := i0) (r0 := r0) (k0 := k0) (n0 := n0) (by omega) hmx hQ hq) k_X5_readsPart ml_X5_172 rfl rfl dX5_isWork_6 rfl rfl hl.1 (Nat.le_of_ble_eq_true rfl) ⟨Nat.le_of_ble_eq_true rfl, Nat.le_of_ble_eq_true rfl⟩ ⟨Nat.le_of_ble_eq_true rfl, Nat.le_of_ble_eq_true rfl⟩ (fun r W2 H locs hp G => ?_)
  obtain ⟨a2, le2, fc2, g1, g2, o2, rfl, hw, ha2, ho2t, ho2f⟩ := hp
  have G := g_wc hw G
  refine W.eq (g2 := F0 m 9 ls [.int (bI o2)]) rfl ?_
  refine lv_if_eq (tgt := 36) hx hb dX5_isWork_9 (by decide) (fun c_9 => ?_) (fun c_9 => ?_)
  · skip
    have c_9 : o2 = false := bI_f c_9
    obtain ⟨hwa, hwb⟩ := wk_f (ho2f c_9) ha2
    refine lv_iconst (v := 0) hx hb dX5_isWork_36 (by decide) ?_
    exact g_zret C0 G rfl ⟨_, _, _, _, by rw [← hwb]; rfl, by rw [← hwa]⟩ dX5_isWork_37
  · skip
    have c_9 : o2 = true := bI_t c_9
    obtain ⟨sp2, lt2, ib2, rw2, cl2, nu2, Q2, h68, hm2, hlt2, hV2⟩ := ho2t c_9
    have hsg := sg_b (ap := a2) hmx
    refine lv_aload_n hx hb dX5_isWork_12 rfl (lv_at hl 0 rfl) ?_
    refine g_get (q0 := 0) (v := .int (nI a2)) C0 G in_X5 rfl rfl 5 (by decide) fl_X5_143 (fun _ h => h) rfl dX5_isWork_13 ?_
    refine lv_aload_n hx hb dX5_isWork_16 rfl (lv_at hl 0 rfl) ?_
    refine g_get (q0 := 0) (v := .int (nI ln)) C0 G in_X5 rfl rfl 4 (by decide) fl_X5_140 (fun _ h => h) rfl dX5_isWork_17 ?_
    refine lv_icmp_ne (tgt := 25) hx hb dX5_isWork_20 (by decide) (fun c_20 => ?_) (fun c_20 => ?_)
    · skip
      have c_20 : ¬ (a2 = ln) := fun h => c_20 ((nI_eq (a := a2) (b := ln) (by omega) (by omega)).mpr h)
      refine lv_aload_n hx hb dX5_isWork_25 rfl (lv_at hl 0 rfl) ?_
      refine lv_bipush (v := 59) hx hb dX5_isWork_26 (by decide) ?_
      refine g_callV (As := [.int 59]) (rest := []) (q0 := 0) C0 G (c_X5_takes l D cy (am := am) (mf := mf) (mb := mb) (mv := mv) (th := th) (sv := sv) (X := X) (ln := ln) (ap := a2) (le := le2) (fc := fc2) (f1 := g1) (f2 := g2) (ha := ha) (R := R) (B := B) (sg := 59) (tx := tx) (by omega) (by omega) (by omega) hmx) k_X5_takes ml_X5_159 rfl rfl dX5_isWork_28 rfl rfl hl.1 (Nat.le_of_ble_eq_true rfl) ⟨Nat.le_of_ble_eq_true rfl, Nat.le_of_ble_eq_true rfl⟩ ⟨Nat.le_of_ble_eq_true rfl, Nat.le_of_ble_eq_true rfl⟩ (fun r W2 H locs hp G => ?_)
      obtain ⟨rfl, hw⟩ := hp
      have G := g_wc hw G
      refine W.eq (g2 := F0 m 31 ls [.int (bI (decide (sgN tx ln a2 = 59)))]) rfl ?_
      refine lv_if_ne (tgt := 5) hx hb dX5_isWork_31 (by decide) (fun c_31 => ?_) (fun c_31 => ?_)
      · skip
        have c_31 : (decide (sgN tx ln a2 = 59)) = true := bI_t c_31
        have G : gW D (wM am cy th (cS mf mb mv) sv X ln (a2 + 1) le2 fc2 g1 g2 (B) ha R) (va_A (wM am cy th (cS mf mb mv) sv X ln ap le fc f1 f2 (B) ha R) s.heap.size) s _ _ := g_wc (by rw [if_pos (of_decide_eq_true c_31)]) G
        have hl := lv_sub hl (l' := _) [0] rfl
        exact ih_5 (a2 + 1, le2, fc2, g1, g2) ⟨lt2, ib2, rw2, cl2, nu2, q_s Q2 h68 (of_decide_eq_true c_31)⟩ (by show 61 - (a2 + 1) < 61 - x.1; omega) _ _ _ G hl
      · skip
        have c_31 : (decide (sgN tx ln a2 = 59)) = false := bI_f c_31
        have G : gW D (wM am cy th (cS mf mb mv) sv X ln a2 le2 fc2 g1 g2 (B) ha R) (va_A (wM am cy th (cS mf mb mv) sv X ln ap le fc f1 f2 (B) ha R) s.heap.size) s _ _ := g_wc (by rw [if_neg (of_decide_eq_false c_31)]) G
        obtain ⟨hwa, hwb⟩ := wk_f (f_s Q2 c_20 hm2 (of_decide_eq_false c_31)) ha2
        refine lv_iconst (v := 0) hx hb dX5_isWork_34 (by decide) ?_
        exact g_zret C0 G rfl ⟨_, _, _, _, by rw [← hwb]; rfl, by rw [← hwa]⟩ dX5_isWork_35
    · skip
      have c_20 : a2 = ln := (nI_eq (a := a2) (b := ln) (by omega) (by omega)).mp c_20
      obtain ⟨hwa, hwb⟩ := wk_t Q2 h68 c_20
      refine lv_iconst (v := 1) hx hb dX5_isWork_23 (by decide) ?_
      exact g_zret C0 G rfl ⟨_, _, _, _, by rw [← hwb]; rfl, by rw [← hwa]⟩ dX5_isWork_24

set_option maxHeartbeats 4000000 in
set_option maxRecDepth 100000 in
theorem c_X5_firstError (l : Launch) (D : va_G) (cy : Nat → ClassId) (am : Nat → Nat) (mf : Nat → Int64) (mb : Nat → Int64) (mv : Nat → Nat) (th : Int32) (sv : Nat) (X : Nat → Int32) (ln : Nat) (ap : Nat) (le : Nat) (fc : Nat) (f1 : Int32) (f2 : Int32) (ha : Int64) (R : va_W) (B : Nat → Int32) (tx : Nat → Nat) (q : RS) (h1 : ln ≤ 60) (hmx : ∀ j, j < ln → X j = nI (tx j) ∧ tx j < 128) (hq : rsOk q) (h0 : q.1 = 0) : GE l D (gts cy) yX5_firstError cX5_firstError 1 (some .int) 5 0 0 [.ref (am 0)] (wM am cy th (cS mf mb mv) sv X ln ap le fc f1 f2 (B) ha R) (fun r W2 => ∃ le2 : Nat, ∃ fc2 : Nat, ∃ g1 : Int32, ∃ g2 : Int32, r = some (.int (nI (ldN (rdOk tx q) ln))) ∧ W2 = wM am cy 0 (cS mf mb mv) sv X ln (ldN (rdOk tx q) ln) le2 fc2 g1 g2 (B) ha R) := by
  refine g_intro (by decide +kernel) (lv := [(0, .ref (am 0))]) rfl (Nat.le_of_ble_eq_true rfl) ?_
  intro p e s m below meth c C0 G ls hl
  have hx := C0.1
  have hb := C0.2.1
  have hown := C0.2.2.2.2.2.1
  have hts := C0.2.2.2.2.2.2.1
  refine lv_aload_n hx hb dX5_firstError_0 rfl (lv_at hl 0 rfl) ?_
  refine lv_iconst (v := 0) hx hb dX5_firstError_1 (by decide) ?_
  refine g_put (q0 := 0) (W2 := wM am cy 0 (cS mf mb mv) sv X ln ap le fc f1 f2 (B) ha R) C0 G ft_X5 in_X5 rfl rfl 0 (by decide) fl_X5_23 (fun _ h => h) rfl rfl rfl (Nat.le_of_ble_eq_true rfl) rfl dX5_firstError_2 (fun H locs G => ?_)
  refine lv_aload_n hx hb dX5_firstError_5 rfl (lv_at hl 0 rfl) ?_
  refine g_callV (As := []) (rest := []) (q0 := 0) C0 G (c_X5_isWork l D cy (am := am) (mf := mf) (mb := mb) (mv := mv) (th := 0) (sv := sv) (X := X) (ln := ln) (ap := ap) (le := le) (fc := fc) (f1 := f1) (f2 := f2) (ha := ha) (R := R) (B := B) (tx := tx) (q := q) (by omega) hmx hq (by omega)) k_X5_isWork ml_X5_175 rfl rfl dX5_firstError_6 rfl rfl hl.1 (Nat.le_of_ble_eq_true rfl) ⟨Nat.le_of_ble_eq_true rfl, Nat.le_of_ble_eq_true rfl⟩ ⟨Nat.le_of_ble_eq_true rfl, Nat.le_of_ble_eq_true rfl⟩ (fun r W2 H locs hp G => ?_)
  obtain ⟨le2, fc2, g1, g2, rfl, hw⟩ := hp
  have G := g_wc hw G
  refine W.eq (g2 := F0 m 9 ls [.int (bI (wkB tx q ln))]) rfl ?_
  refine lv_pop hx hb dX5_firstError_9 rfl ?_
  refine lv_aload_n hx hb dX5_firstError_10 rfl (lv_at hl 0 rfl) ?_
  refine g_get (q0 := 0) (v := .int (nI (ldN (rdOk tx q) ln))) C0 G in_X5 rfl rfl 5 (by decide) fl_X5_143 (fun _ h => h) rfl dX5_firstError_11 ?_
  exact g_iret C0 G ⟨le2, fc2, g1, g2, rfl, rfl⟩ dX5_firstError_14
