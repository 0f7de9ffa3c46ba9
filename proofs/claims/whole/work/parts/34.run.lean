set_option maxHeartbeats 4000000 in
set_option maxRecDepth 100000 in
theorem c_X5_run_e1 (l : Launch) (D : va_G) (cy : Nat → ClassId) (am : Nat → Nat) (mf : Nat → Int64) (mb : Nat → Int64) (mv : Nat → Nat) (th : Int32) (sv : Nat) (X : Nat → Int32) (ln : Nat) (ap : Nat) (le : Nat) (fc : Nat) (f1 : Int32) (f2 : Int32) (ha : Int64) (R : va_W) (B : Nat → Int32) (tx : Nat → Nat) (q : RS) (h1 : ln ≤ 60) (hmx : ∀ j, j < ln → X j = nI (tx j) ∧ tx j < 128) (hq : rsOk q) (h0 : q.1 = 0) (hwk : wkB tx q ln = false) : GE l D (gts cy) yX5_run cX5_run 2 (some .int) 5 0 0 [.ref (am 0)] (wM am cy th (cS mf mb mv) sv X ln ap le fc f1 f2 (B) ha R) (fun r W2 => ∃ ap2 : Nat, ∃ le2 : Nat, ∃ fc2 : Nat, ∃ g1 : Int32, ∃ g2 : Int32, r = some (.int (0)) ∧ W2 = wM am cy (nI 1) (cS mf mb mv) sv X ln ap2 le2 fc2 g1 g2 (B) ha R) := by
  refine g_intro (by decide +kernel) (lv := [(0, .ref (am 0))]) rfl (Nat.le_of_ble_eq_true rfl) ?_
  intro p e s m below meth c C0 G ls hl
  have hx := C0.1
  have hb := C0.2.1
  have hown := C0.2.2.2.2.2.1
  have hts := C0.2.2.2.2.2.2.1
  refine lv_aload_n hx hb dX5_run_0 rfl (lv_at hl 0 rfl) ?_
  refine lv_aload_n hx hb dX5_run_1 rfl (lv_at hl 0 rfl) ?_
  refine g_callV (As := []) (rest := [.ref (am 0)]) (q0 := 0) C0 G (c_X5_isWork l D cy (am := am) (mf := mf) (mb := mb) (mv := mv) (th := th) (sv := sv) (X := X) (ln := ln) (ap := ap) (le := le) (fc := fc) (f1 := f1) (f2 := f2) (ha := ha) (R := R) (B := B) (tx := tx) (q := q) (by omega) hmx hq (by omega)) k_X5_isWork ml_X5_175 rfl rfl dX5_run_2 rfl rfl hl.1 (Nat.le_of_ble_eq_true rfl) ⟨Nat.le_of_ble_eq_true rfl, Nat.le_of_ble_eq_true rfl⟩ ⟨Nat.le_of_ble_eq_true rfl, Nat.le_of_ble_eq_true rfl⟩ (fun r W2 H locs hp G => ?_)
  obtain ⟨le2, fc2, g1, g2, rfl, hw⟩ := hp
  have G := g_wc hw G
  refine W.eq (g2 := F0 m 5 ls [.int (bI (wkB tx q ln)), .ref (am 0)]) rfl ?_
  refine lv_if_eq (tgt := 12) hx hb dX5_run_5 (by decide) (fun c_5 => ?_) (fun c_5 => ?_)
  · skip
    have c_5 : (wkB tx q ln) = false := bI_f c_5
    refine lv_iconst (v := 1) hx hb dX5_run_12 (by decide) ?_
    refine g_callV (As := [.int 1]) (rest := []) (q0 := 0) C0 G (c_X5_holds l D cy (am := am) (mf := mf) (mb := mb) (mv := mv) (th := th) (sv := sv) (X := X) (ln := ln) (ap := (ldN (rdOk tx q) ln)) (le := le2) (fc := fc2) (f1 := g1) (f2 := g2) (ha := ha) (R := R) (B := B) (pl := 1) (by omega)) k_X5_holds ml_X5_92 rfl rfl dX5_run_13 rfl rfl hl.1 (Nat.le_of_ble_eq_true rfl) ⟨Nat.le_of_ble_eq_true rfl, Nat.le_of_ble_eq_true rfl⟩ ⟨Nat.le_of_ble_eq_true rfl, Nat.le_of_ble_eq_true rfl⟩ (fun r W2 H locs hp G => ?_)
    obtain ⟨rfl, hw⟩ := hp
    have G := g_wc hw G
    refine W.eq (g2 := F0 m 16 ls [.int (bI (decide (1 = 0)))]) rfl ?_
    refine lv_if_ne (tgt := 21) hx hb dX5_run_16 (by decide) (fun c_16 => ?_) (fun c_16 => ?_)
    · skip
      have c_16 : (decide (1 = 0)) = true := bI_t c_16
      exact absurd ((by decide) : (decide (1 = 0)) = false) (by rw [c_16]; decide)
    · skip
      have c_16 : (decide (1 = 0)) = false := bI_f c_16
      refine lv_iconst (v := 0) hx hb dX5_run_19 (by decide) ?_
      exact g_iret C0 G ⟨_, _, _, _, _, rfl, rfl⟩ dX5_run_20
  · skip
    have c_5 : (wkB tx q ln) = true := bI_t c_5
    exact absurd (hwk : (wkB tx q ln) = false) (by rw [c_5]; decide)

set_option maxHeartbeats 4000000 in
set_option maxRecDepth 100000 in
theorem c_X5_run_ok (l : Launch) (D : va_G) (cy : Nat → ClassId) (am : Nat → Nat) (mf : Nat → Int64) (mb : Nat → Int64) (mv : Nat → Nat) (th : Int32) (sv : Nat) (X : Nat → Int32) (ln : Nat) (ap : Nat) (le : Nat) (fc : Nat) (f1 : Int32) (f2 : Int32) (ha : Int64) (R : va_W) (B : Nat → Int32) (tx : Nat → Nat) (q : RS) (h1 : ln ≤ 60) (hmx : ∀ j, j < ln → X j = nI (tx j) ∧ tx j < 128) (hq : rsOk q) (h0 : q.1 = 0) (hwk : wkB tx q ln = true) (hsv : sv ≤ 6) : GE l D (gts cy) yX5_run cX5_run 2 (some .int) 5 0 0 [.ref (am 0)] (wM am cy th (cS mf mb mv) sv X ln ap le fc f1 f2 (B) ha R) (fun r W2 => ∃ ap2 : Nat, ∃ le2 : Nat, ∃ fc2 : Nat, ∃ g1 : Int32, ∃ g2 : Int32, r = some (.int (nI (dpS tx q ln (mSv mf sv 0) (mSv mb sv 0) (mSv mv sv 0) ln).2.2.2.1)) ∧ W2 = wM am cy (nI 0) (cS (va_up (mSv mf sv) 0 (dpS tx q ln (mSv mf sv 0) (mSv mb sv 0) (mSv mv sv 0) ln).1) (va_up (mSv mb sv) 0 (dpS tx q ln (mSv mf sv 0) (mSv mb sv 0) (mSv mv sv 0) ln).2.1) (va_up (mSv mv sv) 0 (dpS tx q ln (mSv mf sv 0) (mSv mb sv 0) (mSv mv sv 0) ln).2.2.1)) (saK sv) X 0 ap2 le2 fc2 g1 g2 (B) ha R) := by
  refine g_intro (by decide +kernel) (lv := [(0, .ref (am 0))]) rfl (Nat.le_of_ble_eq_true rfl) ?_
  intro p e s m below meth c C0 G ls hl
  have hx := C0.1
  have hb := C0.2.1
  have hown := C0.2.2.2.2.2.1
  have hts := C0.2.2.2.2.2.2.1
  refine lv_aload_n hx hb dX5_run_0 rfl (lv_at hl 0 rfl) ?_
  refine lv_aload_n hx hb dX5_run_1 rfl (lv_at hl 0 rfl) ?_
  refine g_callV (As := []) (rest := [.ref (am 0)]) (q0 := 0) C0 G (c_X5_isWork l D cy (am := am) (mf := mf) (mb := mb) (mv := mv) (th := th) (sv := sv) (X := X) (ln := ln) (ap := ap) (le := le) (fc := fc) (f1 := f1) (f2 := f2) (ha := ha) (R := R) (B := B) (tx := tx) (q := q) (by omega) hmx hq (by omega)) k_X5_isWork ml_X5_175 rfl rfl dX5_run_2 rfl rfl hl.1 (Nat.le_of_ble_eq_true rfl) ⟨Nat.le_of_ble_eq_true rfl, Nat.le_of_ble_eq_true rfl⟩ ⟨Nat.le_of_ble_eq_true rfl, Nat.le_of_ble_eq_true rfl⟩ (fun r W2 H locs hp G => ?_)
  obtain ⟨le2, fc2, g1, g2, rfl, hw⟩ := hp
  have G := g_wc hw G
  refine W.eq (g2 := F0 m 5 ls [.int (bI (wkB tx q ln)), .ref (am 0)]) rfl ?_
  refine lv_if_eq (tgt := 12) hx hb dX5_run_5 (by decide) (fun c_5 => ?_) (fun c_5 => ?_)
  · skip
    have c_5 : (wkB tx q ln) = false := bI_f c_5
    exact absurd (hwk : (wkB tx q ln) = true) (by rw [c_5]; decide)
  · skip
    have c_5 : (wkB tx q ln) = true := bI_t c_5
    refine lv_iconst (v := 0) hx hb dX5_run_8 (by decide) ?_
    refine lv_goto (tgt := 13) hx hb dX5_run_9 (by decide) ?_
    refine g_callV (As := [.int 0]) (rest := []) (q0 := 0) C0 G (c_X5_holds l D cy (am := am) (mf := mf) (mb := mb) (mv := mv) (th := th) (sv := sv) (X := X) (ln := ln) (ap := (ldN (rdOk tx q) ln)) (le := le2) (fc := fc2) (f1 := g1) (f2 := g2) (ha := ha) (R := R) (B := B) (pl := 0) (by omega)) k_X5_holds ml_X5_92 rfl rfl dX5_run_13 rfl rfl hl.1 (Nat.le_of_ble_eq_true rfl) ⟨Nat.le_of_ble_eq_true rfl, Nat.le_of_ble_eq_true rfl⟩ ⟨Nat.le_of_ble_eq_true rfl, Nat.le_of_ble_eq_true rfl⟩ (fun r W2 H locs hp G => ?_)
    obtain ⟨rfl, hw⟩ := hp
    have G := g_wc hw G
    refine W.eq (g2 := F0 m 16 ls [.int (bI (decide (0 = 0)))]) rfl ?_
    refine lv_if_ne (tgt := 21) hx hb dX5_run_16 (by decide) (fun c_16 => ?_) (fun c_16 => ?_)
    · skip
      have c_16 : (decide (0 = 0)) = true := bI_t c_16
      refine lv_aload_n hx hb dX5_run_21 rfl (lv_at hl 0 rfl) ?_
      refine g_callV (As := []) (rest := []) (q0 := 0) C0 G (c_X5_save l D cy (am := am) (mf := mf) (mb := mb) (mv := mv) (th := nI 0) (sv := sv) (X := X) (ln := ln) (ap := (ldN (rdOk tx q) ln)) (le := le2) (fc := fc2) (f1 := g1) (f2 := g2) (ha := ha) (R := R) (B := B)  (by omega)) k_X5_save ml_X5_95 rfl rfl dX5_run_22 rfl rfl hl.1 (Nat.le_of_ble_eq_true rfl) ⟨Nat.le_of_ble_eq_true rfl, Nat.le_of_ble_eq_true rfl⟩ ⟨Nat.le_of_ble_eq_true rfl, Nat.le_of_ble_eq_true rfl⟩ (fun r W2 H locs hp G => ?_)
      obtain ⟨rfl, hw⟩ := hp
      have G := g_wc hw G
      refine W.eq (g2 := F0 m 25 ls []) rfl ?_
      refine lv_aload_n hx hb dX5_run_25 rfl (lv_at hl 0 rfl) ?_
      refine lv_iconst (v := 0) hx hb dX5_run_26 (by decide) ?_
      refine g_put (q0 := 0) (W2 := wM am cy (nI 0) (cS (mSv mf sv) (mSv mb sv) (mSv mv sv)) (saK sv) X ln 0 le2 fc2 g1 g2 (B) ha R) C0 G ft_X5 in_X5 rfl rfl 5 (by decide) fl_X5_143 (fun _ h => h) rfl rfl rfl (Nat.le_of_ble_eq_true rfl) rfl dX5_run_27 (fun H locs G => ?_)
      refine lv_iconst (v := 0) hx hb dX5_run_30 (by decide) ?_
      refine lv_istore_n (lv' := [(1, .int 0), (0, .ref (am 0))]) hx hb dX5_run_31 rfl hl (by decide) rfl (fun ls hl => ?_)
      have hl := lv_sub hl (l' := [(0, .ref (am 0)), (1, .int 0)]) [1, 0] rfl
      refine g_loop (σ := (Nat × Nat × Nat × Int32 × Int32)) (fun x => 61 - x.1) (fun x => wM am cy (nI 0) (cS (va_up (mSv mf sv) 0 (dpS tx q ln (mSv mf sv 0) (mSv mb sv 0) (mSv mv sv 0) x.1).1) (va_up (mSv mb sv) 0 (dpS tx q ln (mSv mf sv 0) (mSv mb sv 0) (mSv mv sv 0) x.1).2.1) (va_up (mSv mv sv) 0 (dpS tx q ln (mSv mf sv 0) (mSv mb sv 0) (mSv mv sv 0) x.1).2.2.1)) (saK sv) X ln x.1 x.2.1 x.2.2.1 x.2.2.2.1 x.2.2.2.2 (B) ha R) (fun x => [(0, .ref (am 0)), (1, .int (nI ((dpS tx q ln (mSv mf sv 0) (mSv mb sv 0) (mSv mv sv 0) x.1).2.2.2.1)))]) (fun x => (dpS tx q ln (mSv mf sv 0) (mSv mb sv 0) (mSv mv sv 0) x.1).2.2.2.2.1 = false ∧ (x.1 = ln ∨ ∃ (l0 : Nat) (i0 : Bool) (r0 k0 n0 : Nat), rdQ tx q ln x.1 x.1 (0, l0, i0, r0, k0, n0))) ?_ (0, le2, fc2, g1, g2) ⟨rfl, Or.inr ⟨q.2.1, q.2.2.1, q.2.2.2.1, q.2.2.2.2.1, q.2.2.2.2.2, Nat.zero_le _, fun j hj => absurd hj (Nat.not_lt_zero _), rs_0 h0, Nat.le_refl _, fun j _ hj => absurd hj (Nat.not_lt_zero _)⟩⟩ (g_wc (by show _ = wM _ _ _ (cS (va_up (mSv mf sv) 0 (mSv mf sv 0)) (va_up (mSv mb sv) 0 (mSv mb sv 0)) (va_up (mSv mv sv) 0 (mSv mv sv 0))) _ _ _ _ _ _ _ _ _ _ _; rw [va_up_s, va_up_s, va_up_s]) G) hl
      intro x hi_32 ih_32 H locs ls G hl
      obtain ⟨hi1, hi2⟩ := hi_32
      have G : gW D (wM am cy (nI 0) (cS (va_up (mSv mf sv) 0 (dpS tx q ln (mSv mf sv 0) (mSv mb sv 0) (mSv mv sv 0) x.1).1) (va_up (mSv mb sv) 0 (dpS tx q ln (mSv mf sv 0) (mSv mb sv 0) (mSv mv sv 0) x.1).2.1) (va_up (mSv mv sv) 0 (dpS tx q ln (mSv mf sv 0) (mSv mb sv 0) (mSv mv sv 0) x.1).2.2.1)) (saK sv) X ln x.1 x.2.1 x.2.2.1 x.2.2.2.1 x.2.2.2.2 (B) ha R) (va_A (wM am cy th (cS mf mb mv) sv X ln ap le fc f1 f2 (B) ha R) s.heap.size) s H locs := G
      have hl : lv_has ls 2 [(0, .ref (am 0)), (1, .int (nI ((dpS tx q ln (mSv mf sv 0) (mSv mb sv 0) (mSv mv sv 0) x.1).2.2.2.1)))] := hl
      by_cases hend : x.1 = ln
      · skip
        refine lv_aload_n hx hb dX5_run_32 rfl (lv_at hl 0 rfl) ?_
        refine g_callV (As := []) (rest := []) (q0 := 0) C0 G (c_X5_readsPart_z l D cy (am := am) (mf := (va_up (mSv mf sv) 0 (dpS tx q ln (mSv mf sv 0) (mSv mb sv 0) (mSv mv sv 0) x.1).1)) (mb := (va_up (mSv mb sv) 0 (dpS tx q ln (mSv mf sv 0) (mSv mb sv 0) (mSv mv sv 0) x.1).2.1)) (mv := (va_up (mSv mv sv) 0 (dpS tx q ln (mSv mf sv 0) (mSv mb sv 0) (mSv mv sv 0) x.1).2.2.1)) (th := nI 0) (sv := saK sv) (X := X) (ln := ln) (ap := x.1) (le := x.2.1) (fc := x.2.2.1) (f1 := x.2.2.2.1) (f2 := x.2.2.2.2) (ha := ha) (R := R) (B := B) (tx := tx) (by omega) hmx hend) k_X5_readsPart ml_X5_172 rfl rfl dX5_run_33 rfl rfl hl.1 (Nat.le_of_ble_eq_true rfl) ⟨Nat.le_of_ble_eq_true rfl, Nat.le_of_ble_eq_true rfl⟩ ⟨Nat.le_of_ble_eq_true rfl, Nat.le_of_ble_eq_true rfl⟩ (fun r W2 H locs hp G => ?_)
        obtain ⟨rfl, hw⟩ := hp
        have G := g_wc hw G
        refine W.eq (g2 := F0 m 36 ls [.int (bI false)]) rfl ?_
        refine lv_if_eq (tgt := 59) hx hb dX5_run_36 (by decide) (fun c_36 => ?_) (fun c_36 => ?_)
        · skip
          have c_36 : false = false := bI_f c_36
          refine lv_aload_n hx hb dX5_run_59 rfl (lv_at hl 0 rfl) ?_
          refine lv_iconst (v := 0) hx hb dX5_run_60 (by decide) ?_
          refine g_put (q0 := 0) (W2 := wM am cy (nI 0) (cS (va_up (mSv mf sv) 0 (dpS tx q ln (mSv mf sv 0) (mSv mb sv 0) (mSv mv sv 0) x.1).1) (va_up (mSv mb sv) 0 (dpS tx q ln (mSv mf sv 0) (mSv mb sv 0) (mSv mv sv 0) x.1).2.1) (va_up (mSv mv sv) 0 (dpS tx q ln (mSv mf sv 0) (mSv mb sv 0) (mSv mv sv 0) x.1).2.2.1)) (saK sv) X 0 x.1 0 x.2.2.1 x.2.2.2.1 x.2.2.2.2 (B) ha R) C0 G ft_X5 in_X5 rfl rfl 4 (by decide) fl_X5_140 (fun _ h => h) rfl rfl rfl (Nat.le_of_ble_eq_true rfl) rfl dX5_run_61 (fun H locs G => ?_)
          refine lv_iload_n hx hb dX5_run_64 rfl (lv_at hl 1 rfl) ?_
          exact g_iret C0 G (by first | (rw [← hend]; exact ⟨_, _, _, _, _, rfl, rfl⟩) | (have hall := dp_all (f := mSv mf sv 0) (b := mSv mb sv 0) (v := mSv mv sv 0) (show (dpS tx q ln (mSv mf sv 0) (mSv mb sv 0) (mSv mv sv 0) a2).2.2.2.2.1 = true by rw [d5, c_43]; rfl) ha2; rw [hall, d1, d2, d3, d4, c_43]; refine ⟨a2, le2, fc2, g1, g2, rfl, ?_⟩; simp only [va_up_e, bx_uu])) dX5_run_65
        · skip
          have c_36 : false = true := bI_t c_36
          cases c_36
      · skip
        obtain ⟨l0, i0, r0, k0, n0, hQ0⟩ := hi2.resolve_left hend
        have hxl := hQ0.1
        refine lv_aload_n hx hb dX5_run_32 rfl (lv_at hl 0 rfl) ?_
        refine g_callV (As := []) (rest := []) (q0 := 0) C0 G (c_X5_readsPart l D cy (am := am) (mf := (va_up (mSv mf sv) 0 (dpS tx q ln (mSv mf sv 0) (mSv mb sv 0) (mSv mv sv 0) x.1).1)) (mb := (va_up (mSv mb sv) 0 (dpS tx q ln (mSv mf sv 0) (mSv mb sv 0) (mSv mv sv 0) x.1).2.1)) (mv := (va_up (mSv mv sv) 0 (dpS tx q ln (mSv mf sv 0) (mSv mb sv 0) (mSv mv sv 0) x.1).2.2.1)) (th := nI 0) (sv := saK sv) (X := X) (ln := ln) (ap := x.1) (le := x.2.1) (fc := x.2.2.1) (f1 := x.2.2.2.1) (f2 := x.2.2.2.2) (ha := ha) (R := R) (B := B) (tx := tx) (q := q) (l0 := l0) (i0 := i0) (r0 := r0) (k0 := k0) (n0 := n0) (by omega) hmx hQ0 hq) k_X5_readsPart ml_X5_172 rfl rfl dX5_run_33 rfl rfl hl.1 (Nat.le_of_ble_eq_true rfl) ⟨Nat.le_of_ble_eq_true rfl, Nat.le_of_ble_eq_true rfl⟩ ⟨Nat.le_of_ble_eq_true rfl, Nat.le_of_ble_eq_true rfl⟩ (fun r W2 H locs hp G => ?_)
        obtain ⟨a2, le2, fc2, g1, g2, o2, rfl, hw, ha2, ho2t, ho2f⟩ := hp
        have G := g_wc hw G
        refine W.eq (g2 := F0 m 36 ls [.int (bI o2)]) rfl ?_
        refine lv_if_eq (tgt := 59) hx hb dX5_run_36 (by decide) (fun c_36 => ?_) (fun c_36 => ?_)
        · skip
          have c_36 : o2 = false := bI_f c_36
          exact absurd (wk_part hwk ha2 ho2f) (by rw [c_36]; decide)
        · skip
          have c_36 : o2 = true := bI_t c_36
          obtain ⟨sp2, lt2, ib2, rw2, cl2, nu2, Q2, h68, hm2, hlt2, hV2⟩ := ho2t c_36
          obtain ⟨b1, b2, b3, b4⟩ := rq_b (fun j hj => (hmx j hj).2) hq h0 Q2 h68
          have he := wk_end hwk ha2 hm2
          obtain ⟨d1, d2, d3, d4, d5⟩ := dp_part (f := mSv mf sv 0) (b := mSv mb sv 0) (v := mSv mv sv 0) Q2 hlt2 hi1 he
          have hle := rdV_le hV2
          refine lv_aload_n hx hb dX5_run_39 rfl (lv_at hl 0 rfl) ?_
          refine g_callV (As := []) (rest := []) (q0 := 0) C0 G (c_X5_isDone l D cy (am := am) (mf := (va_up (mSv mf sv) 0 (dpS tx q ln (mSv mf sv 0) (mSv mb sv 0) (mSv mv sv 0) x.1).1)) (mb := (va_up (mSv mb sv) 0 (dpS tx q ln (mSv mf sv 0) (mSv mb sv 0) (mSv mv sv 0) x.1).2.1)) (mv := (va_up (mSv mv sv) 0 (dpS tx q ln (mSv mf sv 0) (mSv mb sv 0) (mSv mv sv 0) x.1).2.2.1)) (th := nI 0) (sv := saK sv) (X := X) (ln := ln) (ap := a2) (le := le2) (fc := fc2) (f1 := g1) (f2 := g2) (ha := ha) (R := R) (B := B) (lt := lt2) (ib := ib2) (rw := rw2) (cl := cl2) (nu := nu2) hV2 b1 b2 b3 b4 hle) k_X5_isDone ml_X5_178 rfl rfl dX5_run_40 rfl rfl hl.1 (Nat.le_of_ble_eq_true rfl) ⟨Nat.le_of_ble_eq_true rfl, Nat.le_of_ble_eq_true rfl⟩ ⟨Nat.le_of_ble_eq_true rfl, Nat.le_of_ble_eq_true rfl⟩ (fun r W2 H locs hp G => ?_)
          obtain ⟨rfl, hw⟩ := hp
          have G := g_wc hw G
          refine W.eq (g2 := F0 m 43 ls [.int (bI (tpO ((va_up (mSv mf sv) 0 (dpS tx q ln (mSv mf sv 0) (mSv mb sv 0) (mSv mv sv 0) x.1).1) 0) ((va_up (mSv mb sv) 0 (dpS tx q ln (mSv mf sv 0) (mSv mb sv 0) (mSv mv sv 0) x.1).2.1) 0) lt2 ib2 rw2 cl2))]) rfl ?_
          refine g_topi (x' := bI (tpO (dpS tx q ln (mSv mf sv 0) (mSv mb sv 0) (mSv mv sv 0) x.1).1 (dpS tx q ln (mSv mf sv 0) (mSv mb sv 0) (mSv mv sv 0) x.1).2.1 lt2 ib2 rw2 cl2)) (by rw [va_up_e, va_up_e]) ?_
          refine lv_if_eq (tgt := 59) hx hb dX5_run_43 (by decide) (fun c_43 => ?_) (fun c_43 => ?_)
          · skip
            have c_43 : (tpO (dpS tx q ln (mSv mf sv 0) (mSv mb sv 0) (mSv mv sv 0) x.1).1 (dpS tx q ln (mSv mf sv 0) (mSv mb sv 0) (mSv mv sv 0) x.1).2.1 lt2 ib2 rw2 cl2) = false := bI_f c_43
            refine lv_aload_n hx hb dX5_run_59 rfl (lv_at hl 0 rfl) ?_
            refine lv_iconst (v := 0) hx hb dX5_run_60 (by decide) ?_
            refine g_put (q0 := 0) (W2 := wM am cy (nI 0) (cS (va_up (va_up (mSv mf sv) 0 (dpS tx q ln (mSv mf sv 0) (mSv mb sv 0) (mSv mv sv 0) x.1).1) 0 (tpF ((va_up (mSv mf sv) 0 (dpS tx q ln (mSv mf sv 0) (mSv mb sv 0) (mSv mv sv 0) x.1).1) 0) ((va_up (mSv mb sv) 0 (dpS tx q ln (mSv mf sv 0) (mSv mb sv 0) (mSv mv sv 0) x.1).2.1) 0) lt2 ib2 rw2 cl2 nu2)) (va_up (va_up (mSv mb sv) 0 (dpS tx q ln (mSv mf sv 0) (mSv mb sv 0) (mSv mv sv 0) x.1).2.1) 0 (tpB ((va_up (mSv mf sv) 0 (dpS tx q ln (mSv mf sv 0) (mSv mb sv 0) (mSv mv sv 0) x.1).1) 0) ((va_up (mSv mb sv) 0 (dpS tx q ln (mSv mf sv 0) (mSv mb sv 0) (mSv mv sv 0) x.1).2.1) 0) lt2 ib2 rw2 cl2 nu2)) (va_up (va_up (mSv mv sv) 0 (dpS tx q ln (mSv mf sv 0) (mSv mb sv 0) (mSv mv sv 0) x.1).2.2.1) 0 (tpV ((va_up (mSv mv sv) 0 (dpS tx q ln (mSv mf sv 0) (mSv mb sv 0) (mSv mv sv 0) x.1).2.2.1) 0) lt2 nu2))) (saK sv) X 0 a2 le2 fc2 g1 g2 (B) ha R) C0 G ft_X5 in_X5 rfl rfl 4 (by decide) fl_X5_140 (fun _ h => h) rfl rfl rfl (Nat.le_of_ble_eq_true rfl) rfl dX5_run_61 (fun H locs G => ?_)
            refine lv_iload_n hx hb dX5_run_64 rfl (lv_at hl 1 rfl) ?_
            exact g_iret C0 G (by first | (rw [← hend]; exact ⟨_, _, _, _, _, rfl, rfl⟩) | (have hall := dp_all (f := mSv mf sv 0) (b := mSv mb sv 0) (v := mSv mv sv 0) (show (dpS tx q ln (mSv mf sv 0) (mSv mb sv 0) (mSv mv sv 0) a2).2.2.2.2.1 = true by rw [d5, c_43]; rfl) ha2; rw [hall, d1, d2, d3, d4, c_43]; refine ⟨a2, le2, fc2, g1, g2, rfl, ?_⟩; simp only [va_up_e, bx_uu])) dX5_run_65
          · skip
            have c_43 : (tpO (dpS tx q ln (mSv mf sv 0) (mSv mb sv 0) (mSv mv sv 0) x.1).1 (dpS tx q ln (mSv mf sv 0) (mSv mb sv 0) (mSv mv sv 0) x.1).2.1 lt2 ib2 rw2 cl2) = true := bI_t c_43
            refine lv_iinc (v := nI (((dpS tx q ln (mSv mf sv 0) (mSv mb sv 0) (mSv mv sv 0) x.1).2.2.2.1) + 1)) (lv' := [(1, .int (nI (((dpS tx q ln (mSv mf sv 0) (mSv mb sv 0) (mSv mv sv 0) x.1).2.2.2.1) + 1))), (0, .ref (am 0))]) hx hb dX5_run_46 hl (k := 1) rfl (nI_add ((dpS tx q ln (mSv mf sv 0) (mSv mb sv 0) (mSv mv sv 0) x.1).2.2.2.1) 1) (by decide) rfl (fun ls hl => ?_)
            refine lv_aload_n hx hb dX5_run_49 rfl (lv_at hl 1 rfl) ?_
            refine lv_bipush (v := 59) hx hb dX5_run_50 (by decide) ?_
            refine g_callV (As := [.int 59]) (rest := []) (q0 := 0) C0 G (c_X5_takes l D cy (am := am) (mf := (va_up (va_up (mSv mf sv) 0 (dpS tx q ln (mSv mf sv 0) (mSv mb sv 0) (mSv mv sv 0) x.1).1) 0 (tpF ((va_up (mSv mf sv) 0 (dpS tx q ln (mSv mf sv 0) (mSv mb sv 0) (mSv mv sv 0) x.1).1) 0) ((va_up (mSv mb sv) 0 (dpS tx q ln (mSv mf sv 0) (mSv mb sv 0) (mSv mv sv 0) x.1).2.1) 0) lt2 ib2 rw2 cl2 nu2))) (mb := (va_up (va_up (mSv mb sv) 0 (dpS tx q ln (mSv mf sv 0) (mSv mb sv 0) (mSv mv sv 0) x.1).2.1) 0 (tpB ((va_up (mSv mf sv) 0 (dpS tx q ln (mSv mf sv 0) (mSv mb sv 0) (mSv mv sv 0) x.1).1) 0) ((va_up (mSv mb sv) 0 (dpS tx q ln (mSv mf sv 0) (mSv mb sv 0) (mSv mv sv 0) x.1).2.1) 0) lt2 ib2 rw2 cl2 nu2))) (mv := (va_up (va_up (mSv mv sv) 0 (dpS tx q ln (mSv mf sv 0) (mSv mb sv 0) (mSv mv sv 0) x.1).2.2.1) 0 (tpV ((va_up (mSv mv sv) 0 (dpS tx q ln (mSv mf sv 0) (mSv mb sv 0) (mSv mv sv 0) x.1).2.2.1) 0) lt2 nu2))) (th := nI 0) (sv := saK sv) (X := X) (ln := ln) (ap := a2) (le := le2) (fc := fc2) (f1 := g1) (f2 := g2) (ha := ha) (R := R) (B := B) (sg := 59) (tx := tx) (by omega) (by omega) (by omega) hmx) k_X5_takes ml_X5_159 rfl rfl dX5_run_52 rfl rfl hl.1 (Nat.le_of_ble_eq_true rfl) ⟨Nat.le_of_ble_eq_true rfl, Nat.le_of_ble_eq_true rfl⟩ ⟨Nat.le_of_ble_eq_true rfl, Nat.le_of_ble_eq_true rfl⟩ (fun r W2 H locs hp G => ?_)
            obtain ⟨rfl, hw⟩ := hp
            have G := g_wc hw G
            refine W.eq (g2 := F0 m 55 ls [.int (bI (decide (sgN tx ln a2 = 59)))]) rfl ?_
            by_cases h59 : sgN tx ln a2 = 59
            · skip
              have G : gW D (wM am cy (nI 0) (cS (va_up (va_up (mSv mf sv) 0 (dpS tx q ln (mSv mf sv 0) (mSv mb sv 0) (mSv mv sv 0) x.1).1) 0 (tpF ((va_up (mSv mf sv) 0 (dpS tx q ln (mSv mf sv 0) (mSv mb sv 0) (mSv mv sv 0) x.1).1) 0) ((va_up (mSv mb sv) 0 (dpS tx q ln (mSv mf sv 0) (mSv mb sv 0) (mSv mv sv 0) x.1).2.1) 0) lt2 ib2 rw2 cl2 nu2)) (va_up (va_up (mSv mb sv) 0 (dpS tx q ln (mSv mf sv 0) (mSv mb sv 0) (mSv mv sv 0) x.1).2.1) 0 (tpB ((va_up (mSv mf sv) 0 (dpS tx q ln (mSv mf sv 0) (mSv mb sv 0) (mSv mv sv 0) x.1).1) 0) ((va_up (mSv mb sv) 0 (dpS tx q ln (mSv mf sv 0) (mSv mb sv 0) (mSv mv sv 0) x.1).2.1) 0) lt2 ib2 rw2 cl2 nu2)) (va_up (va_up (mSv mv sv) 0 (dpS tx q ln (mSv mf sv 0) (mSv mb sv 0) (mSv mv sv 0) x.1).2.2.1) 0 (tpV ((va_up (mSv mv sv) 0 (dpS tx q ln (mSv mf sv 0) (mSv mb sv 0) (mSv mv sv 0) x.1).2.2.1) 0) lt2 nu2))) (saK sv) X ln (a2 + 1) le2 fc2 g1 g2 (B) ha R) (va_A (wM am cy th (cS mf mb mv) sv X ln ap le fc f1 f2 (B) ha R) s.heap.size) s _ _ := g_wc (by rw [if_pos h59]) G
              have Q3 := q_s Q2 h68 h59
              obtain ⟨s1, s2, s3, s4, s5, s6⟩ := dp_sep (f := mSv mf sv 0) (b := mSv mb sv 0) (v := mSv mv sv 0) hwk Q3 (by rw [d5, c_43]; rfl)
              refine lv_pop hx hb dX5_run_55 rfl ?_
              refine lv_goto (tgt := 32) hx hb dX5_run_56 (by decide) ?_
              have hl := lv_sub hl (l' := _) [1, 0] rfl
              exact ih_32 (a2 + 1, le2, fc2, g1, g2) ⟨s6, Or.inr ⟨lt2, ib2, rw2, cl2, nu2, Q3⟩⟩ (by show 61 - (a2 + 1) < 61 - x.1; omega) _ _ _ (g_wc (by show _ = wM am cy (nI 0) (cS (va_up (mSv mf sv) 0 (dpS tx q ln (mSv mf sv 0) (mSv mb sv 0) (mSv mv sv 0) (a2 + 1)).1) (va_up (mSv mb sv) 0 (dpS tx q ln (mSv mf sv 0) (mSv mb sv 0) (mSv mv sv 0) (a2 + 1)).2.1) (va_up (mSv mv sv) 0 (dpS tx q ln (mSv mf sv 0) (mSv mb sv 0) (mSv mv sv 0) (a2 + 1)).2.2.1)) (saK sv) X ln (a2 + 1) le2 fc2 g1 g2 (B) ha R; rw [s2, s3, s4, d1, d2, d3]; simp only [va_up_e, bx_uu]) G) (by show lv_has _ _ [(0, Value.ref (am 0)), (1, Value.int (nI (dpS tx q ln (mSv mf sv 0) (mSv mb sv 0) (mSv mv sv 0) (a2 + 1)).2.2.2.1))]; rw [s5, d4, c_43, if_pos rfl]; exact hl)
            · skip
              have G : gW D (wM am cy (nI 0) (cS (va_up (va_up (mSv mf sv) 0 (dpS tx q ln (mSv mf sv 0) (mSv mb sv 0) (mSv mv sv 0) x.1).1) 0 (tpF ((va_up (mSv mf sv) 0 (dpS tx q ln (mSv mf sv 0) (mSv mb sv 0) (mSv mv sv 0) x.1).1) 0) ((va_up (mSv mb sv) 0 (dpS tx q ln (mSv mf sv 0) (mSv mb sv 0) (mSv mv sv 0) x.1).2.1) 0) lt2 ib2 rw2 cl2 nu2)) (va_up (va_up (mSv mb sv) 0 (dpS tx q ln (mSv mf sv 0) (mSv mb sv 0) (mSv mv sv 0) x.1).2.1) 0 (tpB ((va_up (mSv mf sv) 0 (dpS tx q ln (mSv mf sv 0) (mSv mb sv 0) (mSv mv sv 0) x.1).1) 0) ((va_up (mSv mb sv) 0 (dpS tx q ln (mSv mf sv 0) (mSv mb sv 0) (mSv mv sv 0) x.1).2.1) 0) lt2 ib2 rw2 cl2 nu2)) (va_up (va_up (mSv mv sv) 0 (dpS tx q ln (mSv mf sv 0) (mSv mb sv 0) (mSv mv sv 0) x.1).2.2.1) 0 (tpV ((va_up (mSv mv sv) 0 (dpS tx q ln (mSv mf sv 0) (mSv mb sv 0) (mSv mv sv 0) x.1).2.2.1) 0) lt2 nu2))) (saK sv) X ln a2 le2 fc2 g1 g2 (B) ha R) (va_A (wM am cy th (cS mf mb mv) sv X ln ap le fc f1 f2 (B) ha R) s.heap.size) s _ _ := g_wc (by rw [if_neg h59]) G
              have hae := wk_sg he ha2 h59
              refine lv_pop hx hb dX5_run_55 rfl ?_
              refine lv_goto (tgt := 32) hx hb dX5_run_56 (by decide) ?_
              have hl := lv_sub hl (l' := _) [1, 0] rfl
              exact ih_32 (a2, le2, fc2, g1, g2) ⟨by show (dpS tx q ln (mSv mf sv 0) (mSv mb sv 0) (mSv mv sv 0) a2).2.2.2.2.1 = false; rw [d5, c_43]; rfl, Or.inl hae⟩ (by show 61 - a2 < 61 - x.1; omega) _ _ _ (g_wc (by show _ = wM am cy (nI 0) (cS (va_up (mSv mf sv) 0 (dpS tx q ln (mSv mf sv 0) (mSv mb sv 0) (mSv mv sv 0) a2).1) (va_up (mSv mb sv) 0 (dpS tx q ln (mSv mf sv 0) (mSv mb sv 0) (mSv mv sv 0) a2).2.1) (va_up (mSv mv sv) 0 (dpS tx q ln (mSv mf sv 0) (mSv mb sv 0) (mSv mv sv 0) a2).2.2.1)) (saK sv) X ln a2 le2 fc2 g1 g2 (B) ha R; rw [d1, d2, d3]; simp only [va_up_e, bx_uu]) G) (by show lv_has _ _ [(0, Value.ref (am 0)), (1, Value.int (nI (dpS tx q ln (mSv mf sv 0) (mSv mb sv 0) (mSv mv sv 0) a2).2.2.2.1))]; rw [d4, c_43, if_pos rfl]; exact hl)
    · skip
      have c_16 : (decide (0 = 0)) = false := bI_f c_16
      exact absurd ((by decide) : (decide (0 = 0)) = true) (by rw [c_16]; decide)

set_option maxHeartbeats 4000000 in
set_option maxRecDepth 100000 in
theorem c_X5_append_ok (l : Launch) (D : va_G) (cy : Nat → ClassId) (am : Nat → Nat) (mf : Nat → Int64) (mb : Nat → Int64) (mv : Nat → Nat) (th : Int32) (sv : Nat) (X : Nat → Int32) (ln : Nat) (ap : Nat) (le : Nat) (fc : Nat) (f1 : Int32) (f2 : Int32) (ha : Int64) (R : va_W) (B : Nat → Int32) (u : Nat) (h1 : 33 ≤ u) (h2 : u ≤ 126) (h3 : ln < 60) (hic : inB (nI u) (33 : Int32) (126 : Int32) = true) : GE l D (gts cy) yX5_append cX5_append 2 (some .int) 1 0 0 [.ref (am 0), .int (nI u)] (wM am cy th (cS mf mb mv) sv X ln ap le fc f1 f2 (B) ha R) (gF (some (.int (nI (ln + 1)))) (wM am cy (nI 0) (cS mf mb mv) sv (upd X ln (nI u)) (ln + 1) ap le fc f1 f2 (B) ha R)) := by
  refine g_intro (by decide +kernel) (lv := [(0, .ref (am 0)), (1, .int (nI u))]) rfl (Nat.le_of_ble_eq_true rfl) ?_
  intro p e s m below meth c C0 G ls hl
  have hx := C0.1
  have hb := C0.2.1
  have hown := C0.2.2.2.2.2.1
  have hts := C0.2.2.2.2.2.2.1
  refine lv_aload_n hx hb dX5_append_0 rfl (lv_at hl 0 rfl) ?_
  refine lv_iload_n hx hb dX5_append_1 rfl (lv_at hl 1 rfl) ?_
  refine lv_bipush (v := 33) hx hb dX5_append_2 (by decide) ?_
  refine lv_bipush (v := 126) hx hb dX5_append_4 (by decide) ?_
  refine g_callS (As := [.int (nI u), .int 33, .int 126]) (rest := [.ref (am 0)]) C0 G (c_X5_in l D cy (W1 := wM am cy th (cS mf mb mv) sv X ln ap le fc f1 f2 (B) ha R) (u := nI u) (lo := (33 : Int32)) (hi := (126 : Int32)) ) k_X5_in ml_X5_27 dX5_append_6 rfl rfl hl.1 (Nat.le_of_ble_eq_true rfl) ⟨Nat.le_of_ble_eq_true rfl, Nat.le_of_ble_eq_true rfl⟩ ⟨Nat.le_of_ble_eq_true rfl, Nat.le_of_ble_eq_true rfl⟩ (fun r W2 H locs hp G => ?_)
  obtain ⟨rfl, hw⟩ := hp
  have G := g_wc hw G
  refine W.eq (g2 := F0 m 9 ls [.int (bI (inB (nI u) (33 : Int32) (126 : Int32))), .ref (am 0)]) rfl ?_
  refine lv_if_ne (tgt := 16) hx hb dX5_append_9 (by decide) (fun c_9 => ?_) (fun c_9 => ?_)
  · skip
    have c_9 : (inB (nI u) (33 : Int32) (126 : Int32)) = true := bI_t c_9
    refine lv_aload_n hx hb dX5_append_16 rfl (lv_at hl 0 rfl) ?_
    refine g_get (q0 := 0) (v := .int (nI ln)) C0 G in_X5 rfl rfl 4 (by decide) fl_X5_140 (fun _ h => h) rfl dX5_append_17 ?_
    refine lv_bipush (v := 60) hx hb dX5_append_20 (by decide) ?_
    refine lv_icmp_ne (tgt := 29) hx hb dX5_append_22 (by decide) (fun c_22 => ?_) (fun c_22 => ?_)
    · skip
      have c_22 : ¬ (ln = 60) := fun h => c_22 ((nI_eq (a := ln) (b := 60) (by omega) (by omega)).mpr h)
      refine lv_iconst (v := 0) hx hb dX5_append_29 (by decide) ?_
      refine g_callV (As := [.int 0]) (rest := []) (q0 := 0) C0 G (c_X5_holds l D cy (am := am) (mf := mf) (mb := mb) (mv := mv) (th := th) (sv := sv) (X := X) (ln := ln) (ap := ap) (le := le) (fc := fc) (f1 := f1) (f2 := f2) (ha := ha) (R := R) (B := B) (pl := 0) (by omega)) k_X5_holds ml_X5_92 rfl rfl dX5_append_30 rfl rfl hl.1 (Nat.le_of_ble_eq_true rfl) ⟨Nat.le_of_ble_eq_true rfl, Nat.le_of_ble_eq_true rfl⟩ ⟨Nat.le_of_ble_eq_true rfl, Nat.le_of_ble_eq_true rfl⟩ (fun r W2 H locs hp G => ?_)
      obtain ⟨rfl, hw⟩ := hp
      have G := g_wc hw G
      refine W.eq (g2 := F0 m 33 ls [.int (bI (decide (0 = 0)))]) rfl ?_
      refine lv_if_ne (tgt := 38) hx hb dX5_append_33 (by decide) (fun c_33 => ?_) (fun c_33 => ?_)
      · skip
        have c_33 : (decide (0 = 0)) = true := bI_t c_33
        refine lv_aload_n hx hb dX5_append_38 rfl (lv_at hl 0 rfl) ?_
        refine g_get (q0 := 0) (v := .ref (am 2)) C0 G in_X5 rfl rfl 3 (by decide) fl_X5_13 (fun _ h => h) rfl dX5_append_39 ?_
        refine lv_aload_n hx hb dX5_append_42 rfl (lv_at hl 0 rfl) ?_
        refine g_get (q0 := 0) (v := .int (nI ln)) C0 G in_X5 rfl rfl 4 (by decide) fl_X5_140 (fun _ h => h) rfl dX5_append_43 ?_
        refine lv_iload_n hx hb dX5_append_46 rfl (lv_at hl 1 rfl) ?_
        refine g_iast (q0 := 2) (n := 60) (W2 := wM am cy (nI 0) (cS mf mb mv) sv (upd X ln (nI u)) ln ap le fc f1 f2 (B) ha R) C0 G rfl 1 rfl (vp_in_nI (n := ln) (by omega) (by decide)) (by rw [nI_clamp (n := ln) (by omega)]; rfl) dX5_append_47 (fun H locs G => ?_)
        refine lv_aload_n hx hb dX5_append_48 rfl (lv_at hl 0 rfl) ?_
        refine lv_dup hx hb dX5_append_49 rfl ?_
        refine g_get (q0 := 0) (v := .int (nI ln)) C0 G in_X5 rfl rfl 4 (by decide) fl_X5_140 (fun _ h => h) rfl dX5_append_50 ?_
        refine lv_iconst (v := 1) hx hb dX5_append_53 (by decide) ?_
        refine lv_iadd hx hb dX5_append_54 ?_
        refine g_topi (x' := nI (ln + 1)) (nI_add ln 1) ?_
        refine g_put (q0 := 0) (W2 := wM am cy (nI 0) (cS mf mb mv) sv (upd X ln (nI u)) (ln + 1) ap le fc f1 f2 (B) ha R) C0 G ft_X5 in_X5 rfl rfl 4 (by decide) fl_X5_140 (fun _ h => h) rfl rfl rfl (Nat.le_of_ble_eq_true rfl) rfl dX5_append_55 (fun H locs G => ?_)
        refine lv_aload_n hx hb dX5_append_58 rfl (lv_at hl 0 rfl) ?_
        refine g_get (q0 := 0) (v := .int (nI (ln + 1))) C0 G in_X5 rfl rfl 4 (by decide) fl_X5_140 (fun _ h => h) rfl dX5_append_59 ?_
        exact g_iret C0 G ⟨by first | rfl | (exfalso; omega) | (simp only [c_9, c_22, c_33, Bool.false_eq_true, ↓reduceIte, eq_self, decide_true, decide_false, not_true_eq_false, not_false_eq_true, Bool.true_and, Bool.false_and, Bool.and_true, Bool.and_false]; done) | (simp [c_9, c_22, c_33]; done) | (simp [c_9, c_22, c_33]; rfl) | (simp [c_9, c_22, c_33]; omega), by first | rfl | (exfalso; omega) | (simp only [c_9, c_22, c_33, Bool.false_eq_true, ↓reduceIte, eq_self, decide_true, decide_false, not_true_eq_false, not_false_eq_true, Bool.true_and, Bool.false_and, Bool.and_true, Bool.and_false]; done) | (simp [c_9, c_22, c_33]; done) | (simp [c_9, c_22, c_33]; rfl) | (simp [c_9, c_22, c_33]; omega)⟩ dX5_append_62
      · skip
        have c_33 : (decide (0 = 0)) = false := bI_f c_33
        exact absurd ((by decide) : (decide (0 = 0)) = true) (by rw [c_33]; decide)
    · skip
      have c_22 : ln = 60 := (nI_eq (a := ln) (b := 60) (by omega) (by omega)).mp c_22
      exact absurd c_22 (by omega)
  · skip
    have c_9 : (inB (nI u) (33 : Int32) (126 : Int32)) = false := bI_f c_9
    exact absurd (hic : (inB (nI u) (33 : Int32) (126 : Int32)) = true) (by rw [c_9]; decide)

set_option maxHeartbeats 4000000 in
set_option maxRecDepth 100000 in
theorem c_X5_append_e1 (l : Launch) (D : va_G) (cy : Nat → ClassId) (am : Nat → Nat) (mf : Nat → Int64) (mb : Nat → Int64) (mv : Nat → Nat) (th : Int32) (sv : Nat) (X : Nat → Int32) (ln : Nat) (ap : Nat) (le : Nat) (fc : Nat) (f1 : Int32) (f2 : Int32) (ha : Int64) (R : va_W) (B : Nat → Int32) (p0 : Int32) (hic : inB p0 (33 : Int32) (126 : Int32) = false) : GE l D (gts cy) yX5_append cX5_append 2 (some .int) 1 0 0 [.ref (am 0), .int p0] (wM am cy th (cS mf mb mv) sv X ln ap le fc f1 f2 (B) ha R) (gF (some (.int 0)) (wM am cy (nI 1) (cS mf mb mv) sv X ln ap le fc f1 f2 (B) ha R)) := by
  refine g_intro (by decide +kernel) (lv := [(0, .ref (am 0)), (1, .int p0)]) rfl (Nat.le_of_ble_eq_true rfl) ?_
  intro p e s m below meth c C0 G ls hl
  have hx := C0.1
  have hb := C0.2.1
  have hown := C0.2.2.2.2.2.1
  have hts := C0.2.2.2.2.2.2.1
  refine lv_aload_n hx hb dX5_append_0 rfl (lv_at hl 0 rfl) ?_
  refine lv_iload_n hx hb dX5_append_1 rfl (lv_at hl 1 rfl) ?_
  refine lv_bipush (v := 33) hx hb dX5_append_2 (by decide) ?_
  refine lv_bipush (v := 126) hx hb dX5_append_4 (by decide) ?_
  refine g_callS (As := [.int p0, .int 33, .int 126]) (rest := [.ref (am 0)]) C0 G (c_X5_in l D cy (W1 := wM am cy th (cS mf mb mv) sv X ln ap le fc f1 f2 (B) ha R) (u := p0) (lo := (33 : Int32)) (hi := (126 : Int32)) ) k_X5_in ml_X5_27 dX5_append_6 rfl rfl hl.1 (Nat.le_of_ble_eq_true rfl) ⟨Nat.le_of_ble_eq_true rfl, Nat.le_of_ble_eq_true rfl⟩ ⟨Nat.le_of_ble_eq_true rfl, Nat.le_of_ble_eq_true rfl⟩ (fun r W2 H locs hp G => ?_)
  obtain ⟨rfl, hw⟩ := hp
  have G := g_wc hw G
  refine W.eq (g2 := F0 m 9 ls [.int (bI (inB p0 (33 : Int32) (126 : Int32))), .ref (am 0)]) rfl ?_
  refine lv_if_ne (tgt := 16) hx hb dX5_append_9 (by decide) (fun c_9 => ?_) (fun c_9 => ?_)
  · skip
    have c_9 : (inB p0 (33 : Int32) (126 : Int32)) = true := bI_t c_9
    exact absurd (hic : (inB p0 (33 : Int32) (126 : Int32)) = false) (by rw [c_9]; decide)
  · skip
    have c_9 : (inB p0 (33 : Int32) (126 : Int32)) = false := bI_f c_9
    refine lv_iconst (v := 1) hx hb dX5_append_12 (by decide) ?_
    refine lv_goto (tgt := 30) hx hb dX5_append_13 (by decide) ?_
    refine g_callV (As := [.int 1]) (rest := []) (q0 := 0) C0 G (c_X5_holds l D cy (am := am) (mf := mf) (mb := mb) (mv := mv) (th := th) (sv := sv) (X := X) (ln := ln) (ap := ap) (le := le) (fc := fc) (f1 := f1) (f2 := f2) (ha := ha) (R := R) (B := B) (pl := 1) (by omega)) k_X5_holds ml_X5_92 rfl rfl dX5_append_30 rfl rfl hl.1 (Nat.le_of_ble_eq_true rfl) ⟨Nat.le_of_ble_eq_true rfl, Nat.le_of_ble_eq_true rfl⟩ ⟨Nat.le_of_ble_eq_true rfl, Nat.le_of_ble_eq_true rfl⟩ (fun r W2 H locs hp G => ?_)
    obtain ⟨rfl, hw⟩ := hp
    have G := g_wc hw G
    refine W.eq (g2 := F0 m 33 ls [.int (bI (decide (1 = 0)))]) rfl ?_
    refine lv_if_ne (tgt := 38) hx hb dX5_append_33 (by decide) (fun c_33 => ?_) (fun c_33 => ?_)
    · skip
      have c_33 : (decide (1 = 0)) = true := bI_t c_33
      exact absurd ((by decide) : (decide (1 = 0)) = false) (by rw [c_33]; decide)
    · skip
      have c_33 : (decide (1 = 0)) = false := bI_f c_33
      refine lv_iconst (v := 0) hx hb dX5_append_36 (by decide) ?_
      exact g_iret C0 G ⟨by first | rfl | (exfalso; omega) | (simp only [c_9, c_33, Bool.false_eq_true, ↓reduceIte, eq_self, decide_true, decide_false, not_true_eq_false, not_false_eq_true, Bool.true_and, Bool.false_and, Bool.and_true, Bool.and_false]; done) | (simp [c_9, c_33]; done) | (simp [c_9, c_33]; rfl) | (simp [c_9, c_33]; omega), by first | rfl | (exfalso; omega) | (simp only [c_9, c_33, Bool.false_eq_true, ↓reduceIte, eq_self, decide_true, decide_false, not_true_eq_false, not_false_eq_true, Bool.true_and, Bool.false_and, Bool.and_true, Bool.and_false]; done) | (simp [c_9, c_33]; done) | (simp [c_9, c_33]; rfl) | (simp [c_9, c_33]; omega)⟩ dX5_append_37

set_option maxHeartbeats 4000000 in
set_option maxRecDepth 100000 in
theorem c_X5_append_e2 (l : Launch) (D : va_G) (cy : Nat → ClassId) (am : Nat → Nat) (mf : Nat → Int64) (mb : Nat → Int64) (mv : Nat → Nat) (th : Int32) (sv : Nat) (X : Nat → Int32) (ln : Nat) (ap : Nat) (le : Nat) (fc : Nat) (f1 : Int32) (f2 : Int32) (ha : Int64) (R : va_W) (B : Nat → Int32) (u : Nat) (h1 : 33 ≤ u) (h2 : u ≤ 126) (h3 : ln = 60) (hic : inB (nI u) (33 : Int32) (126 : Int32) = true) : GE l D (gts cy) yX5_append cX5_append 2 (some .int) 1 0 0 [.ref (am 0), .int (nI u)] (wM am cy th (cS mf mb mv) sv X ln ap le fc f1 f2 (B) ha R) (gF (some (.int 0)) (wM am cy (nI 2) (cS mf mb mv) sv X ln ap le fc f1 f2 (B) ha R)) := by
  refine g_intro (by decide +kernel) (lv := [(0, .ref (am 0)), (1, .int (nI u))]) rfl (Nat.le_of_ble_eq_true rfl) ?_
  intro p e s m below meth c C0 G ls hl
  have hx := C0.1
  have hb := C0.2.1
  have hown := C0.2.2.2.2.2.1
  have hts := C0.2.2.2.2.2.2.1
  refine lv_aload_n hx hb dX5_append_0 rfl (lv_at hl 0 rfl) ?_
  refine lv_iload_n hx hb dX5_append_1 rfl (lv_at hl 1 rfl) ?_
  refine lv_bipush (v := 33) hx hb dX5_append_2 (by decide) ?_
  refine lv_bipush (v := 126) hx hb dX5_append_4 (by decide) ?_
  refine g_callS (As := [.int (nI u), .int 33, .int 126]) (rest := [.ref (am 0)]) C0 G (c_X5_in l D cy (W1 := wM am cy th (cS mf mb mv) sv X ln ap le fc f1 f2 (B) ha R) (u := nI u) (lo := (33 : Int32)) (hi := (126 : Int32)) ) k_X5_in ml_X5_27 dX5_append_6 rfl rfl hl.1 (Nat.le_of_ble_eq_true rfl) ⟨Nat.le_of_ble_eq_true rfl, Nat.le_of_ble_eq_true rfl⟩ ⟨Nat.le_of_ble_eq_true rfl, Nat.le_of_ble_eq_true rfl⟩ (fun r W2 H locs hp G => ?_)
  obtain ⟨rfl, hw⟩ := hp
  have G := g_wc hw G
  refine W.eq (g2 := F0 m 9 ls [.int (bI (inB (nI u) (33 : Int32) (126 : Int32))), .ref (am 0)]) rfl ?_
  refine lv_if_ne (tgt := 16) hx hb dX5_append_9 (by decide) (fun c_9 => ?_) (fun c_9 => ?_)
  · skip
    have c_9 : (inB (nI u) (33 : Int32) (126 : Int32)) = true := bI_t c_9
    refine lv_aload_n hx hb dX5_append_16 rfl (lv_at hl 0 rfl) ?_
    refine g_get (q0 := 0) (v := .int (nI ln)) C0 G in_X5 rfl rfl 4 (by decide) fl_X5_140 (fun _ h => h) rfl dX5_append_17 ?_
    refine lv_bipush (v := 60) hx hb dX5_append_20 (by decide) ?_
    refine lv_icmp_ne (tgt := 29) hx hb dX5_append_22 (by decide) (fun c_22 => ?_) (fun c_22 => ?_)
    · skip
      have c_22 : ¬ (ln = 60) := fun h => c_22 ((nI_eq (a := ln) (b := 60) (by omega) (by omega)).mpr h)
      exact absurd h3 c_22
    · skip
      have c_22 : ln = 60 := (nI_eq (a := ln) (b := 60) (by omega) (by omega)).mp c_22
      refine lv_iconst (v := 2) hx hb dX5_append_25 (by decide) ?_
      refine lv_goto (tgt := 30) hx hb dX5_append_26 (by decide) ?_
      refine g_callV (As := [.int 2]) (rest := []) (q0 := 0) C0 G (c_X5_holds l D cy (am := am) (mf := mf) (mb := mb) (mv := mv) (th := th) (sv := sv) (X := X) (ln := ln) (ap := ap) (le := le) (fc := fc) (f1 := f1) (f2 := f2) (ha := ha) (R := R) (B := B) (pl := 2) (by omega)) k_X5_holds ml_X5_92 rfl rfl dX5_append_30 rfl rfl hl.1 (Nat.le_of_ble_eq_true rfl) ⟨Nat.le_of_ble_eq_true rfl, Nat.le_of_ble_eq_true rfl⟩ ⟨Nat.le_of_ble_eq_true rfl, Nat.le_of_ble_eq_true rfl⟩ (fun r W2 H locs hp G => ?_)
      obtain ⟨rfl, hw⟩ := hp
      have G := g_wc hw G
      refine W.eq (g2 := F0 m 33 ls [.int (bI (decide (2 = 0)))]) rfl ?_
      refine lv_if_ne (tgt := 38) hx hb dX5_append_33 (by decide) (fun c_33 => ?_) (fun c_33 => ?_)
      · skip
        have c_33 : (decide (2 = 0)) = true := bI_t c_33
        exact absurd ((by decide) : (decide (2 = 0)) = false) (by rw [c_33]; decide)
      · skip
        have c_33 : (decide (2 = 0)) = false := bI_f c_33
        refine lv_iconst (v := 0) hx hb dX5_append_36 (by decide) ?_
        exact g_iret C0 G ⟨by first | rfl | (exfalso; omega) | (simp only [c_9, c_22, c_33, Bool.false_eq_true, ↓reduceIte, eq_self, decide_true, decide_false, not_true_eq_false, not_false_eq_true, Bool.true_and, Bool.false_and, Bool.and_true, Bool.and_false]; done) | (simp [c_9, c_22, c_33]; done) | (simp [c_9, c_22, c_33]; rfl) | (simp [c_9, c_22, c_33]; omega), by first | rfl | (exfalso; omega) | (simp only [c_9, c_22, c_33, Bool.false_eq_true, ↓reduceIte, eq_self, decide_true, decide_false, not_true_eq_false, not_false_eq_true, Bool.true_and, Bool.false_and, Bool.and_true, Bool.and_false]; done) | (simp [c_9, c_22, c_33]; done) | (simp [c_9, c_22, c_33]; rfl) | (simp [c_9, c_22, c_33]; omega)⟩ dX5_append_37
  · skip
    have c_9 : (inB (nI u) (33 : Int32) (126 : Int32)) = false := bI_f c_9
    exact absurd (hic : (inB (nI u) (33 : Int32) (126 : Int32)) = true) (by rw [c_9]; decide)

set_option maxHeartbeats 4000000 in
set_option maxRecDepth 100000 in
theorem c_X5_clearText_ok (l : Launch) (D : va_G) (cy : Nat → ClassId) (am : Nat → Nat) (mf : Nat → Int64) (mb : Nat → Int64) (mv : Nat → Nat) (th : Int32) (sv : Nat) (X : Nat → Int32) (ln : Nat) (ap : Nat) (le : Nat) (fc : Nat) (f1 : Int32) (f2 : Int32) (ha : Int64) (R : va_W) (B : Nat → Int32)   : GE l D (gts cy) yX5_clearText cX5_clearText 2 (some .int) 0 0 0 [.ref (am 0)] (wM am cy th (cS mf mb mv) sv X ln ap le fc f1 f2 (B) ha R) (gF (some (.int (nI ln))) (wM am cy 0 (cS mf mb mv) sv X 0 ap le fc f1 f2 (B) ha R)) := by
  refine g_intro (by decide +kernel) (lv := [(0, .ref (am 0))]) rfl (Nat.le_of_ble_eq_true rfl) ?_
  intro p e s m below meth c C0 G ls hl
  have hx := C0.1
  have hb := C0.2.1
  have hown := C0.2.2.2.2.2.1
  have hts := C0.2.2.2.2.2.2.1
  refine lv_aload_n hx hb dX5_clearText_0 rfl (lv_at hl 0 rfl) ?_
  refine lv_iconst (v := 0) hx hb dX5_clearText_1 (by decide) ?_
  refine g_put (q0 := 0) (W2 := wM am cy 0 (cS mf mb mv) sv X ln ap le fc f1 f2 (B) ha R) C0 G ft_X5 in_X5 rfl rfl 0 (by decide) fl_X5_23 (fun _ h => h) rfl rfl rfl (Nat.le_of_ble_eq_true rfl) rfl dX5_clearText_2 (fun H locs G => ?_)
  refine lv_aload_n hx hb dX5_clearText_5 rfl (lv_at hl 0 rfl) ?_
  refine g_get (q0 := 0) (v := .int (nI ln)) C0 G in_X5 rfl rfl 4 (by decide) fl_X5_140 (fun _ h => h) rfl dX5_clearText_6 ?_
  refine lv_istore_n (lv' := [(1, .int (nI ln)), (0, .ref (am 0))]) hx hb dX5_clearText_9 rfl hl (by decide) rfl (fun ls hl => ?_)
  refine lv_aload_n hx hb dX5_clearText_10 rfl (lv_at hl 1 rfl) ?_
  refine lv_iconst (v := 0) hx hb dX5_clearText_11 (by decide) ?_
  refine g_put (q0 := 0) (W2 := wM am cy 0 (cS mf mb mv) sv X 0 ap le fc f1 f2 (B) ha R) C0 G ft_X5 in_X5 rfl rfl 4 (by decide) fl_X5_140 (fun _ h => h) rfl rfl rfl (Nat.le_of_ble_eq_true rfl) rfl dX5_clearText_12 (fun H locs G => ?_)
  refine lv_iload_n hx hb dX5_clearText_15 rfl (lv_at hl 0 rfl) ?_
  exact g_iret C0 G ⟨by first | rfl | (exfalso; omega) | (simp only [Bool.false_eq_true, ↓reduceIte, eq_self, decide_true, decide_false, not_true_eq_false, not_false_eq_true, Bool.true_and, Bool.false_and, Bool.and_true, Bool.and_false]; done) | (simp []; done) | (simp []; rfl) | (simp []; omega), by first | rfl | (exfalso; omega) | (simp only [Bool.false_eq_true, ↓reduceIte, eq_self, decide_true, decide_false, not_true_eq_false, not_false_eq_true, Bool.true_and, Bool.false_and, Bool.and_true, Bool.and_false]; done) | (simp []; done) | (simp []; rfl) | (simp []; omega)⟩ dX5_clearText_16
