/-! what 'isAhead' rests on -/
theorem uw_0 {f b : Int64} {z : Nat} (h : sdW f b = 0) : uwI f b z = -1 := by
  unfold uwI; rw [h, tb_0]; rfl
def uU (f b : Int64) (z : Nat) : Nat := pc ((uwT f b z).1 ^^^ (-1))
theorem uU_le (f b : Int64) (z : Nat) : uU f b z ≤ 64 := pc_le _
theorem uw_y {f b : Int64} {z : Nat} (h : tb (sdW f b) z = true) : uwI f b z = nI (uU f b z) := if_pos h
theorem uw_n {f b : Int64} {z : Nat} (h : ¬ tb (sdW f b) z = true) : uwI f b z = -1 := if_neg h
theorem nI_m1 {n : Nat} (h : n ≤ 64) : ¬ nI n ≤ -1 := by
  rw [Int32.le_iff_toInt_le, nI_toInt (by omega)]
  have : (-1 : Int32).toInt = -1 := by decide
  omega
theorem m1_nI {n : Nat} (h : n ≤ 64) : (-1 : Int32) ≤ nI n := by
  rw [Int32.le_iff_toInt_le, nI_toInt (by omega)]
  have : (-1 : Int32).toInt = -1 := by decide
  omega
theorem wc_inv (f b : Int64) : ∀ n, n ≤ 64 → ((∀ j, j < n → tb (sdW f b) j = false) ∧ wcS f b n = (-1, -1)) ∨ ∃ w, w < n ∧ tb (sdW f b) w = true ∧ wcS f b n = (nI w, nI (uU f b w)) ∧ ∀ j, j < n → tb (sdW f b) j = true → uU f b j ≤ uU f b w
  | 0, _ => Or.inl ⟨fun j h => absurd h (Nat.not_lt_zero _), rfl⟩
  | n + 1, hn => by
    have hs : wcS f b (n + 1) = if uwI f b n ≤ (wcS f b n).2 then wcS f b n else (nI n, uwI f b n) := rfl
    rw [hs]
    by_cases ht : tb (sdW f b) n = true
    · rw [uw_y ht]
      rcases wc_inv f b n (by omega) with ⟨h1, h2⟩ | ⟨w, h1, h2, h3, h4⟩
      · rw [h2, if_neg (nI_m1 (uU_le f b n))]
        refine Or.inr ⟨n, Nat.lt_succ_self n, ht, rfl, fun j hj hj2 => ?_⟩
        by_cases e : j = n
        · subst e; exact Nat.le_refl _
        · rw [h1 j (by omega)] at hj2; exact absurd hj2 (by decide)
      · have hu1 := uU_le f b n
        have hu2 := uU_le f b w
        rw [h3]
        by_cases hle : uU f b n ≤ uU f b w
        · rw [if_pos ((nI_leI (by omega) (by omega)).mpr hle)]
          refine Or.inr ⟨w, by omega, h2, rfl, fun j hj hj2 => ?_⟩
          by_cases e : j = n
          · subst e; exact hle
          · exact h4 j (by omega) hj2
        · rw [if_neg (fun h => hle ((nI_leI (by omega) (by omega)).mp h))]
          refine Or.inr ⟨n, Nat.lt_succ_self n, ht, rfl, fun j hj hj2 => ?_⟩
          by_cases e : j = n
          · subst e; exact Nat.le_refl _
          · have := h4 j (by omega) hj2
            omega
    · rw [uw_n ht]
      rcases wc_inv f b n (by omega) with ⟨h1, h2⟩ | ⟨w, h1, h2, h3, h4⟩
      · rw [h2, if_pos (show (-1 : Int32) ≤ -1 by decide)]
        refine Or.inl ⟨fun j hj => ?_, rfl⟩
        by_cases e : j = n
        · subst e; exact Bool.not_eq_true _ ▸ ht
        · exact h1 j (by omega)
      · rw [h3, if_pos (m1_nI (uU_le f b w))]
        refine Or.inr ⟨w, by omega, h2, rfl, fun j hj hj2 => ?_⟩
        by_cases e : j = n
        · subst e; exact absurd hj2 ht
        · exact h4 j (by omega) hj2
theorem wc_none {f b : Int64} (h : sdW f b = 0) : (wcS f b 64).1 = -1 := by
  rcases wc_inv f b 64 (Nat.le_refl _) with ⟨h1, h2⟩ | ⟨w, h1, h2, h3, h4⟩
  · rw [h2]
  · rw [h, tb_0] at h2; exact absurd h2 (by decide)
theorem wc_some {f b : Int64} (h : ¬ sdW f b = 0) : ∃ w, w < 64 ∧ tb (sdW f b) w = true ∧ (wcS f b 64).1 = nI w ∧ ∀ j, j < 64 → tb (sdW f b) j = true → uU f b j ≤ uU f b w := by
  rcases wc_inv f b 64 (Nat.le_refl _) with ⟨h1, h2⟩ | ⟨w, h1, h2, h3, h4⟩
  · exact absurd (tb_ext (fun k hk => by rw [h1 k hk, tb_0])) h
  · exact ⟨w, h1, h2, by rw [h3], h4⟩
theorem pc_pos {w : Int64} (h : ¬ w = 0) : 0 < pc w := by
  rcases Nat.eq_zero_or_pos (pc w) with h1 | h1
  · exact absurd (pc_eq0.mp h1) h
  · exact h1
theorem sc_0 (z : Nat) : scN 0 (z / 8) (z % 8) = z := by
  show 8 * (if 0 = 1 ∨ 0 = 3 then 7 - z / 8 else z / 8) + (if 0 = 1 ∨ 0 = 2 then 7 - z % 8 else z % 8) = z
  rw [if_neg (by decide), if_neg (by decide)]
  omega
theorem sh_0 {f b : Int64} {z : Nat} : shB1 f b 0 (z / 8) (z % 8) = tb f z := by
  show hoB f b (sbB 0) (scN 0 (z / 8) (z % 8)) = _
  rw [sc_0]; rfl
theorem ho_0 {f b : Int64} {z : Nat} : hoB f b (sbB 0) (scN 0 (z / 8) (z % 8)) = tb f z := sh_0
def clr (w : Int64) (z : Nat) : Int64 := w &&& (bitM z ^^^ (-1))
theorem tb_cl {w : Int64} {z j : Nat} (hz : z < 64) (hj : j < 64) : tb (clr w z) j = (tb w j && !decide (j = z)) := by
  unfold clr; rw [tb_and, tb_not hj, tb_bit z hz j hj]
theorem tb_st {w : Int64} {z j : Nat} (hz : z < 64) (hj : j < 64) : tb (w ||| bitM z) j = (tb w j || decide (j = z)) := by
  rw [tb_or, tb_bit z hz j hj]
theorem lo_f {f : Int64} {z : Nat} : shF f (sbB 0) (scN 0 (z / 8) (z % 8)) false = clr f z := by rw [sc_0]; rfl
theorem we_f {f : Int64} {z : Nat} : shF f (sbB 0) (scN 0 (z / 8) (z % 8)) true = f ||| bitM z := by rw [sc_0]; rfl
theorem lw_b {b : Int64} {z : Nat} {ho : Bool} : shB b (sbB 0) (scN 0 (z / 8) (z % 8)) ho = b := rfl
theorem tK_of {f b : Int64} {z v : Nat} {f' : Int64} (h1 : sdW f' b = lfW f b z) (h2 : onW f' b = onW f b &&& lfW f b z) : tK (f', b, v) = (uwT f b z).1 := by
  show (fa (sdW f' b) (onW f' b)).1 = _
  rw [h1, h2]; rfl
theorem uw_lo {f b : Int64} {z v : Nat} (hz : z < 64) (hf : tb f z = true) (hs : tb (sdW f b) z = true) : tK (clr f z, b, v) = (uwT f b z).1 := by
  have hb : tb b z = false := by rw [tb_sd, hf] at hs; simpa using hs
  apply tK_of
  · apply tb_ext; intro j hj
    show tb (sdW (clr f z) b) j = tb (sdW f b &&& (bitM z ^^^ (-1))) j
    rw [tb_sd, tb_cl hz hj, tb_and, tb_not hj, tb_bit z hz j hj, tb_sd]
    by_cases e : j = z
    · subst e; rw [hb]; simp
    · simp [e]
  · apply tb_ext; intro j hj
    show tb (onW (clr f z) b) j = tb (onW f b &&& (sdW f b &&& (bitM z ^^^ (-1)))) j
    rw [tb_on hj, tb_cl hz hj, tb_and, tb_and, tb_not hj, tb_bit z hz j hj, tb_sd, tb_on hj]
    by_cases e : j = z
    · subst e; simp
    · simp only [e, decide_false, Bool.not_false, Bool.and_true]; cases tb f j <;> cases tb b j <;> rfl
theorem uw_we {f b : Int64} {z v : Nat} (hz : z < 64) (hf : tb f z = false) (hs : tb (sdW f b) z = true) : tK (f ||| bitM z, b, v) = (uwT f b z).1 := by
  have hb : tb b z = true := by rw [tb_sd, hf] at hs; simpa using hs
  apply tK_of
  · apply tb_ext; intro j hj
    show tb (sdW (f ||| bitM z) b) j = tb (sdW f b &&& (bitM z ^^^ (-1))) j
    rw [tb_sd, tb_st hz hj, tb_and, tb_not hj, tb_bit z hz j hj, tb_sd]
    by_cases e : j = z
    · subst e; rw [hb]; simp
    · simp [e]
  · apply tb_ext; intro j hj
    show tb (onW (f ||| bitM z) b) j = tb (onW f b &&& (sdW f b &&& (bitM z ^^^ (-1)))) j
    rw [tb_on hj, tb_st hz hj, tb_and, tb_and, tb_not hj, tb_bit z hz j hj, tb_sd, tb_on hj]
    by_cases e : j = z
    · subst e; rw [hb]; simp
    · simp only [e, decide_false, Bool.not_false, Bool.and_true, Bool.or_false]; cases tb f j <;> cases tb b j <;> rfl
theorem kd_lo {f b : Int64} {z : Nat} (hz : z < 64) (hf : tb f z = true) (hs : tb (sdW f b) z = true) : kdN (clr f z) b z = 2 := by
  have hb : tb b z = false := by rw [tb_sd, hf] at hs; simpa using hs
  unfold kdN; rw [tb_cl hz hz, hb]; simp
theorem kd_we {f b : Int64} {z : Nat} (hz : z < 64) (hf : tb f z = false) (hs : tb (sdW f b) z = true) : kdN (f ||| bitM z) b z = 3 := by
  have hb : tb b z = true := by rw [tb_sd, hf] at hs; simpa using hs
  unfold kdN; rw [tb_st hz hz, hb]; simp
theorem kd_wb {f b : Int64} {z : Nat} (hz : z < 64) (hf : tb f z = true) (hs : tb (sdW f b) z = true) : kdN (clr f z ||| bitM z) b z = 1 := by
  have hb : tb b z = false := by rw [tb_sd, hf] at hs; simpa using hs
  unfold kdN; rw [tb_st hz hz, hb]; simp
theorem kd_lb {f b : Int64} {z : Nat} (hz : z < 64) (hf : tb f z = false) (hs : tb (sdW f b) z = true) : kdN (clr (f ||| bitM z) z) b z = 0 := by
  have hb : tb b z = true := by rw [tb_sd, hf] at hs; simpa using hs
  unfold kdN; rw [tb_cl hz hz, hb]; simp
set_option maxHeartbeats 4000000 in
set_option maxRecDepth 100000 in
theorem h_isAhead (l : Launch) (D : va_G) (cy : Nat → ClassId) (ad : Nat → Nat) (tv : Nat) (cs : Nat → Cd) (hs : List (Nat → Cd)) (k : Nat) (z : Nat) (hk : k < 3) (hz : z < 64) (hv : Vk cs) : GL l D cy ad tv yL_isAhead cL_isAhead 12 (some .boolean) 7 [.ref (ad 0), .int (nI k), .int (nI z)] cs hs (.int 1) cs (if tb (sdW (cs k).1 (cs k).2.1) z then hs.take 3 else hs) := by
  refine l_intro (by decide +kernel) (lv := [(0, .ref (ad 0)), (1, .int (nI k)), (2, .int (nI z))]) rfl (Nat.le_of_ble_eq_true rfl) ?_
  intro p e s m below meth c A C0 G ls hl
  have hx := C0.1
  have hb := C0.2.1
  have hown := C0.2.2.2.2.2.1
  have hts := C0.2.2.2.2.2.2.1
  have hvk := hv k hk
  have h01 := sm_01 (cs k).1 (cs k).2.1
  have hp0 := pc_le (kdW (cs k).1 (cs k).2.1 0)
  have hp1 := pc_le (kdW (cs k).1 (cs k).2.1 1)
  have hmu := uU_le (cs k).1 (cs k).2.1 z
  refine lv_aload_n hx hb dL_isAhead_0 rfl (lv_at hl 0 rfl) ?_
  refine l_callV (As := []) (rest := []) (cs' := cs) (hs' := hs) (r := .long (dgC cs)) C0 G (l_digest l D cy ad tv cs (hs) hv) k_X4_digest ml_L_104 dL_isAhead_1 rfl rfl hl.1 (Nat.le_of_ble_eq_true rfl) ⟨Nat.le_of_ble_eq_true rfl, Nat.le_of_ble_eq_true rfl⟩ ⟨Nat.le_of_ble_eq_true rfl, Nat.le_of_ble_eq_true rfl⟩ (fun H locs G => ?_)
  refine lv_lstore_n (lv' := [(3, .long (dgC cs)), (0, .ref (ad 0)), (1, .int (nI k)), (2, .int (nI z))]) hx hb dL_isAhead_4 rfl hl (by decide) rfl (fun ls hl => ?_)
  refine lv_aload_n hx hb dL_isAhead_5 rfl (lv_at hl 1 rfl) ?_
  refine lv_iload_n hx hb dL_isAhead_6 rfl (lv_at hl 2 rfl) ?_
  refine lv_iload_n hx hb dL_isAhead_7 rfl (lv_at hl 3 rfl) ?_
  refine lv_bipush (v := 8) hx hb dL_isAhead_8 (by decide) ?_
  refine lv_idiv hx hb dL_isAhead_10 (by decide) ?_
  refine g_topi (x' := nI (z / 8)) (pk_div (a := z) (d := 8) (by omega) (by decide) (by decide)) ?_
  refine lv_iload_n hx hb dL_isAhead_11 rfl (lv_at hl 3 rfl) ?_
  refine lv_bipush (v := 8) hx hb dL_isAhead_12 (by decide) ?_
  refine lv_irem hx hb dL_isAhead_14 (by decide) ?_
  refine g_topi (x' := nI (z % 8)) (pk_rem (a := z) (d := 8) (by omega) (by decide) (by decide)) ?_
  refine l_callV (As := [.int (nI k), .int (nI (z / 8)), .int (nI (z % 8))]) (rest := []) (cs' := cs) (hs' := hs) (r := .int (uwI (cs k).1 (cs k).2.1 (8 * (z / 8) + (z % 8)))) C0 G (l_untoldIf l D cy ad tv cs (hs) k (z / 8) (z % 8) (by omega) (by omega) (by omega)) k_X4_untoldIf ml_L_99 dL_isAhead_15 rfl rfl hl.1 (Nat.le_of_ble_eq_true rfl) ⟨Nat.le_of_ble_eq_true rfl, Nat.le_of_ble_eq_true rfl⟩ ⟨Nat.le_of_ble_eq_true rfl, Nat.le_of_ble_eq_true rfl⟩ (fun H locs G => ?_)
  refine g_topi (x' := uwI (cs k).1 (cs k).2.1 z) (by rw [show 8 * (z / 8) + z % 8 = z by omega]) ?_
  by_cases hs0 : sdW (cs k).1 (cs k).2.1 = 0
  · skip
    refine g_topi (x' := (-1)) (uw_0 hs0) ?_
    have hz0 : pc (sdW (cs k).1 (cs k).2.1) = 0 := by rw [hs0]; exact pc_0
    refine lv_istore (lv' := [(5, .int (-1)), (3, .long (dgC cs)), (0, .ref (ad 0)), (1, .int (nI k)), (2, .int (nI z))]) hx hb dL_isAhead_18 hl (by decide) rfl (fun ls hl => ?_)
    refine lv_aload_n hx hb dL_isAhead_20 rfl (lv_at hl 2 rfl) ?_
    refine lv_iload_n hx hb dL_isAhead_21 rfl (lv_at hl 3 rfl) ?_
    refine l_callV (As := [.int (nI k)]) (rest := []) (cs' := cs) (hs' := hs) (r := .int ((wcS (cs k).1 (cs k).2.1 64).1)) C0 G (l_worst l D cy ad tv cs (hs) k (by omega)) k_X4_worst ml_L_115 dL_isAhead_22 rfl rfl hl.1 (Nat.le_of_ble_eq_true rfl) ⟨Nat.le_of_ble_eq_true rfl, Nat.le_of_ble_eq_true rfl⟩ ⟨Nat.le_of_ble_eq_true rfl, Nat.le_of_ble_eq_true rfl⟩ (fun H locs G => ?_)
    refine g_topi (x' := (-1)) (wc_none hs0) ?_
    refine lv_istore (lv' := [(6, .int (-1)), (5, .int (-1)), (3, .long (dgC cs)), (0, .ref (ad 0)), (1, .int (nI k)), (2, .int (nI z))]) hx hb dL_isAhead_25 hl (by decide) rfl (fun ls hl => ?_)
    refine lv_iload hx hb dL_isAhead_27 (lv_at hl 0 rfl) ?_
    refine lv_iconst (v := (-1)) hx hb dL_isAhead_29 (by decide) ?_
    refine lv_icmp_ne (tgt := 37) hx hb dL_isAhead_30 (by decide) (fun c_30 => ?_) (fun c_30 => ?_)
    · exact absurd c_30 (by decide)
    · skip
      refine lv_iconst (v := 1) hx hb dL_isAhead_33 (by decide) ?_
      refine lv_goto (tgt := 38) hx hb dL_isAhead_34 (by decide) ?_
      refine lv_aload_n hx hb dL_isAhead_38 rfl (lv_at hl 3 rfl) ?_
      refine lv_iload_n hx hb dL_isAhead_39 rfl (lv_at hl 4 rfl) ?_
      refine lv_iconst (v := 0) hx hb dL_isAhead_40 (by decide) ?_
      refine l_callV (As := [.int (nI k), .int 0]) (rest := [.int 1]) (cs' := cs) (hs' := hs) (r := .int (nI (pc (kdW (cs k).1 (cs k).2.1 0)))) C0 G (l_count l D cy ad tv cs (hs) k 0 (by omega) (by omega)) k_X4_count ml_L_36 dL_isAhead_41 rfl rfl hl.1 (Nat.le_of_ble_eq_true rfl) ⟨Nat.le_of_ble_eq_true rfl, Nat.le_of_ble_eq_true rfl⟩ ⟨Nat.le_of_ble_eq_true rfl, Nat.le_of_ble_eq_true rfl⟩ (fun H locs G => ?_)
      refine lv_aload_n hx hb dL_isAhead_44 rfl (lv_at hl 3 rfl) ?_
      refine lv_iload_n hx hb dL_isAhead_45 rfl (lv_at hl 4 rfl) ?_
      refine lv_iconst (v := 1) hx hb dL_isAhead_46 (by decide) ?_
      refine l_callV (As := [.int (nI k), .int 1]) (rest := [.int (nI (pc (kdW (cs k).1 (cs k).2.1 0))), .int 1]) (cs' := cs) (hs' := hs) (r := .int (nI (pc (kdW (cs k).1 (cs k).2.1 1)))) C0 G (l_count l D cy ad tv cs (hs) k 1 (by omega) (by omega)) k_X4_count ml_L_36 dL_isAhead_47 rfl rfl hl.1 (Nat.le_of_ble_eq_true rfl) ⟨Nat.le_of_ble_eq_true rfl, Nat.le_of_ble_eq_true rfl⟩ ⟨Nat.le_of_ble_eq_true rfl, Nat.le_of_ble_eq_true rfl⟩ (fun H locs G => ?_)
      refine lv_iadd hx hb dL_isAhead_50 ?_
      refine g_topi (x' := nI ((pc (kdW (cs k).1 (cs k).2.1 0)) + (pc (kdW (cs k).1 (cs k).2.1 1)))) (nI_add (pc (kdW (cs k).1 (cs k).2.1 0)) (pc (kdW (cs k).1 (cs k).2.1 1))) ?_
      refine lv_if_ne (tgt := 58) hx hb dL_isAhead_51 (by decide) (fun c_51 => ?_) (fun c_51 => ?_)
      · skip
        have c_51 : ¬ (((pc (kdW (cs k).1 (cs k).2.1 0)) + (pc (kdW (cs k).1 (cs k).2.1 1))) = 0) := fun h => c_51 ((nI_eq (a := (pc (kdW (cs k).1 (cs k).2.1 0)) + (pc (kdW (cs k).1 (cs k).2.1 1))) (b := 0) (by omega) (by omega)).mpr h)
        exact absurd c_51 (by omega)
      · skip
        have c_51 : ((pc (kdW (cs k).1 (cs k).2.1 0)) + (pc (kdW (cs k).1 (cs k).2.1 1))) = 0 := (nI_eq (a := (pc (kdW (cs k).1 (cs k).2.1 0)) + (pc (kdW (cs k).1 (cs k).2.1 1))) (b := 0) (by omega) (by omega)).mp c_51
        refine lv_iconst (v := 1) hx hb dL_isAhead_54 (by decide) ?_
        refine lv_goto (tgt := 59) hx hb dL_isAhead_55 (by decide) ?_
        refine lv_icmp_ne (tgt := 91) hx hb dL_isAhead_59 (by decide) (fun c_59 => ?_) (fun c_59 => ?_)
        · exact absurd c_59 (by decide)
        · skip
          refine lv_iload hx hb dL_isAhead_62 (lv_at hl 1 rfl) ?_
          refine lv_if_lt (tgt := 87) hx hb dL_isAhead_64 (by decide) (fun c_64 => ?_) (fun c_64 => ?_)
          · skip
            refine lv_iconst (v := 1) hx hb dL_isAhead_87 (by decide) ?_
            refine lv_goto (tgt := 92) hx hb dL_isAhead_88 (by decide) ?_
            refine lv_istore (lv' := [(7, .int 1), (6, .int (-1)), (5, .int (-1)), (3, .long (dgC cs)), (0, .ref (ad 0)), (1, .int (nI k)), (2, .int (nI z))]) hx hb dL_isAhead_92 hl (by decide) rfl (fun ls hl => ?_)
            refine lv_iload hx hb dL_isAhead_94 (lv_at hl 0 rfl) ?_
            refine lv_if_eq (tgt := 266) hx hb dL_isAhead_96 (by decide) (fun c_96 => ?_) (fun c_96 => ?_)
            · exact absurd c_96 (by decide)
            · skip
              refine lv_iload hx hb dL_isAhead_99 (lv_at hl 2 rfl) ?_
              refine lv_if_lt (tgt := 266) hx hb dL_isAhead_101 (by decide) (fun c_101 => ?_) (fun c_101 => ?_)
              · skip
                refine lv_iload hx hb dL_isAhead_266 (lv_at hl 0 rfl) ?_
                refine lv_if_eq (tgt := 284) hx hb dL_isAhead_268 (by decide) (fun c_268 => ?_) (fun c_268 => ?_)
                · exact absurd c_268 (by decide)
                · skip
                  refine lv_aload_n hx hb dL_isAhead_271 rfl (lv_at hl 4 rfl) ?_
                  refine l_callV (As := []) (rest := []) (cs' := cs) (hs' := hs) (r := .long (dgC cs)) C0 G (l_digest l D cy ad tv cs (hs) hv) k_X4_digest ml_L_104 dL_isAhead_272 rfl rfl hl.1 (Nat.le_of_ble_eq_true rfl) ⟨Nat.le_of_ble_eq_true rfl, Nat.le_of_ble_eq_true rfl⟩ ⟨Nat.le_of_ble_eq_true rfl, Nat.le_of_ble_eq_true rfl⟩ (fun H locs G => ?_)
                  refine lv_lload_n hx hb dL_isAhead_275 rfl (lv_at hl 3 rfl) ?_
                  refine W.lcmp hx hb dL_isAhead_276 ?_
                  refine lv_if_ne (tgt := 284) hx hb dL_isAhead_277 (by decide) (fun c_277 => ?_) (fun c_277 => ?_)
                  · skip
                    have c_277 : ¬ (dgC cs) = (dgC cs) := fun h => c_277 (lgc_eq.mpr h)
                    exact absurd rfl c_277
                  · skip
                    have c_277 : (dgC cs) = (dgC cs) := lgc_eq.mp c_277
                    refine lv_iconst (v := 1) hx hb dL_isAhead_280 (by decide) ?_
                    refine lv_goto (tgt := 285) hx hb dL_isAhead_281 (by decide) ?_
                    have G : gL D cy ad tv cs (if tb (sdW (cs k).1 (cs k).2.1) z then hs.take 3 else hs) A s _ _ := l_eq rfl (if_neg (by rw [hs0, tb_0]; decide)).symm G
                    exact l_zret C0 G rfl dL_isAhead_285
              · exact absurd c_101 (by decide)
          · exact absurd c_64 (by decide)
  · skip
    have hpp := pc_pos hs0
    refine lv_istore (lv' := [(5, .int (uwI (cs k).1 (cs k).2.1 z)), (3, .long (dgC cs)), (0, .ref (ad 0)), (1, .int (nI k)), (2, .int (nI z))]) hx hb dL_isAhead_18 hl (by decide) rfl (fun ls hl => ?_)
    by_cases hsz : tb (sdW (cs k).1 (cs k).2.1) z = true
    · skip
      have hl := hl
      rw [show uwI (cs k).1 (cs k).2.1 z = nI (uU (cs k).1 (cs k).2.1 z) from uw_y hsz] at hl
      have hl : lv_has ls 12 [(5, .int (nI (uU (cs k).1 (cs k).2.1 z))), (3, .long (dgC cs)), (0, .ref (ad 0)), (1, .int (nI k)), (2, .int (nI z))] := hl
      refine lv_aload_n hx hb dL_isAhead_20 rfl (lv_at hl 2 rfl) ?_
      refine lv_iload_n hx hb dL_isAhead_21 rfl (lv_at hl 3 rfl) ?_
      refine l_callV (As := [.int (nI k)]) (rest := []) (cs' := cs) (hs' := hs) (r := .int ((wcS (cs k).1 (cs k).2.1 64).1)) C0 G (l_worst l D cy ad tv cs (hs) k (by omega)) k_X4_worst ml_L_115 dL_isAhead_22 rfl rfl hl.1 (Nat.le_of_ble_eq_true rfl) ⟨Nat.le_of_ble_eq_true rfl, Nat.le_of_ble_eq_true rfl⟩ ⟨Nat.le_of_ble_eq_true rfl, Nat.le_of_ble_eq_true rfl⟩ (fun H locs G => ?_)
      obtain ⟨w, hw, hws, hwe, hwm⟩ := wc_some hs0
      have hmw := uU_le (cs k).1 (cs k).2.1 w
      refine g_topi (x' := nI w) hwe ?_
      refine lv_istore (lv' := [(6, .int (nI w)), (5, .int (nI (uU (cs k).1 (cs k).2.1 z))), (3, .long (dgC cs)), (0, .ref (ad 0)), (1, .int (nI k)), (2, .int (nI z))]) hx hb dL_isAhead_25 hl (by decide) rfl (fun ls hl => ?_)
      refine lv_iload hx hb dL_isAhead_27 (lv_at hl 0 rfl) ?_
      refine lv_iconst (v := (-1)) hx hb dL_isAhead_29 (by decide) ?_
      refine lv_icmp_ne (tgt := 37) hx hb dL_isAhead_30 (by decide) (fun c_30 => ?_) (fun c_30 => ?_)
      · skip
        refine lv_iconst (v := 0) hx hb dL_isAhead_37 (by decide) ?_
        refine lv_aload_n hx hb dL_isAhead_38 rfl (lv_at hl 3 rfl) ?_
        refine lv_iload_n hx hb dL_isAhead_39 rfl (lv_at hl 4 rfl) ?_
        refine lv_iconst (v := 0) hx hb dL_isAhead_40 (by decide) ?_
        refine l_callV (As := [.int (nI k), .int 0]) (rest := [.int 0]) (cs' := cs) (hs' := hs) (r := .int (nI (pc (kdW (cs k).1 (cs k).2.1 0)))) C0 G (l_count l D cy ad tv cs (hs) k 0 (by omega) (by omega)) k_X4_count ml_L_36 dL_isAhead_41 rfl rfl hl.1 (Nat.le_of_ble_eq_true rfl) ⟨Nat.le_of_ble_eq_true rfl, Nat.le_of_ble_eq_true rfl⟩ ⟨Nat.le_of_ble_eq_true rfl, Nat.le_of_ble_eq_true rfl⟩ (fun H locs G => ?_)
        refine lv_aload_n hx hb dL_isAhead_44 rfl (lv_at hl 3 rfl) ?_
        refine lv_iload_n hx hb dL_isAhead_45 rfl (lv_at hl 4 rfl) ?_
        refine lv_iconst (v := 1) hx hb dL_isAhead_46 (by decide) ?_
        refine l_callV (As := [.int (nI k), .int 1]) (rest := [.int (nI (pc (kdW (cs k).1 (cs k).2.1 0))), .int 0]) (cs' := cs) (hs' := hs) (r := .int (nI (pc (kdW (cs k).1 (cs k).2.1 1)))) C0 G (l_count l D cy ad tv cs (hs) k 1 (by omega) (by omega)) k_X4_count ml_L_36 dL_isAhead_47 rfl rfl hl.1 (Nat.le_of_ble_eq_true rfl) ⟨Nat.le_of_ble_eq_true rfl, Nat.le_of_ble_eq_true rfl⟩ ⟨Nat.le_of_ble_eq_true rfl, Nat.le_of_ble_eq_true rfl⟩ (fun H locs G => ?_)
        refine lv_iadd hx hb dL_isAhead_50 ?_
        refine g_topi (x' := nI ((pc (kdW (cs k).1 (cs k).2.1 0)) + (pc (kdW (cs k).1 (cs k).2.1 1)))) (nI_add (pc (kdW (cs k).1 (cs k).2.1 0)) (pc (kdW (cs k).1 (cs k).2.1 1))) ?_
        refine lv_if_ne (tgt := 58) hx hb dL_isAhead_51 (by decide) (fun c_51 => ?_) (fun c_51 => ?_)
        · skip
          have c_51 : ¬ (((pc (kdW (cs k).1 (cs k).2.1 0)) + (pc (kdW (cs k).1 (cs k).2.1 1))) = 0) := fun h => c_51 ((nI_eq (a := (pc (kdW (cs k).1 (cs k).2.1 0)) + (pc (kdW (cs k).1 (cs k).2.1 1))) (b := 0) (by omega) (by omega)).mpr h)
          refine lv_iconst (v := 0) hx hb dL_isAhead_58 (by decide) ?_
          refine lv_icmp_ne (tgt := 91) hx hb dL_isAhead_59 (by decide) (fun c_59 => ?_) (fun c_59 => ?_)
          · exact absurd c_59 (by decide)
          · skip
            refine lv_iload hx hb dL_isAhead_62 (lv_at hl 1 rfl) ?_
            refine lv_if_lt (tgt := 87) hx hb dL_isAhead_64 (by decide) (fun c_64 => ?_) (fun c_64 => ?_)
            · skip
              have c_64 : (uU (cs k).1 (cs k).2.1 z) < 0 := (nI_ltI (a := uU (cs k).1 (cs k).2.1 z) (b := 0) (by omega) (by omega)).mp c_64
              exact absurd c_64 (by omega)
            · skip
              have c_64 : ¬ ((uU (cs k).1 (cs k).2.1 z) < 0) := fun h => c_64 ((nI_ltI (a := uU (cs k).1 (cs k).2.1 z) (b := 0) (by omega) (by omega)).mpr h)
              refine lv_iload hx hb dL_isAhead_67 (lv_at hl 1 rfl) ?_
              refine lv_aload_n hx hb dL_isAhead_69 rfl (lv_at hl 3 rfl) ?_
              refine lv_iload_n hx hb dL_isAhead_70 rfl (lv_at hl 4 rfl) ?_
              refine lv_iload hx hb dL_isAhead_71 (lv_at hl 0 rfl) ?_
              refine lv_bipush (v := 8) hx hb dL_isAhead_73 (by decide) ?_
              refine lv_idiv hx hb dL_isAhead_75 (by decide) ?_
              refine g_topi (x' := nI (w / 8)) (pk_div (a := w) (d := 8) (by omega) (by decide) (by decide)) ?_
              refine lv_iload hx hb dL_isAhead_76 (lv_at hl 0 rfl) ?_
              refine lv_bipush (v := 8) hx hb dL_isAhead_78 (by decide) ?_
              refine lv_irem hx hb dL_isAhead_80 (by decide) ?_
              refine g_topi (x' := nI (w % 8)) (pk_rem (a := w) (d := 8) (by omega) (by decide) (by decide)) ?_
              refine l_callV (As := [.int (nI k), .int (nI (w / 8)), .int (nI (w % 8))]) (rest := [.int (nI (uU (cs k).1 (cs k).2.1 z))]) (cs' := cs) (hs' := hs) (r := .int (uwI (cs k).1 (cs k).2.1 (8 * (w / 8) + (w % 8)))) C0 G (l_untoldIf l D cy ad tv cs (hs) k (w / 8) (w % 8) (by omega) (by omega) (by omega)) k_X4_untoldIf ml_L_99 dL_isAhead_81 rfl rfl hl.1 (Nat.le_of_ble_eq_true rfl) ⟨Nat.le_of_ble_eq_true rfl, Nat.le_of_ble_eq_true rfl⟩ ⟨Nat.le_of_ble_eq_true rfl, Nat.le_of_ble_eq_true rfl⟩ (fun H locs G => ?_)
              refine g_topi (x' := nI (uU (cs k).1 (cs k).2.1 w)) (by rw [show 8 * (w / 8) + w % 8 = w by omega]; exact uw_y hws) ?_
              refine lv_icmp_gt (tgt := 91) hx hb dL_isAhead_84 (by decide) (fun c_84 => ?_) (fun c_84 => ?_)
              · skip
                have c_84 : (uU (cs k).1 (cs k).2.1 w) < (uU (cs k).1 (cs k).2.1 z) := (nI_ltI (a := uU (cs k).1 (cs k).2.1 w) (b := uU (cs k).1 (cs k).2.1 z) (by omega) (by omega)).mp c_84
                exact absurd c_84 (by have := hwm z hz hsz; omega)
              · skip
                have c_84 : ¬ ((uU (cs k).1 (cs k).2.1 w) < (uU (cs k).1 (cs k).2.1 z)) := fun h => c_84 ((nI_ltI (a := uU (cs k).1 (cs k).2.1 w) (b := uU (cs k).1 (cs k).2.1 z) (by omega) (by omega)).mpr h)
                refine lv_iconst (v := 1) hx hb dL_isAhead_87 (by decide) ?_
                refine lv_goto (tgt := 92) hx hb dL_isAhead_88 (by decide) ?_
                refine lv_istore (lv' := [(7, .int 1), (6, .int (nI w)), (5, .int (nI (uU (cs k).1 (cs k).2.1 z))), (3, .long (dgC cs)), (0, .ref (ad 0)), (1, .int (nI k)), (2, .int (nI z))]) hx hb dL_isAhead_92 hl (by decide) rfl (fun ls hl => ?_)
                refine lv_iload hx hb dL_isAhead_94 (lv_at hl 0 rfl) ?_
                refine lv_if_eq (tgt := 266) hx hb dL_isAhead_96 (by decide) (fun c_96 => ?_) (fun c_96 => ?_)
                · exact absurd c_96 (by decide)
                · skip
                  refine lv_iload hx hb dL_isAhead_99 (lv_at hl 2 rfl) ?_
                  refine lv_if_lt (tgt := 266) hx hb dL_isAhead_101 (by decide) (fun c_101 => ?_) (fun c_101 => ?_)
                  · skip
                    have c_101 : (uU (cs k).1 (cs k).2.1 z) < 0 := (nI_ltI (a := uU (cs k).1 (cs k).2.1 z) (b := 0) (by omega) (by omega)).mp c_101
                    exact absurd c_101 (by omega)
                  · skip
                    have c_101 : ¬ ((uU (cs k).1 (cs k).2.1 z) < 0) := fun h => c_101 ((nI_ltI (a := uU (cs k).1 (cs k).2.1 z) (b := 0) (by omega) (by omega)).mpr h)
                    refine lv_aload_n hx hb dL_isAhead_104 rfl (lv_at hl 4 rfl) ?_
                    refine lv_iload_n hx hb dL_isAhead_105 rfl (lv_at hl 5 rfl) ?_
                    refine lv_iconst (v := 0) hx hb dL_isAhead_106 (by decide) ?_
                    refine l_callV (As := [.int (nI k), .int 0]) (rest := []) (cs' := va_up cs k ((cs k).1, (cs k).2.1, 0)) (hs' := ps cs (hs)) (r := .int (nI ((cs k).2.2))) C0 G (l_turn l D cy ad tv cs (hs) k 0 (by omega) (by omega)) k_X4_turn ml_L_54 dL_isAhead_107 rfl rfl hl.1 (Nat.le_of_ble_eq_true rfl) ⟨Nat.le_of_ble_eq_true rfl, Nat.le_of_ble_eq_true rfl⟩ ⟨Nat.le_of_ble_eq_true rfl, Nat.le_of_ble_eq_true rfl⟩ (fun H locs G => ?_)
                    obtain ⟨c1, hc1⟩ : ∃ g9 : Nat → Cd, g9 = va_up cs k ((cs k).1, (cs k).2.1, 0) := ⟨_, rfl⟩
                    have G : gL D cy ad tv c1 (ps cs (hs)) A s _ _ := l_eq hc1.symm rfl G
                    have ec1 : c1 k = ((cs k).1, (cs k).2.1, 0) := by rw [hc1]; exact va_up_e _ _ _
                    refine lv_istore (lv' := [(8, .int (nI ((cs k).2.2))), (7, .int 1), (6, .int (nI w)), (5, .int (nI (uU (cs k).1 (cs k).2.1 z))), (3, .long (dgC cs)), (0, .ref (ad 0)), (1, .int (nI k)), (2, .int (nI z))]) hx hb dL_isAhead_110 hl (by decide) rfl (fun ls hl => ?_)
                    refine lv_aload_n hx hb dL_isAhead_112 rfl (lv_at hl 5 rfl) ?_
                    refine lv_iload_n hx hb dL_isAhead_113 rfl (lv_at hl 6 rfl) ?_
                    refine lv_iload_n hx hb dL_isAhead_114 rfl (lv_at hl 7 rfl) ?_
                    refine lv_bipush (v := 8) hx hb dL_isAhead_115 (by decide) ?_
                    refine lv_idiv hx hb dL_isAhead_117 (by decide) ?_
                    refine g_topi (x' := nI (z / 8)) (pk_div (a := z) (d := 8) (by omega) (by decide) (by decide)) ?_
                    refine lv_iload_n hx hb dL_isAhead_118 rfl (lv_at hl 7 rfl) ?_
                    refine lv_bipush (v := 8) hx hb dL_isAhead_119 (by decide) ?_
                    refine lv_irem hx hb dL_isAhead_121 (by decide) ?_
                    refine g_topi (x' := nI (z % 8)) (pk_rem (a := z) (d := 8) (by omega) (by decide) (by decide)) ?_
                    refine l_callV (As := [.int (nI k), .int (nI (z / 8)), .int (nI (z % 8))]) (rest := []) (cs' := c1) (hs' := ps cs (hs)) (r := .int (bI (shB1 (c1 k).1 (c1 k).2.1 (c1 k).2.2 (z / 8) (z % 8)))) C0 G (l_sees l D cy ad tv c1 (ps cs (hs)) k (z / 8) (z % 8) (by omega) (by omega) (by omega) (by rw [ec1]; exact (by decide : (0 : Nat) < 4))) k_X4_sees ml_L_68 dL_isAhead_122 rfl rfl hl.1 (Nat.le_of_ble_eq_true rfl) ⟨Nat.le_of_ble_eq_true rfl, Nat.le_of_ble_eq_true rfl⟩ ⟨Nat.le_of_ble_eq_true rfl, Nat.le_of_ble_eq_true rfl⟩ (fun H locs G => ?_)
                    refine g_topi (x' := bI (tb (cs k).1 z)) (congrArg bI (by rw [ec1]; exact sh_0)) ?_
                    refine lv_istore (lv' := [(9, .int (bI (tb (cs k).1 z))), (8, .int (nI ((cs k).2.2))), (7, .int 1), (6, .int (nI w)), (5, .int (nI (uU (cs k).1 (cs k).2.1 z))), (3, .long (dgC cs)), (0, .ref (ad 0)), (1, .int (nI k)), (2, .int (nI z))]) hx hb dL_isAhead_125 hl (by decide) rfl (fun ls hl => ?_)
                    refine lv_iload hx hb dL_isAhead_127 (lv_at hl 0 rfl) ?_
                    refine lv_if_eq (tgt := 148) hx hb dL_isAhead_129 (by decide) (fun c_129 => ?_) (fun c_129 => ?_)
                    · skip
                      have c_129 : (tb (cs k).1 z) = false := bI_f c_129
                      refine lv_aload_n hx hb dL_isAhead_148 rfl (lv_at hl 6 rfl) ?_
                      refine lv_iload_n hx hb dL_isAhead_149 rfl (lv_at hl 7 rfl) ?_
                      refine lv_iload_n hx hb dL_isAhead_150 rfl (lv_at hl 8 rfl) ?_
                      refine lv_bipush (v := 8) hx hb dL_isAhead_151 (by decide) ?_
                      refine lv_idiv hx hb dL_isAhead_153 (by decide) ?_
                      refine g_topi (x' := nI (z / 8)) (pk_div (a := z) (d := 8) (by omega) (by decide) (by decide)) ?_
                      refine lv_iload_n hx hb dL_isAhead_154 rfl (lv_at hl 8 rfl) ?_
                      refine lv_bipush (v := 8) hx hb dL_isAhead_155 (by decide) ?_
                      refine lv_irem hx hb dL_isAhead_157 (by decide) ?_
                      refine g_topi (x' := nI (z % 8)) (pk_rem (a := z) (d := 8) (by omega) (by decide) (by decide)) ?_
                      refine l_callV (As := [.int (nI k), .int (nI (z / 8)), .int (nI (z % 8))]) (rest := []) (cs' := va_up c1 k (shF (c1 k).1 (sbB (c1 k).2.2) (scN (c1 k).2.2 (z / 8) (z % 8)) true, shB (c1 k).2.1 (sbB (c1 k).2.2) (scN (c1 k).2.2 (z / 8) (z % 8)) true, (c1 k).2.2)) (hs' := ps c1 (ps cs (hs))) (r := .int (nI (kdN (shF (c1 k).1 (sbB (c1 k).2.2) (scN (c1 k).2.2 (z / 8) (z % 8)) true) (shB (c1 k).2.1 (sbB (c1 k).2.2) (scN (c1 k).2.2 (z / 8) (z % 8)) true) (scN (c1 k).2.2 (z / 8) (z % 8))))) C0 G (l_wear l D cy ad tv c1 (ps cs (hs)) k (z / 8) (z % 8) (by omega) (by omega) (by omega) (by rw [ec1]; exact (by decide : (0 : Nat) < 4)) (by rw [ec1]; exact ho_0.trans c_129)) k_X4_wear ml_L_78 dL_isAhead_158 rfl rfl hl.1 (Nat.le_of_ble_eq_true rfl) ⟨Nat.le_of_ble_eq_true rfl, Nat.le_of_ble_eq_true rfl⟩ ⟨Nat.le_of_ble_eq_true rfl, Nat.le_of_ble_eq_true rfl⟩ (fun H locs G => ?_)
                      obtain ⟨c2, hc2⟩ : ∃ g9 : Nat → Cd, g9 = va_up c1 k (shF (c1 k).1 (sbB (c1 k).2.2) (scN (c1 k).2.2 (z / 8) (z % 8)) true, shB (c1 k).2.1 (sbB (c1 k).2.2) (scN (c1 k).2.2 (z / 8) (z % 8)) true, (c1 k).2.2) := ⟨_, rfl⟩
                      have G : gL D cy ad tv c2 (ps c1 (ps cs (hs))) A s _ _ := l_eq hc2.symm rfl G
                      have ec2 : c2 k = (shF (c1 k).1 (sbB (c1 k).2.2) (scN (c1 k).2.2 (z / 8) (z % 8)) true, shB (c1 k).2.1 (sbB (c1 k).2.2) (scN (c1 k).2.2 (z / 8) (z % 8)) true, (c1 k).2.2) := by rw [hc2]; exact va_up_e _ _ _
                      simp only [ec1, we_f, lw_b] at ec2
                      refine g_topi (x' := 3) (congrArg nI (by simp only [ec1, we_f, lw_b, sc_0]; exact kd_we hz c_129 hsz)) ?_
                      refine lv_istore (lv' := [(10, .int 3), (9, .int (bI (tb (cs k).1 z))), (8, .int (nI ((cs k).2.2))), (7, .int 1), (6, .int (nI w)), (5, .int (nI (uU (cs k).1 (cs k).2.1 z))), (3, .long (dgC cs)), (0, .ref (ad 0)), (1, .int (nI k)), (2, .int (nI z))]) hx hb dL_isAhead_161 hl (by decide) rfl (fun ls hl => ?_)
                      refine lv_iload hx hb dL_isAhead_163 (lv_at hl 2 rfl) ?_
                      refine lv_if_lt (tgt := 188) hx hb dL_isAhead_165 (by decide) (fun c_165 => ?_) (fun c_165 => ?_)
                      · skip
                        have c_165 : ((cs k).2.2) < 0 := (nI_ltI (a := (cs k).2.2) (b := 0) (by omega) (by omega)).mp c_165
                        exact absurd c_165 (by omega)
                      · skip
                        have c_165 : ¬ (((cs k).2.2) < 0) := fun h => c_165 ((nI_ltI (a := (cs k).2.2) (b := 0) (by omega) (by omega)).mpr h)
                        refine lv_iload hx hb dL_isAhead_168 (lv_at hl 0 rfl) ?_
                        refine lv_iconst (v := 1) hx hb dL_isAhead_170 (by decide) ?_
                        refine lv_icmp_le (tgt := 188) hx hb dL_isAhead_171 (by decide) (fun c_171 => ?_) (fun c_171 => ?_)
                        · exact absurd c_171 (by decide)
                        · skip
                          refine lv_aload_n hx hb dL_isAhead_174 rfl (lv_at hl 7 rfl) ?_
                          refine lv_iload_n hx hb dL_isAhead_175 rfl (lv_at hl 8 rfl) ?_
                          refine l_callV (As := [.int (nI k)]) (rest := []) (cs' := c2) (hs' := ps c1 (ps cs (hs))) (r := .int (nI (pc ((tK (c2 k)) ^^^ (-1))))) C0 G (l_untold l D cy ad tv c2 (ps c1 (ps cs (hs))) k (by omega)) k_X4_untold ml_L_39 dL_isAhead_176 rfl rfl hl.1 (Nat.le_of_ble_eq_true rfl) ⟨Nat.le_of_ble_eq_true rfl, Nat.le_of_ble_eq_true rfl⟩ ⟨Nat.le_of_ble_eq_true rfl, Nat.le_of_ble_eq_true rfl⟩ (fun H locs G => ?_)
                          refine g_topi (x' := nI (uU (cs k).1 (cs k).2.1 z)) (congrArg nI (by rw [ec2, uw_we hz c_129 hsz]; rfl)) ?_
                          refine lv_iload hx hb dL_isAhead_179 (lv_at hl 5 rfl) ?_
                          refine lv_icmp_ne (tgt := 188) hx hb dL_isAhead_181 (by decide) (fun c_181 => ?_) (fun c_181 => ?_)
                          · skip
                            have c_181 : ¬ ((uU (cs k).1 (cs k).2.1 z) = (uU (cs k).1 (cs k).2.1 z)) := fun h => c_181 ((nI_eq (a := uU (cs k).1 (cs k).2.1 z) (b := uU (cs k).1 (cs k).2.1 z) (by omega) (by omega)).mpr h)
                            exact absurd rfl c_181
                          · skip
                            have c_181 : (uU (cs k).1 (cs k).2.1 z) = (uU (cs k).1 (cs k).2.1 z) := (nI_eq (a := uU (cs k).1 (cs k).2.1 z) (b := uU (cs k).1 (cs k).2.1 z) (by omega) (by omega)).mp c_181
                            refine lv_iconst (v := 1) hx hb dL_isAhead_184 (by decide) ?_
                            refine lv_goto (tgt := 189) hx hb dL_isAhead_185 (by decide) ?_
                            refine lv_istore (lv' := [(7, .int 1), (10, .int 3), (9, .int (bI (tb (cs k).1 z))), (8, .int (nI ((cs k).2.2))), (6, .int (nI w)), (5, .int (nI (uU (cs k).1 (cs k).2.1 z))), (3, .long (dgC cs)), (0, .ref (ad 0)), (1, .int (nI k)), (2, .int (nI z))]) hx hb dL_isAhead_189 hl (by decide) rfl (fun ls hl => ?_)
                            refine lv_iload hx hb dL_isAhead_191 (lv_at hl 2 rfl) ?_
                            refine lv_if_eq (tgt := 212) hx hb dL_isAhead_193 (by decide) (fun c_193 => ?_) (fun c_193 => ?_)
                            · skip
                              have c_193 : (tb (cs k).1 z) = false := bI_f c_193
                              refine lv_aload_n hx hb dL_isAhead_212 rfl (lv_at hl 7 rfl) ?_
                              refine lv_iload_n hx hb dL_isAhead_213 rfl (lv_at hl 8 rfl) ?_
                              refine lv_iload_n hx hb dL_isAhead_214 rfl (lv_at hl 9 rfl) ?_
                              refine lv_bipush (v := 8) hx hb dL_isAhead_215 (by decide) ?_
                              refine lv_idiv hx hb dL_isAhead_217 (by decide) ?_
                              refine g_topi (x' := nI (z / 8)) (pk_div (a := z) (d := 8) (by omega) (by decide) (by decide)) ?_
                              refine lv_iload_n hx hb dL_isAhead_218 rfl (lv_at hl 9 rfl) ?_
                              refine lv_bipush (v := 8) hx hb dL_isAhead_219 (by decide) ?_
                              refine lv_irem hx hb dL_isAhead_221 (by decide) ?_
                              refine g_topi (x' := nI (z % 8)) (pk_rem (a := z) (d := 8) (by omega) (by decide) (by decide)) ?_
                              refine l_callV (As := [.int (nI k), .int (nI (z / 8)), .int (nI (z % 8))]) (rest := []) (cs' := va_up c2 k (shF (c2 k).1 (sbB (c2 k).2.2) (scN (c2 k).2.2 (z / 8) (z % 8)) false, shB (c2 k).2.1 (sbB (c2 k).2.2) (scN (c2 k).2.2 (z / 8) (z % 8)) false, (c2 k).2.2)) (hs' := ps c2 (ps c1 (ps cs (hs)))) (r := .int (nI (kdN (shF (c2 k).1 (sbB (c2 k).2.2) (scN (c2 k).2.2 (z / 8) (z % 8)) false) (shB (c2 k).2.1 (sbB (c2 k).2.2) (scN (c2 k).2.2 (z / 8) (z % 8)) false) (scN (c2 k).2.2 (z / 8) (z % 8))))) C0 G (l_lose l D cy ad tv c2 (ps c1 (ps cs (hs))) k (z / 8) (z % 8) (by omega) (by omega) (by omega) (by rw [ec2]; exact (by decide : (0 : Nat) < 4)) (by rw [ec2]; exact ho_0.trans ((tb_st hz hz).trans (by simp)))) k_X4_lose ml_L_75 dL_isAhead_222 rfl rfl hl.1 (Nat.le_of_ble_eq_true rfl) ⟨Nat.le_of_ble_eq_true rfl, Nat.le_of_ble_eq_true rfl⟩ ⟨Nat.le_of_ble_eq_true rfl, Nat.le_of_ble_eq_true rfl⟩ (fun H locs G => ?_)
                              obtain ⟨c3, hc3⟩ : ∃ g9 : Nat → Cd, g9 = va_up c2 k (shF (c2 k).1 (sbB (c2 k).2.2) (scN (c2 k).2.2 (z / 8) (z % 8)) false, shB (c2 k).2.1 (sbB (c2 k).2.2) (scN (c2 k).2.2 (z / 8) (z % 8)) false, (c2 k).2.2) := ⟨_, rfl⟩
                              have G : gL D cy ad tv c3 (ps c2 (ps c1 (ps cs (hs)))) A s _ _ := l_eq hc3.symm rfl G
                              have ec3 : c3 k = (shF (c2 k).1 (sbB (c2 k).2.2) (scN (c2 k).2.2 (z / 8) (z % 8)) false, shB (c2 k).2.1 (sbB (c2 k).2.2) (scN (c2 k).2.2 (z / 8) (z % 8)) false, (c2 k).2.2) := by rw [hc3]; exact va_up_e _ _ _
                              refine g_topi (x' := 0) (congrArg nI (by simp only [ec2, lo_f, lw_b, sc_0]; exact kd_lb hz c_129 hsz)) ?_
                              refine lv_istore (lv' := [(11, .int 0), (7, .int 1), (10, .int 3), (9, .int (bI (tb (cs k).1 z))), (8, .int (nI ((cs k).2.2))), (6, .int (nI w)), (5, .int (nI (uU (cs k).1 (cs k).2.1 z))), (3, .long (dgC cs)), (0, .ref (ad 0)), (1, .int (nI k)), (2, .int (nI z))]) hx hb dL_isAhead_225 hl (by decide) rfl (fun ls hl => ?_)
                              refine lv_iload hx hb dL_isAhead_227 (lv_at hl 1 rfl) ?_
                              refine lv_if_eq (tgt := 263) hx hb dL_isAhead_229 (by decide) (fun c_229 => ?_) (fun c_229 => ?_)
                              · exact absurd c_229 (by decide)
                              · skip
                                refine lv_iload hx hb dL_isAhead_232 (lv_at hl 0 rfl) ?_
                                refine lv_iconst (v := 2) hx hb dL_isAhead_234 (by decide) ?_
                                refine lv_icmp_ge (tgt := 263) hx hb dL_isAhead_235 (by decide) (fun c_235 => ?_) (fun c_235 => ?_)
                                · exact absurd c_235 (by decide)
                                · skip
                                  have hlt : (hs.take 3).length ≤ 3 := by rw [List.length_take]; omega
                                  have G : gL D cy ad tv c3 (c2 :: c1 :: cs :: hs.take 3) A s _ _ := l_eq rfl (ps_3 cs c1 c2 hs) G
                                  refine lv_aload_n hx hb dL_isAhead_238 rfl (lv_at hl 8 rfl) ?_
                                  refine l_callV (As := []) (rest := []) (cs' := c2) (hs' := c1 :: cs :: hs.take 3) (r := .int (nI ((c1 :: cs :: hs.take 3).length))) C0 G (l_undo l D cy ad tv c3 (c1 :: cs :: hs.take 3) c2) k_X4_undo ml_L_111 dL_isAhead_239 rfl rfl hl.1 (Nat.le_of_ble_eq_true rfl) ⟨Nat.le_of_ble_eq_true rfl, Nat.le_of_ble_eq_true rfl⟩ ⟨Nat.le_of_ble_eq_true rfl, Nat.le_of_ble_eq_true rfl⟩ (fun H locs G => ?_)
                                  refine g_topi (x' := nI ((hs.take 3).length + 2)) rfl ?_
                                  refine lv_if_lt (tgt := 263) hx hb dL_isAhead_242 (by decide) (fun c_242 => ?_) (fun c_242 => ?_)
                                  · skip
                                    have c_242 : ((hs.take 3).length + 2) < 0 := (nI_ltI (a := (hs.take 3).length + 2) (b := 0) (by omega) (by omega)).mp c_242
                                    exact absurd c_242 (by omega)
                                  · skip
                                    have c_242 : ¬ (((hs.take 3).length + 2) < 0) := fun h => c_242 ((nI_ltI (a := (hs.take 3).length + 2) (b := 0) (by omega) (by omega)).mpr h)
                                    refine lv_aload_n hx hb dL_isAhead_245 rfl (lv_at hl 8 rfl) ?_
                                    refine l_callV (As := []) (rest := []) (cs' := c1) (hs' := cs :: hs.take 3) (r := .int (nI ((cs :: hs.take 3).length))) C0 G (l_undo l D cy ad tv c2 (cs :: hs.take 3) c1) k_X4_undo ml_L_111 dL_isAhead_246 rfl rfl hl.1 (Nat.le_of_ble_eq_true rfl) ⟨Nat.le_of_ble_eq_true rfl, Nat.le_of_ble_eq_true rfl⟩ ⟨Nat.le_of_ble_eq_true rfl, Nat.le_of_ble_eq_true rfl⟩ (fun H locs G => ?_)
                                    refine g_topi (x' := nI ((hs.take 3).length + 1)) rfl ?_
                                    refine lv_if_lt (tgt := 263) hx hb dL_isAhead_249 (by decide) (fun c_249 => ?_) (fun c_249 => ?_)
                                    · skip
                                      have c_249 : ((hs.take 3).length + 1) < 0 := (nI_ltI (a := (hs.take 3).length + 1) (b := 0) (by omega) (by omega)).mp c_249
                                      exact absurd c_249 (by omega)
                                    · skip
                                      have c_249 : ¬ (((hs.take 3).length + 1) < 0) := fun h => c_249 ((nI_ltI (a := (hs.take 3).length + 1) (b := 0) (by omega) (by omega)).mpr h)
                                      refine lv_aload_n hx hb dL_isAhead_252 rfl (lv_at hl 8 rfl) ?_
                                      refine l_callV (As := []) (rest := []) (cs' := cs) (hs' := hs.take 3) (r := .int (nI ((hs.take 3).length))) C0 G (l_undo l D cy ad tv c1 (hs.take 3) cs) k_X4_undo ml_L_111 dL_isAhead_253 rfl rfl hl.1 (Nat.le_of_ble_eq_true rfl) ⟨Nat.le_of_ble_eq_true rfl, Nat.le_of_ble_eq_true rfl⟩ ⟨Nat.le_of_ble_eq_true rfl, Nat.le_of_ble_eq_true rfl⟩ (fun H locs G => ?_)
                                      refine lv_if_lt (tgt := 263) hx hb dL_isAhead_256 (by decide) (fun c_256 => ?_) (fun c_256 => ?_)
                                      · skip
                                        have c_256 : ((hs.take 3).length) < 0 := (nI_ltI (a := (hs.take 3).length) (b := 0) (by omega) (by omega)).mp c_256
                                        exact absurd c_256 (by omega)
                                      · skip
                                        have c_256 : ¬ (((hs.take 3).length) < 0) := fun h => c_256 ((nI_ltI (a := (hs.take 3).length) (b := 0) (by omega) (by omega)).mpr h)
                                        refine lv_iconst (v := 1) hx hb dL_isAhead_259 (by decide) ?_
                                        refine lv_goto (tgt := 264) hx hb dL_isAhead_260 (by decide) ?_
                                        refine lv_istore (lv' := [(7, .int 1), (11, .int 0), (10, .int 3), (9, .int (bI (tb (cs k).1 z))), (8, .int (nI ((cs k).2.2))), (6, .int (nI w)), (5, .int (nI (uU (cs k).1 (cs k).2.1 z))), (3, .long (dgC cs)), (0, .ref (ad 0)), (1, .int (nI k)), (2, .int (nI z))]) hx hb dL_isAhead_264 hl (by decide) rfl (fun ls hl => ?_)
                                        refine lv_iload hx hb dL_isAhead_266 (lv_at hl 0 rfl) ?_
                                        refine lv_if_eq (tgt := 284) hx hb dL_isAhead_268 (by decide) (fun c_268 => ?_) (fun c_268 => ?_)
                                        · exact absurd c_268 (by decide)
                                        · skip
                                          refine lv_aload_n hx hb dL_isAhead_271 rfl (lv_at hl 8 rfl) ?_
                                          refine l_callV (As := []) (rest := []) (cs' := cs) (hs' := hs.take 3) (r := .long (dgC cs)) C0 G (l_digest l D cy ad tv cs (hs.take 3) hv) k_X4_digest ml_L_104 dL_isAhead_272 rfl rfl hl.1 (Nat.le_of_ble_eq_true rfl) ⟨Nat.le_of_ble_eq_true rfl, Nat.le_of_ble_eq_true rfl⟩ ⟨Nat.le_of_ble_eq_true rfl, Nat.le_of_ble_eq_true rfl⟩ (fun H locs G => ?_)
                                          refine lv_lload_n hx hb dL_isAhead_275 rfl (lv_at hl 7 rfl) ?_
                                          refine W.lcmp hx hb dL_isAhead_276 ?_
                                          refine lv_if_ne (tgt := 284) hx hb dL_isAhead_277 (by decide) (fun c_277 => ?_) (fun c_277 => ?_)
                                          · skip
                                            have c_277 : ¬ (dgC cs) = (dgC cs) := fun h => c_277 (lgc_eq.mpr h)
                                            exact absurd rfl c_277
                                          · skip
                                            have c_277 : (dgC cs) = (dgC cs) := lgc_eq.mp c_277
                                            refine lv_iconst (v := 1) hx hb dL_isAhead_280 (by decide) ?_
                                            refine lv_goto (tgt := 285) hx hb dL_isAhead_281 (by decide) ?_
                                            have G : gL D cy ad tv cs (if tb (sdW (cs k).1 (cs k).2.1) z then hs.take 3 else hs) A s _ _ := l_eq rfl (if_pos hsz).symm G
                                            exact l_zret C0 G rfl dL_isAhead_285
                            · skip
                              have c_193 : (tb (cs k).1 z) = true := bI_t c_193
                              exact absurd (c_129.symm.trans c_193) (by decide)
                    · skip
                      have c_129 : (tb (cs k).1 z) = true := bI_t c_129
                      refine lv_aload_n hx hb dL_isAhead_132 rfl (lv_at hl 6 rfl) ?_
                      refine lv_iload_n hx hb dL_isAhead_133 rfl (lv_at hl 7 rfl) ?_
                      refine lv_iload_n hx hb dL_isAhead_134 rfl (lv_at hl 8 rfl) ?_
                      refine lv_bipush (v := 8) hx hb dL_isAhead_135 (by decide) ?_
                      refine lv_idiv hx hb dL_isAhead_137 (by decide) ?_
                      refine g_topi (x' := nI (z / 8)) (pk_div (a := z) (d := 8) (by omega) (by decide) (by decide)) ?_
                      refine lv_iload_n hx hb dL_isAhead_138 rfl (lv_at hl 8 rfl) ?_
                      refine lv_bipush (v := 8) hx hb dL_isAhead_139 (by decide) ?_
                      refine lv_irem hx hb dL_isAhead_141 (by decide) ?_
                      refine g_topi (x' := nI (z % 8)) (pk_rem (a := z) (d := 8) (by omega) (by decide) (by decide)) ?_
                      refine l_callV (As := [.int (nI k), .int (nI (z / 8)), .int (nI (z % 8))]) (rest := []) (cs' := va_up c1 k (shF (c1 k).1 (sbB (c1 k).2.2) (scN (c1 k).2.2 (z / 8) (z % 8)) false, shB (c1 k).2.1 (sbB (c1 k).2.2) (scN (c1 k).2.2 (z / 8) (z % 8)) false, (c1 k).2.2)) (hs' := ps c1 (ps cs (hs))) (r := .int (nI (kdN (shF (c1 k).1 (sbB (c1 k).2.2) (scN (c1 k).2.2 (z / 8) (z % 8)) false) (shB (c1 k).2.1 (sbB (c1 k).2.2) (scN (c1 k).2.2 (z / 8) (z % 8)) false) (scN (c1 k).2.2 (z / 8) (z % 8))))) C0 G (l_lose l D cy ad tv c1 (ps cs (hs)) k (z / 8) (z % 8) (by omega) (by omega) (by omega) (by rw [ec1]; exact (by decide : (0 : Nat) < 4)) (by rw [ec1]; exact ho_0.trans c_129)) k_X4_lose ml_L_75 dL_isAhead_142 rfl rfl hl.1 (Nat.le_of_ble_eq_true rfl) ⟨Nat.le_of_ble_eq_true rfl, Nat.le_of_ble_eq_true rfl⟩ ⟨Nat.le_of_ble_eq_true rfl, Nat.le_of_ble_eq_true rfl⟩ (fun H locs G => ?_)
                      obtain ⟨c2, hc2⟩ : ∃ g9 : Nat → Cd, g9 = va_up c1 k (shF (c1 k).1 (sbB (c1 k).2.2) (scN (c1 k).2.2 (z / 8) (z % 8)) false, shB (c1 k).2.1 (sbB (c1 k).2.2) (scN (c1 k).2.2 (z / 8) (z % 8)) false, (c1 k).2.2) := ⟨_, rfl⟩
                      have G : gL D cy ad tv c2 (ps c1 (ps cs (hs))) A s _ _ := l_eq hc2.symm rfl G
                      have ec2 : c2 k = (shF (c1 k).1 (sbB (c1 k).2.2) (scN (c1 k).2.2 (z / 8) (z % 8)) false, shB (c1 k).2.1 (sbB (c1 k).2.2) (scN (c1 k).2.2 (z / 8) (z % 8)) false, (c1 k).2.2) := by rw [hc2]; exact va_up_e _ _ _
                      simp only [ec1, lo_f, lw_b] at ec2
                      refine g_topi (x' := 2) (congrArg nI (by simp only [ec1, lo_f, lw_b, sc_0]; exact kd_lo hz c_129 hsz)) ?_
                      refine lv_goto (tgt := 161) hx hb dL_isAhead_145 (by decide) ?_
                      refine lv_istore (lv' := [(10, .int 2), (9, .int (bI (tb (cs k).1 z))), (8, .int (nI ((cs k).2.2))), (7, .int 1), (6, .int (nI w)), (5, .int (nI (uU (cs k).1 (cs k).2.1 z))), (3, .long (dgC cs)), (0, .ref (ad 0)), (1, .int (nI k)), (2, .int (nI z))]) hx hb dL_isAhead_161 hl (by decide) rfl (fun ls hl => ?_)
                      refine lv_iload hx hb dL_isAhead_163 (lv_at hl 2 rfl) ?_
                      refine lv_if_lt (tgt := 188) hx hb dL_isAhead_165 (by decide) (fun c_165 => ?_) (fun c_165 => ?_)
                      · skip
                        have c_165 : ((cs k).2.2) < 0 := (nI_ltI (a := (cs k).2.2) (b := 0) (by omega) (by omega)).mp c_165
                        exact absurd c_165 (by omega)
                      · skip
                        have c_165 : ¬ (((cs k).2.2) < 0) := fun h => c_165 ((nI_ltI (a := (cs k).2.2) (b := 0) (by omega) (by omega)).mpr h)
                        refine lv_iload hx hb dL_isAhead_168 (lv_at hl 0 rfl) ?_
                        refine lv_iconst (v := 1) hx hb dL_isAhead_170 (by decide) ?_
                        refine lv_icmp_le (tgt := 188) hx hb dL_isAhead_171 (by decide) (fun c_171 => ?_) (fun c_171 => ?_)
                        · exact absurd c_171 (by decide)
                        · skip
                          refine lv_aload_n hx hb dL_isAhead_174 rfl (lv_at hl 7 rfl) ?_
                          refine lv_iload_n hx hb dL_isAhead_175 rfl (lv_at hl 8 rfl) ?_
                          refine l_callV (As := [.int (nI k)]) (rest := []) (cs' := c2) (hs' := ps c1 (ps cs (hs))) (r := .int (nI (pc ((tK (c2 k)) ^^^ (-1))))) C0 G (l_untold l D cy ad tv c2 (ps c1 (ps cs (hs))) k (by omega)) k_X4_untold ml_L_39 dL_isAhead_176 rfl rfl hl.1 (Nat.le_of_ble_eq_true rfl) ⟨Nat.le_of_ble_eq_true rfl, Nat.le_of_ble_eq_true rfl⟩ ⟨Nat.le_of_ble_eq_true rfl, Nat.le_of_ble_eq_true rfl⟩ (fun H locs G => ?_)
                          refine g_topi (x' := nI (uU (cs k).1 (cs k).2.1 z)) (congrArg nI (by rw [ec2, uw_lo hz c_129 hsz]; rfl)) ?_
                          refine lv_iload hx hb dL_isAhead_179 (lv_at hl 5 rfl) ?_
                          refine lv_icmp_ne (tgt := 188) hx hb dL_isAhead_181 (by decide) (fun c_181 => ?_) (fun c_181 => ?_)
                          · skip
                            have c_181 : ¬ ((uU (cs k).1 (cs k).2.1 z) = (uU (cs k).1 (cs k).2.1 z)) := fun h => c_181 ((nI_eq (a := uU (cs k).1 (cs k).2.1 z) (b := uU (cs k).1 (cs k).2.1 z) (by omega) (by omega)).mpr h)
                            exact absurd rfl c_181
                          · skip
                            have c_181 : (uU (cs k).1 (cs k).2.1 z) = (uU (cs k).1 (cs k).2.1 z) := (nI_eq (a := uU (cs k).1 (cs k).2.1 z) (b := uU (cs k).1 (cs k).2.1 z) (by omega) (by omega)).mp c_181
                            refine lv_iconst (v := 1) hx hb dL_isAhead_184 (by decide) ?_
                            refine lv_goto (tgt := 189) hx hb dL_isAhead_185 (by decide) ?_
                            refine lv_istore (lv' := [(7, .int 1), (10, .int 2), (9, .int (bI (tb (cs k).1 z))), (8, .int (nI ((cs k).2.2))), (6, .int (nI w)), (5, .int (nI (uU (cs k).1 (cs k).2.1 z))), (3, .long (dgC cs)), (0, .ref (ad 0)), (1, .int (nI k)), (2, .int (nI z))]) hx hb dL_isAhead_189 hl (by decide) rfl (fun ls hl => ?_)
                            refine lv_iload hx hb dL_isAhead_191 (lv_at hl 2 rfl) ?_
                            refine lv_if_eq (tgt := 212) hx hb dL_isAhead_193 (by decide) (fun c_193 => ?_) (fun c_193 => ?_)
                            · skip
                              have c_193 : (tb (cs k).1 z) = false := bI_f c_193
                              exact absurd (c_129.symm.trans c_193) (by decide)
                            · skip
                              have c_193 : (tb (cs k).1 z) = true := bI_t c_193
                              refine lv_aload_n hx hb dL_isAhead_196 rfl (lv_at hl 7 rfl) ?_
                              refine lv_iload_n hx hb dL_isAhead_197 rfl (lv_at hl 8 rfl) ?_
                              refine lv_iload_n hx hb dL_isAhead_198 rfl (lv_at hl 9 rfl) ?_
                              refine lv_bipush (v := 8) hx hb dL_isAhead_199 (by decide) ?_
                              refine lv_idiv hx hb dL_isAhead_201 (by decide) ?_
                              refine g_topi (x' := nI (z / 8)) (pk_div (a := z) (d := 8) (by omega) (by decide) (by decide)) ?_
                              refine lv_iload_n hx hb dL_isAhead_202 rfl (lv_at hl 9 rfl) ?_
                              refine lv_bipush (v := 8) hx hb dL_isAhead_203 (by decide) ?_
                              refine lv_irem hx hb dL_isAhead_205 (by decide) ?_
                              refine g_topi (x' := nI (z % 8)) (pk_rem (a := z) (d := 8) (by omega) (by decide) (by decide)) ?_
                              refine l_callV (As := [.int (nI k), .int (nI (z / 8)), .int (nI (z % 8))]) (rest := []) (cs' := va_up c2 k (shF (c2 k).1 (sbB (c2 k).2.2) (scN (c2 k).2.2 (z / 8) (z % 8)) true, shB (c2 k).2.1 (sbB (c2 k).2.2) (scN (c2 k).2.2 (z / 8) (z % 8)) true, (c2 k).2.2)) (hs' := ps c2 (ps c1 (ps cs (hs)))) (r := .int (nI (kdN (shF (c2 k).1 (sbB (c2 k).2.2) (scN (c2 k).2.2 (z / 8) (z % 8)) true) (shB (c2 k).2.1 (sbB (c2 k).2.2) (scN (c2 k).2.2 (z / 8) (z % 8)) true) (scN (c2 k).2.2 (z / 8) (z % 8))))) C0 G (l_wear l D cy ad tv c2 (ps c1 (ps cs (hs))) k (z / 8) (z % 8) (by omega) (by omega) (by omega) (by rw [ec2]; exact (by decide : (0 : Nat) < 4)) (by rw [ec2]; exact ho_0.trans ((tb_cl hz hz).trans (by simp)))) k_X4_wear ml_L_78 dL_isAhead_206 rfl rfl hl.1 (Nat.le_of_ble_eq_true rfl) ⟨Nat.le_of_ble_eq_true rfl, Nat.le_of_ble_eq_true rfl⟩ ⟨Nat.le_of_ble_eq_true rfl, Nat.le_of_ble_eq_true rfl⟩ (fun H locs G => ?_)
                              obtain ⟨c3, hc3⟩ : ∃ g9 : Nat → Cd, g9 = va_up c2 k (shF (c2 k).1 (sbB (c2 k).2.2) (scN (c2 k).2.2 (z / 8) (z % 8)) true, shB (c2 k).2.1 (sbB (c2 k).2.2) (scN (c2 k).2.2 (z / 8) (z % 8)) true, (c2 k).2.2) := ⟨_, rfl⟩
                              have G : gL D cy ad tv c3 (ps c2 (ps c1 (ps cs (hs)))) A s _ _ := l_eq hc3.symm rfl G
                              have ec3 : c3 k = (shF (c2 k).1 (sbB (c2 k).2.2) (scN (c2 k).2.2 (z / 8) (z % 8)) true, shB (c2 k).2.1 (sbB (c2 k).2.2) (scN (c2 k).2.2 (z / 8) (z % 8)) true, (c2 k).2.2) := by rw [hc3]; exact va_up_e _ _ _
                              refine g_topi (x' := 1) (congrArg nI (by simp only [ec2, we_f, lw_b, sc_0]; exact kd_wb hz c_129 hsz)) ?_
                              refine lv_goto (tgt := 225) hx hb dL_isAhead_209 (by decide) ?_
                              refine lv_istore (lv' := [(11, .int 1), (7, .int 1), (10, .int 2), (9, .int (bI (tb (cs k).1 z))), (8, .int (nI ((cs k).2.2))), (6, .int (nI w)), (5, .int (nI (uU (cs k).1 (cs k).2.1 z))), (3, .long (dgC cs)), (0, .ref (ad 0)), (1, .int (nI k)), (2, .int (nI z))]) hx hb dL_isAhead_225 hl (by decide) rfl (fun ls hl => ?_)
                              refine lv_iload hx hb dL_isAhead_227 (lv_at hl 1 rfl) ?_
                              refine lv_if_eq (tgt := 263) hx hb dL_isAhead_229 (by decide) (fun c_229 => ?_) (fun c_229 => ?_)
                              · exact absurd c_229 (by decide)
                              · skip
                                refine lv_iload hx hb dL_isAhead_232 (lv_at hl 0 rfl) ?_
                                refine lv_iconst (v := 2) hx hb dL_isAhead_234 (by decide) ?_
                                refine lv_icmp_ge (tgt := 263) hx hb dL_isAhead_235 (by decide) (fun c_235 => ?_) (fun c_235 => ?_)
                                · exact absurd c_235 (by decide)
                                · skip
                                  have hlt : (hs.take 3).length ≤ 3 := by rw [List.length_take]; omega
                                  have G : gL D cy ad tv c3 (c2 :: c1 :: cs :: hs.take 3) A s _ _ := l_eq rfl (ps_3 cs c1 c2 hs) G
                                  refine lv_aload_n hx hb dL_isAhead_238 rfl (lv_at hl 8 rfl) ?_
                                  refine l_callV (As := []) (rest := []) (cs' := c2) (hs' := c1 :: cs :: hs.take 3) (r := .int (nI ((c1 :: cs :: hs.take 3).length))) C0 G (l_undo l D cy ad tv c3 (c1 :: cs :: hs.take 3) c2) k_X4_undo ml_L_111 dL_isAhead_239 rfl rfl hl.1 (Nat.le_of_ble_eq_true rfl) ⟨Nat.le_of_ble_eq_true rfl, Nat.le_of_ble_eq_true rfl⟩ ⟨Nat.le_of_ble_eq_true rfl, Nat.le_of_ble_eq_true rfl⟩ (fun H locs G => ?_)
                                  refine g_topi (x' := nI ((hs.take 3).length + 2)) rfl ?_
                                  refine lv_if_lt (tgt := 263) hx hb dL_isAhead_242 (by decide) (fun c_242 => ?_) (fun c_242 => ?_)
                                  · skip
                                    have c_242 : ((hs.take 3).length + 2) < 0 := (nI_ltI (a := (hs.take 3).length + 2) (b := 0) (by omega) (by omega)).mp c_242
                                    exact absurd c_242 (by omega)
                                  · skip
                                    have c_242 : ¬ (((hs.take 3).length + 2) < 0) := fun h => c_242 ((nI_ltI (a := (hs.take 3).length + 2) (b := 0) (by omega) (by omega)).mpr h)
                                    refine lv_aload_n hx hb dL_isAhead_245 rfl (lv_at hl 8 rfl) ?_
                                    refine l_callV (As := []) (rest := []) (cs' := c1) (hs' := cs :: hs.take 3) (r := .int (nI ((cs :: hs.take 3).length))) C0 G (l_undo l D cy ad tv c2 (cs :: hs.take 3) c1) k_X4_undo ml_L_111 dL_isAhead_246 rfl rfl hl.1 (Nat.le_of_ble_eq_true rfl) ⟨Nat.le_of_ble_eq_true rfl, Nat.le_of_ble_eq_true rfl⟩ ⟨Nat.le_of_ble_eq_true rfl, Nat.le_of_ble_eq_true rfl⟩ (fun H locs G => ?_)
                                    refine g_topi (x' := nI ((hs.take 3).length + 1)) rfl ?_
                                    refine lv_if_lt (tgt := 263) hx hb dL_isAhead_249 (by decide) (fun c_249 => ?_) (fun c_249 => ?_)
                                    · skip
                                      have c_249 : ((hs.take 3).length + 1) < 0 := (nI_ltI (a := (hs.take 3).length + 1) (b := 0) (by omega) (by omega)).mp c_249
                                      exact absurd c_249 (by omega)
                                    · skip
                                      have c_249 : ¬ (((hs.take 3).length + 1) < 0) := fun h => c_249 ((nI_ltI (a := (hs.take 3).length + 1) (b := 0) (by omega) (by omega)).mpr h)
                                      refine lv_aload_n hx hb dL_isAhead_252 rfl (lv_at hl 8 rfl) ?_
                                      refine l_callV (As := []) (rest := []) (cs' := cs) (hs' := hs.take 3) (r := .int (nI ((hs.take 3).length))) C0 G (l_undo l D cy ad tv c1 (hs.take 3) cs) k_X4_undo ml_L_111 dL_isAhead_253 rfl rfl hl.1 (Nat.le_of_ble_eq_true rfl) ⟨Nat.le_of_ble_eq_true rfl, Nat.le_of_ble_eq_true rfl⟩ ⟨Nat.le_of_ble_eq_true rfl, Nat.le_of_ble_eq_true rfl⟩ (fun H locs G => ?_)
                                      refine lv_if_lt (tgt := 263) hx hb dL_isAhead_256 (by decide) (fun c_256 => ?_) (fun c_256 => ?_)
                                      · skip
                                        have c_256 : ((hs.take 3).length) < 0 := (nI_ltI (a := (hs.take 3).length) (b := 0) (by omega) (by omega)).mp c_256
                                        exact absurd c_256 (by omega)
                                      · skip
                                        have c_256 : ¬ (((hs.take 3).length) < 0) := fun h => c_256 ((nI_ltI (a := (hs.take 3).length) (b := 0) (by omega) (by omega)).mpr h)
                                        refine lv_iconst (v := 1) hx hb dL_isAhead_259 (by decide) ?_
                                        refine lv_goto (tgt := 264) hx hb dL_isAhead_260 (by decide) ?_
                                        refine lv_istore (lv' := [(7, .int 1), (11, .int 1), (10, .int 2), (9, .int (bI (tb (cs k).1 z))), (8, .int (nI ((cs k).2.2))), (6, .int (nI w)), (5, .int (nI (uU (cs k).1 (cs k).2.1 z))), (3, .long (dgC cs)), (0, .ref (ad 0)), (1, .int (nI k)), (2, .int (nI z))]) hx hb dL_isAhead_264 hl (by decide) rfl (fun ls hl => ?_)
                                        refine lv_iload hx hb dL_isAhead_266 (lv_at hl 0 rfl) ?_
                                        refine lv_if_eq (tgt := 284) hx hb dL_isAhead_268 (by decide) (fun c_268 => ?_) (fun c_268 => ?_)
                                        · exact absurd c_268 (by decide)
                                        · skip
                                          refine lv_aload_n hx hb dL_isAhead_271 rfl (lv_at hl 8 rfl) ?_
                                          refine l_callV (As := []) (rest := []) (cs' := cs) (hs' := hs.take 3) (r := .long (dgC cs)) C0 G (l_digest l D cy ad tv cs (hs.take 3) hv) k_X4_digest ml_L_104 dL_isAhead_272 rfl rfl hl.1 (Nat.le_of_ble_eq_true rfl) ⟨Nat.le_of_ble_eq_true rfl, Nat.le_of_ble_eq_true rfl⟩ ⟨Nat.le_of_ble_eq_true rfl, Nat.le_of_ble_eq_true rfl⟩ (fun H locs G => ?_)
                                          refine lv_lload_n hx hb dL_isAhead_275 rfl (lv_at hl 7 rfl) ?_
                                          refine W.lcmp hx hb dL_isAhead_276 ?_
                                          refine lv_if_ne (tgt := 284) hx hb dL_isAhead_277 (by decide) (fun c_277 => ?_) (fun c_277 => ?_)
                                          · skip
                                            have c_277 : ¬ (dgC cs) = (dgC cs) := fun h => c_277 (lgc_eq.mpr h)
                                            exact absurd rfl c_277
                                          · skip
                                            have c_277 : (dgC cs) = (dgC cs) := lgc_eq.mp c_277
                                            refine lv_iconst (v := 1) hx hb dL_isAhead_280 (by decide) ?_
                                            refine lv_goto (tgt := 285) hx hb dL_isAhead_281 (by decide) ?_
                                            have G : gL D cy ad tv cs (if tb (sdW (cs k).1 (cs k).2.1) z then hs.take 3 else hs) A s _ _ := l_eq rfl (if_pos hsz).symm G
                                            exact l_zret C0 G rfl dL_isAhead_285
        · skip
          have c_51 : ((pc (kdW (cs k).1 (cs k).2.1 0)) + (pc (kdW (cs k).1 (cs k).2.1 1))) = 0 := (nI_eq (a := (pc (kdW (cs k).1 (cs k).2.1 0)) + (pc (kdW (cs k).1 (cs k).2.1 1))) (b := 0) (by omega) (by omega)).mp c_51
          exact absurd c_51 (by omega)
      · skip
        exact absurd c_30 (nI_nm1 hw)
    · skip
      have hl := hl
      rw [show uwI (cs k).1 (cs k).2.1 z = (-1) from uw_n hsz] at hl
      have hl : lv_has ls 12 [(5, .int (-1)), (3, .long (dgC cs)), (0, .ref (ad 0)), (1, .int (nI k)), (2, .int (nI z))] := hl
      refine lv_aload_n hx hb dL_isAhead_20 rfl (lv_at hl 2 rfl) ?_
      refine lv_iload_n hx hb dL_isAhead_21 rfl (lv_at hl 3 rfl) ?_
      refine l_callV (As := [.int (nI k)]) (rest := []) (cs' := cs) (hs' := hs) (r := .int ((wcS (cs k).1 (cs k).2.1 64).1)) C0 G (l_worst l D cy ad tv cs (hs) k (by omega)) k_X4_worst ml_L_115 dL_isAhead_22 rfl rfl hl.1 (Nat.le_of_ble_eq_true rfl) ⟨Nat.le_of_ble_eq_true rfl, Nat.le_of_ble_eq_true rfl⟩ ⟨Nat.le_of_ble_eq_true rfl, Nat.le_of_ble_eq_true rfl⟩ (fun H locs G => ?_)
      obtain ⟨w, hw, hws, hwe, hwm⟩ := wc_some hs0
      have hmw := uU_le (cs k).1 (cs k).2.1 w
      refine g_topi (x' := nI w) hwe ?_
      refine lv_istore (lv' := [(6, .int (nI w)), (5, .int (-1)), (3, .long (dgC cs)), (0, .ref (ad 0)), (1, .int (nI k)), (2, .int (nI z))]) hx hb dL_isAhead_25 hl (by decide) rfl (fun ls hl => ?_)
      refine lv_iload hx hb dL_isAhead_27 (lv_at hl 0 rfl) ?_
      refine lv_iconst (v := (-1)) hx hb dL_isAhead_29 (by decide) ?_
      refine lv_icmp_ne (tgt := 37) hx hb dL_isAhead_30 (by decide) (fun c_30 => ?_) (fun c_30 => ?_)
      · skip
        refine lv_iconst (v := 0) hx hb dL_isAhead_37 (by decide) ?_
        refine lv_aload_n hx hb dL_isAhead_38 rfl (lv_at hl 3 rfl) ?_
        refine lv_iload_n hx hb dL_isAhead_39 rfl (lv_at hl 4 rfl) ?_
        refine lv_iconst (v := 0) hx hb dL_isAhead_40 (by decide) ?_
        refine l_callV (As := [.int (nI k), .int 0]) (rest := [.int 0]) (cs' := cs) (hs' := hs) (r := .int (nI (pc (kdW (cs k).1 (cs k).2.1 0)))) C0 G (l_count l D cy ad tv cs (hs) k 0 (by omega) (by omega)) k_X4_count ml_L_36 dL_isAhead_41 rfl rfl hl.1 (Nat.le_of_ble_eq_true rfl) ⟨Nat.le_of_ble_eq_true rfl, Nat.le_of_ble_eq_true rfl⟩ ⟨Nat.le_of_ble_eq_true rfl, Nat.le_of_ble_eq_true rfl⟩ (fun H locs G => ?_)
        refine lv_aload_n hx hb dL_isAhead_44 rfl (lv_at hl 3 rfl) ?_
        refine lv_iload_n hx hb dL_isAhead_45 rfl (lv_at hl 4 rfl) ?_
        refine lv_iconst (v := 1) hx hb dL_isAhead_46 (by decide) ?_
        refine l_callV (As := [.int (nI k), .int 1]) (rest := [.int (nI (pc (kdW (cs k).1 (cs k).2.1 0))), .int 0]) (cs' := cs) (hs' := hs) (r := .int (nI (pc (kdW (cs k).1 (cs k).2.1 1)))) C0 G (l_count l D cy ad tv cs (hs) k 1 (by omega) (by omega)) k_X4_count ml_L_36 dL_isAhead_47 rfl rfl hl.1 (Nat.le_of_ble_eq_true rfl) ⟨Nat.le_of_ble_eq_true rfl, Nat.le_of_ble_eq_true rfl⟩ ⟨Nat.le_of_ble_eq_true rfl, Nat.le_of_ble_eq_true rfl⟩ (fun H locs G => ?_)
        refine lv_iadd hx hb dL_isAhead_50 ?_
        refine g_topi (x' := nI ((pc (kdW (cs k).1 (cs k).2.1 0)) + (pc (kdW (cs k).1 (cs k).2.1 1)))) (nI_add (pc (kdW (cs k).1 (cs k).2.1 0)) (pc (kdW (cs k).1 (cs k).2.1 1))) ?_
        refine lv_if_ne (tgt := 58) hx hb dL_isAhead_51 (by decide) (fun c_51 => ?_) (fun c_51 => ?_)
        · skip
          have c_51 : ¬ (((pc (kdW (cs k).1 (cs k).2.1 0)) + (pc (kdW (cs k).1 (cs k).2.1 1))) = 0) := fun h => c_51 ((nI_eq (a := (pc (kdW (cs k).1 (cs k).2.1 0)) + (pc (kdW (cs k).1 (cs k).2.1 1))) (b := 0) (by omega) (by omega)).mpr h)
          refine lv_iconst (v := 0) hx hb dL_isAhead_58 (by decide) ?_
          refine lv_icmp_ne (tgt := 91) hx hb dL_isAhead_59 (by decide) (fun c_59 => ?_) (fun c_59 => ?_)
          · exact absurd c_59 (by decide)
          · skip
            refine lv_iload hx hb dL_isAhead_62 (lv_at hl 1 rfl) ?_
            refine lv_if_lt (tgt := 87) hx hb dL_isAhead_64 (by decide) (fun c_64 => ?_) (fun c_64 => ?_)
            · skip
              refine lv_iconst (v := 1) hx hb dL_isAhead_87 (by decide) ?_
              refine lv_goto (tgt := 92) hx hb dL_isAhead_88 (by decide) ?_
              refine lv_istore (lv' := [(7, .int 1), (6, .int (nI w)), (5, .int (-1)), (3, .long (dgC cs)), (0, .ref (ad 0)), (1, .int (nI k)), (2, .int (nI z))]) hx hb dL_isAhead_92 hl (by decide) rfl (fun ls hl => ?_)
              refine lv_iload hx hb dL_isAhead_94 (lv_at hl 0 rfl) ?_
              refine lv_if_eq (tgt := 266) hx hb dL_isAhead_96 (by decide) (fun c_96 => ?_) (fun c_96 => ?_)
              · exact absurd c_96 (by decide)
              · skip
                refine lv_iload hx hb dL_isAhead_99 (lv_at hl 2 rfl) ?_
                refine lv_if_lt (tgt := 266) hx hb dL_isAhead_101 (by decide) (fun c_101 => ?_) (fun c_101 => ?_)
                · skip
                  refine lv_iload hx hb dL_isAhead_266 (lv_at hl 0 rfl) ?_
                  refine lv_if_eq (tgt := 284) hx hb dL_isAhead_268 (by decide) (fun c_268 => ?_) (fun c_268 => ?_)
                  · exact absurd c_268 (by decide)
                  · skip
                    refine lv_aload_n hx hb dL_isAhead_271 rfl (lv_at hl 4 rfl) ?_
                    refine l_callV (As := []) (rest := []) (cs' := cs) (hs' := hs) (r := .long (dgC cs)) C0 G (l_digest l D cy ad tv cs (hs) hv) k_X4_digest ml_L_104 dL_isAhead_272 rfl rfl hl.1 (Nat.le_of_ble_eq_true rfl) ⟨Nat.le_of_ble_eq_true rfl, Nat.le_of_ble_eq_true rfl⟩ ⟨Nat.le_of_ble_eq_true rfl, Nat.le_of_ble_eq_true rfl⟩ (fun H locs G => ?_)
                    refine lv_lload_n hx hb dL_isAhead_275 rfl (lv_at hl 3 rfl) ?_
                    refine W.lcmp hx hb dL_isAhead_276 ?_
                    refine lv_if_ne (tgt := 284) hx hb dL_isAhead_277 (by decide) (fun c_277 => ?_) (fun c_277 => ?_)
                    · skip
                      have c_277 : ¬ (dgC cs) = (dgC cs) := fun h => c_277 (lgc_eq.mpr h)
                      exact absurd rfl c_277
                    · skip
                      have c_277 : (dgC cs) = (dgC cs) := lgc_eq.mp c_277
                      refine lv_iconst (v := 1) hx hb dL_isAhead_280 (by decide) ?_
                      refine lv_goto (tgt := 285) hx hb dL_isAhead_281 (by decide) ?_
                      have G : gL D cy ad tv cs (if tb (sdW (cs k).1 (cs k).2.1) z then hs.take 3 else hs) A s _ _ := l_eq rfl (if_neg hsz).symm G
                      exact l_zret C0 G rfl dL_isAhead_285
                · exact absurd c_101 (by decide)
            · exact absurd c_64 (by decide)
        · skip
          have c_51 : ((pc (kdW (cs k).1 (cs k).2.1 0)) + (pc (kdW (cs k).1 (cs k).2.1 1))) = 0 := (nI_eq (a := (pc (kdW (cs k).1 (cs k).2.1 0)) + (pc (kdW (cs k).1 (cs k).2.1 1))) (b := 0) (by omega) (by omega)).mp c_51
          exact absurd c_51 (by omega)
      · skip
        exact absurd c_30 (nI_nm1 hw)
