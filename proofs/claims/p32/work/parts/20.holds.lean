/-! what 'holds' rests on -/
theorem rdn_ind (I : Int64 × Int64 → Prop) (h : ∀ w s, I s → I (tl w s)) {s : Int64 × Int64} (h0 : I s) : ∀ n, I (rdn s n) := by
  have hr : ∀ (n : Nat) (s : Int64 × Int64), I s → I (rowsS s n) := by
    intro n
    induction n with
    | zero => intro s hs; exact hs
    | succ n ih => intro s hs; exact h _ _ (ih s hs)
  have hc : ∀ (n : Nat) (s : Int64 × Int64), I s → I (colsS s n) := by
    intro n
    induction n with
    | zero => intro s hs; exact hs
    | succ n ih => intro s hs; exact h _ _ (ih s hs)
  intro n
  induction n with
  | zero => exact h0
  | succ n ih => exact hc 8 _ (hr 8 _ ih)
theorem tl_keep {w : Int64} {s : Int64 × Int64} {z : Nat} (hz : z < 64) (h : tb s.1 z = true) : tb (tl w s).1 z = true ∧ tb (tl w s).2 z = tb s.2 z := by
  refine ⟨tl_ge w s z h, ?_⟩
  show tb (tlO w s.1 s.2) z = _
  unfold tlO
  split
  · split
    · rw [tb_or, ms_off z hz h, Bool.or_false]
    · rfl
  · rfl
theorem fa_keep {sd so : Int64} {z : Nat} (hz : z < 64) (h : tb sd z = true) : tb (fa sd so).1 z = true ∧ tb (fa sd so).2 z = tb so z :=
  rdn_ind (fun s => tb s.1 z = true ∧ tb s.2 z = tb so z) (fun w s hs => ⟨(tl_keep hz hs.1).1, (tl_keep hz hs.1).2.trans hs.2⟩) (s := (sd, so)) ⟨h, rfl⟩ 65
theorem tb_on {f b : Int64} {z : Nat} (hz : z < 64) : tb (onW f b) z = (tb f z && !tb b z) := by unfold onW; rw [tb_and, tb_not hz]
theorem tb_sd {f b : Int64} {z : Nat} : tb (sdW f b) z = (tb f z ^^ tb b z) := tb_xor f b z
theorem unt_le (f b : Int64) : pc ((fa (sdW f b) (onW f b)).1 ^^^ (-1)) ≤ pc (kdW f b 2) + pc (kdW f b 3) := by
  have h1 : cnt (tb (kdW f b 2)) 64 + cnt (tb (kdW f b 3)) 64 = cnt (fun z => !tb (sdW f b) z) 64 := cnt_or (fun k hk => by
    show (tb (blW f b) k = true → tb (f &&& b) k = true → False) ∧ (!tb (sdW f b) k) = (tb (blW f b) k || tb (f &&& b) k)
    rw [tb_bl hk, tb_and, tb_sd]
    cases tb f k <;> cases tb b k <;> simp)
  show cnt (tb _) 64 ≤ cnt (tb (kdW f b 2)) 64 + cnt (tb (kdW f b 3)) 64
  rw [h1, cnt_cong (p := tb ((fa (sdW f b) (onW f b)).1 ^^^ (-1))) (q := fun z => decide (z < 64) && !tb (fa (sdW f b) (onW f b)).1 z) (fun k hk => by rw [tb_not hk, decide_eq_true hk, Bool.true_and])]
  refine cnt_mono (fun k hk => ?_) 64
  simp only [Bool.and_eq_true, decide_eq_true_eq, Bool.not_eq_true'] at hk ⊢
  cases hs : tb (sdW f b) k
  · rfl
  · rw [(fa_keep hk.1 hs).1] at hk
    exact absurd hk.2 (by decide)
theorem rvN_cong {o1 o2 : Int64} {row : Nat} : ∀ {n : Nat}, (∀ c, c < n → tb o1 (8 * row + c) = tb o2 (8 * row + c)) → rvN o1 row n = rvN o2 row n
  | 0, _ => rfl
  | n + 1, h => by
    show 2 * rvN o1 row n + _ = 2 * rvN o2 row n + _
    rw [rvN_cong (n := n) (fun c hc => h c (Nat.lt_succ_of_lt hc)), h n (Nat.lt_succ_self n)]
theorem rv_same {f b : Int64} {row : Nat} (hr : row < 7) (h : ¬ rvI (sdW f b) (onW f b) row = -1) : rvI (fa (sdW f b) (onW f b)).1 (fa (sdW f b) (onW f b)).2 row = rvI (sdW f b) (onW f b) row := by
  unfold rvI at h ⊢
  cases hb : allB (fun j => tb (sdW f b) (8 * row + j)) 7
  · rw [hb] at h; exact absurd rfl h
  · have h1 := allB_iff.mp hb
    have h2 : allB (fun j => tb (fa (sdW f b) (onW f b)).1 (8 * row + j)) 7 = true := allB_iff.mpr (fun c hc => (fa_keep (by omega) (h1 c hc)).1)
    rw [h2, if_pos rfl, if_pos rfl, rvN_cong (fun c hc => (fa_keep (by omega) (h1 c hc)).2)]
def smN (f b : Int64) : Nat → Nat
  | 0 => 0
  | i + 1 => smN f b i + pc (kdW f b i)
theorem pc_sum {a b c : Int64} (h : ∀ k, k < 64 → (tb a k = true → tb b k = true → False) ∧ tb c k = (tb a k || tb b k)) : pc a + pc b = pc c := cnt_or h
theorem sm_01 (f b : Int64) : pc (kdW f b 0) + pc (kdW f b 1) = pc (sdW f b) := pc_sum (fun k hk => by
  show (tb (b &&& (f ^^^ (-1))) k = true → tb (onW f b) k = true → False) ∧ tb (sdW f b) k = (tb (b &&& (f ^^^ (-1))) k || tb (onW f b) k)
  rw [tb_and, tb_not hk, tb_on hk, tb_sd]
  cases tb f k <;> cases tb b k <;> simp)
theorem sm_23 (f b : Int64) : pc (kdW f b 2) + pc (kdW f b 3) = pc (sdW f b ^^^ (-1)) := pc_sum (fun k hk => by
  show (tb (blW f b) k = true → tb (f &&& b) k = true → False) ∧ tb (sdW f b ^^^ (-1)) k = (tb (blW f b) k || tb (f &&& b) k)
  rw [tb_bl hk, tb_and, tb_not hk, tb_sd]
  cases tb f k <;> cases tb b k <;> simp)
theorem pc_m1 : pc (-1) = 64 := by decide +kernel
theorem pc_co (w : Int64) : pc w + pc (w ^^^ (-1)) = 64 := by
  rw [← pc_m1]
  exact pc_sum (fun k hk => by rw [tb_not hk, tb_m1 k hk]; cases tb w k <;> simp)
theorem sm_4 (f b : Int64) : smN f b 4 = 64 := by
  show 0 + pc (kdW f b 0) + pc (kdW f b 1) + pc (kdW f b 2) + pc (kdW f b 3) = 64
  have h1 := sm_01 f b
  have h2 := sm_23 f b
  have h3 := pc_co (sdW f b)
  omega
theorem smN_le (f b : Int64) : ∀ i, smN f b i ≤ 64 * i
  | 0 => Nat.le_refl _
  | i + 1 => by
    have h := smN_le f b i
    have h2 := pc_le (kdW f b i)
    show smN f b i + pc (kdW f b i) ≤ 64 * (i + 1)
    omega
theorem dlS_spec {P : Nat → Bool} {idx : Nat} : ∀ {n j : Nat}, dlS P idx n = some j → j < n ∧ P j = true ∧ cnt P j = idx
  | 0, j, h => by cases h
  | n + 1, j, h => by
    cases h0 : dlS P idx n with
    | some i =>
      simp only [dlS, h0] at h
      cases h
      obtain ⟨h1, h2⟩ := dlS_spec h0
      exact ⟨by omega, h2⟩
    | none =>
      simp only [dlS, h0] at h
      split at h
      · rename_i hc
        cases h
        simp only [Bool.and_eq_true, decide_eq_true_eq] at hc
        exact ⟨Nat.lt_succ_self _, hc⟩
      · cases h
theorem dl_ex {P : Nat → Bool} {q : Nat} (h : q < cnt P 16) : ∃ j, j < 16 ∧ P j = true ∧ cnt P j = q ∧ dlI P q = nI j := by
  cases h0 : dlS P q 16 with
  | none => exact absurd ((dlS_none 16).mp h0) (by omega)
  | some j =>
    obtain ⟨h1, h2, h3⟩ := dlS_spec h0
    exact ⟨j, h1, h2, h3, by unfold dlI; rw [h0]⟩
def lastI (P : Nat → Bool) : Nat → Int32
  | 0 => -1
  | q + 1 => dlI P q
theorem cnt_le2 {P : Nat → Bool} : ∀ {a b : Nat}, a ≤ b → cnt P a ≤ cnt P b
  | a, 0, h => by have : a = 0 := by omega
                  subst this; exact Nat.le_refl _
  | a, b + 1, h => by
    by_cases e : a = b + 1
    · subst e; exact Nat.le_refl _
    · have := cnt_le2 (P := P) (a := a) (b := b) (by omega)
      show cnt P a ≤ cnt P b + (if P b = true then 1 else 0)
      omega
theorem la_lt {P : Nat → Bool} {q j : Nat} (hq : q < cnt P 16) (hj : j < 16) (hc : cnt P j = q) : ¬ nI j ≤ lastI P q := by
  cases q with
  | zero =>
    show ¬ nI j ≤ -1
    rw [Int32.le_iff_toInt_le, nI_toInt (by omega)]
    have : (-1 : Int32).toInt = -1 := by decide
    omega
  | succ q =>
    obtain ⟨i, h1, h2, h3, h4⟩ := dl_ex (P := P) (q := q) (by omega)
    show ¬ nI j ≤ dlI P q
    rw [h4, nI_leI (by omega) (by omega)]
    intro hle
    have := cnt_le2 (P := P) hle
    omega
def bN (on : Int64) (z : Nat) : Nat := if tb on z then 1 else 0
theorem bN_lt (on : Int64) (z : Nat) : bN on z < 2 := by unfold bN; split <;> decide
theorem dg_tb {kn on : Int64} {j e : Nat} (hj : j < 16) (he : e < 8) (h : dgB kn on j = true) : tb kn (lcN j e) = true := by
  have hl := lcN_lt hj he
  unfold dgB at h
  simp only [Bool.and_eq_true, decide_eq_true_eq] at h
  have h1 := congrArg (fun w => tb w (lcN j e)) h.1
  simp only [tb_and, tb_not hl, tb_0, (in_line hj hl).mpr ⟨e, he, rfl⟩, Bool.true_and] at h1
  simpa using h1
theorem dg_bit {kn on : Int64} {j e z : Nat} (hj : j < 16) (he : e < 8) (h : dgB kn on j = true) (hz : z = lcN j e) : biI kn on z = nI (bN on (lcN j e)) := by
  subst hz
  unfold biI bN
  rw [if_pos (dg_tb hj he h)]
  cases tb on (lcN j e) <;> rfl
theorem dg_odd {kn on : Int64} {j : Nat} (hj : j < 16) (h : dgB kn on j = true) : cnt (fun z => tb on (lcN j z)) 8 % 2 = 1 := by
  unfold dgB at h
  simp only [Bool.and_eq_true, decide_eq_true_eq] at h
  have h1 : pc (lineM j &&& on) % 2 = 1 := of_decide_eq_true h.2
  rw [← cnt_line (tb on) j hj]
  rw [show pc (lineM j &&& on) = cnt (fun k => tb (lineM j) k && tb on k) 64 from cnt_cong (fun k _ => tb_and _ _ k)] at h1
  exact h1
theorem told_kind {f b : Int64} {z : Nat} (hz : z < 64) (h : ¬ 1 < kdN f b z) : biI (fa (sdW f b) (onW f b)).1 (fa (sdW f b) (onW f b)).2 z = nI (kdN f b z) := by
  have hs : tb (sdW f b) z = true := by rw [← kdN_sd]; exact decide_eq_true (by omega)
  obtain ⟨h1, h2⟩ := fa_keep (so := onW f b) hz hs
  unfold biI
  rw [if_pos h1, h2, tb_on hz]
  rw [tb_sd] at hs
  unfold kdN
  cases hf : tb f z <;> cases hb : tb b z <;> rw [hf, hb] at hs <;> first | rfl | exact absurd hs (by decide)
theorem uw_sd {f b : Int64} {z : Nat} (h : ¬ 2 ≤ kdN f b z) : ¬ uwI f b z = -1 := by
  have hs : tb (sdW f b) z = true := by rw [← kdN_sd]; exact decide_eq_true (by omega)
  unfold uwI
  rw [hs, if_pos rfl]
  have h1 := pc_le ((uwT f b z).1 ^^^ (-1))
  intro h2
  have h3 := congrArg Int32.toInt h2
  rw [nI_toInt (by omega)] at h3
  have : (-1 : Int32).toInt = -1 := by decide
  omega
theorem uw_no {f b : Int64} {z : Nat} (h : 2 ≤ kdN f b z) : uwI f b z = -1 := by
  have hs : tb (sdW f b) z = false := by rw [← kdN_sd]; exact decide_eq_false (by omega)
  unfold uwI
  rw [hs]; rfl
theorem dc_self0 : ∀ n, n < 65 → Op.cmpValue (FP.dcmp (n64 n) (n64 n)) .l = 0 := by decide +kernel
theorem dc_self {n : Nat} (h : n ≤ 64) : Op.cmpValue (FP.dcmp (n64 n) (n64 n)) .l = 0 := dc_self0 n (by omega)
theorem op_pc (kn on : Int64) : cnt (fun z => decide (biI kn on z = -1)) 64 = pc (kn ^^^ (-1)) := un_pc kn on
set_option maxHeartbeats 4000000 in
set_option maxRecDepth 100000 in
theorem h_holds (l : Launch) (D : va_G) (cy : Nat → ClassId) (ad : Nat → Nat) (tv : Nat) (cs : Nat → Cd) (hs : List (Nat → Cd)) (k : Nat) (hk : k < 3) : GL l D cy ad tv yL_holds cL_holds 11 (some .boolean) 6 [.ref (ad 0), .int (nI k)] cs hs (.int 1) cs hs := by
  refine l_intro (by decide +kernel) (lv := [(0, .ref (ad 0)), (1, .int (nI k))]) rfl (Nat.le_of_ble_eq_true rfl) ?_
  intro p e s m below meth c A C0 G ls hl
  have hx := C0.1
  have hb := C0.2.1
  have hown := C0.2.2.2.2.2.1
  have hts := C0.2.2.2.2.2.2.1
  have hN := cnt_le (dgB (tK (cs k)) (tO (cs k))) 16
  have hU : pc ((tK (cs k)) ^^^ (-1)) ≤ pc (kdW (cs k).1 (cs k).2.1 2) + pc (kdW (cs k).1 (cs k).2.1 3) := unt_le (cs k).1 (cs k).2.1
  have hp0 := pc_le (kdW (cs k).1 (cs k).2.1 0)
  have hp1 := pc_le (kdW (cs k).1 (cs k).2.1 1)
  have hp2 := pc_le (kdW (cs k).1 (cs k).2.1 2)
  have hp3 := pc_le (kdW (cs k).1 (cs k).2.1 3)
  have hpt := pc_le ((tK (cs k)) ^^^ (-1))
  have h01 := sm_01 (cs k).1 (cs k).2.1
  have hps := pc_le (sdW (cs k).1 (cs k).2.1)
  have hs4 := sm_4 (cs k).1 (cs k).2.1
  have hop := op_pc (tK (cs k)) (tO (cs k))
  refine lv_iconst (v := 0) hx hb dL_holds_0 (by decide) ?_
  refine lv_istore_n (lv' := [(2, .int 0), (0, .ref (ad 0)), (1, .int (nI k))]) hx hb dL_holds_1 rfl hl (by decide) rfl (fun ls hl => ?_)
  refine lv_iconst (v := (-1)) hx hb dL_holds_2 (by decide) ?_
  refine lv_istore_n (lv' := [(3, .int (-1)), (2, .int 0), (0, .ref (ad 0)), (1, .int (nI k))]) hx hb dL_holds_3 rfl hl (by decide) rfl (fun ls hl => ?_)
  refine lv_aload_n hx hb dL_holds_4 rfl (lv_at hl 2 rfl) ?_
  refine lv_iload_n hx hb dL_holds_5 rfl (lv_at hl 3 rfl) ?_
  refine l_callV (As := [.int (nI k)]) (rest := []) (cs' := cs) (hs' := hs) (r := .int (nI (cnt (dgB (tK (cs k)) (tO (cs k))) 16))) C0 G (l_disagreements l D cy ad tv cs (hs) k (by omega)) k_X4_disagreements ml_L_90 dL_holds_6 rfl rfl hl.1 (Nat.le_of_ble_eq_true rfl) ⟨Nat.le_of_ble_eq_true rfl, Nat.le_of_ble_eq_true rfl⟩ ⟨Nat.le_of_ble_eq_true rfl, Nat.le_of_ble_eq_true rfl⟩ (fun H locs G => ?_)
  refine lv_istore (lv' := [(4, .int (nI (cnt (dgB (tK (cs k)) (tO (cs k))) 16))), (3, .int (-1)), (2, .int 0), (0, .ref (ad 0)), (1, .int (nI k))]) hx hb dL_holds_9 hl (by decide) rfl (fun ls hl => ?_)
  refine lv_iload hx hb dL_holds_11 (lv_at hl 0 rfl) ?_
  refine lv_if_lt (tgt := 56) hx hb dL_holds_13 (by decide) (fun c_13 => ?_) (fun c_13 => ?_)
  · skip
    have c_13 : (cnt (dgB (tK (cs k)) (tO (cs k))) 16) < 0 := (nI_ltI (a := cnt (dgB (tK (cs k)) (tO (cs k))) 16) (b := 0) (by omega) (by omega)).mp c_13
    exact absurd c_13 (by omega)
  · skip
    have c_13 : ¬ ((cnt (dgB (tK (cs k)) (tO (cs k))) 16) < 0) := fun h => c_13 ((nI_ltI (a := cnt (dgB (tK (cs k)) (tO (cs k))) 16) (b := 0) (by omega) (by omega)).mpr h)
    refine lv_iload hx hb dL_holds_16 (lv_at hl 0 rfl) ?_
    refine lv_bipush (v := 16) hx hb dL_holds_18 (by decide) ?_
    refine lv_icmp_gt (tgt := 56) hx hb dL_holds_20 (by decide) (fun c_20 => ?_) (fun c_20 => ?_)
    · skip
      have c_20 : 16 < (cnt (dgB (tK (cs k)) (tO (cs k))) 16) := (nI_ltI (a := 16) (b := cnt (dgB (tK (cs k)) (tO (cs k))) 16) (by omega) (by omega)).mp c_20
      exact absurd c_20 (by omega)
    · skip
      have c_20 : ¬ (16 < (cnt (dgB (tK (cs k)) (tO (cs k))) 16)) := fun h => c_20 ((nI_ltI (a := 16) (b := cnt (dgB (tK (cs k)) (tO (cs k))) 16) (by omega) (by omega)).mpr h)
      refine lv_aload_n hx hb dL_holds_23 rfl (lv_at hl 3 rfl) ?_
      refine lv_iload_n hx hb dL_holds_24 rfl (lv_at hl 4 rfl) ?_
      refine l_callV (As := [.int (nI k)]) (rest := []) (cs' := cs) (hs' := hs) (r := .int (nI (pc ((tK (cs k)) ^^^ (-1))))) C0 G (l_untold l D cy ad tv cs (hs) k (by omega)) k_X4_untold ml_L_39 dL_holds_25 rfl rfl hl.1 (Nat.le_of_ble_eq_true rfl) ⟨Nat.le_of_ble_eq_true rfl, Nat.le_of_ble_eq_true rfl⟩ ⟨Nat.le_of_ble_eq_true rfl, Nat.le_of_ble_eq_true rfl⟩ (fun H locs G => ?_)
      refine lv_if_lt (tgt := 56) hx hb dL_holds_28 (by decide) (fun c_28 => ?_) (fun c_28 => ?_)
      · skip
        have c_28 : (pc ((tK (cs k)) ^^^ (-1))) < 0 := (nI_ltI (a := pc ((tK (cs k)) ^^^ (-1))) (b := 0) (by omega) (by omega)).mp c_28
        exact absurd c_28 (by omega)
      · skip
        have c_28 : ¬ ((pc ((tK (cs k)) ^^^ (-1))) < 0) := fun h => c_28 ((nI_ltI (a := pc ((tK (cs k)) ^^^ (-1))) (b := 0) (by omega) (by omega)).mpr h)
        refine lv_aload_n hx hb dL_holds_31 rfl (lv_at hl 3 rfl) ?_
        refine lv_iload_n hx hb dL_holds_32 rfl (lv_at hl 4 rfl) ?_
        refine l_callV (As := [.int (nI k)]) (rest := []) (cs' := cs) (hs' := hs) (r := .int (nI (pc ((tK (cs k)) ^^^ (-1))))) C0 G (l_untold l D cy ad tv cs (hs) k (by omega)) k_X4_untold ml_L_39 dL_holds_33 rfl rfl hl.1 (Nat.le_of_ble_eq_true rfl) ⟨Nat.le_of_ble_eq_true rfl, Nat.le_of_ble_eq_true rfl⟩ ⟨Nat.le_of_ble_eq_true rfl, Nat.le_of_ble_eq_true rfl⟩ (fun H locs G => ?_)
        refine lv_aload_n hx hb dL_holds_36 rfl (lv_at hl 3 rfl) ?_
        refine lv_iload_n hx hb dL_holds_37 rfl (lv_at hl 4 rfl) ?_
        refine lv_iconst (v := 2) hx hb dL_holds_38 (by decide) ?_
        refine l_callV (As := [.int (nI k), .int 2]) (rest := [.int (nI (pc ((tK (cs k)) ^^^ (-1))))]) (cs' := cs) (hs' := hs) (r := .int (nI (pc (kdW (cs k).1 (cs k).2.1 2)))) C0 G (l_count l D cy ad tv cs (hs) k 2 (by omega) (by omega)) k_X4_count ml_L_36 dL_holds_39 rfl rfl hl.1 (Nat.le_of_ble_eq_true rfl) ⟨Nat.le_of_ble_eq_true rfl, Nat.le_of_ble_eq_true rfl⟩ ⟨Nat.le_of_ble_eq_true rfl, Nat.le_of_ble_eq_true rfl⟩ (fun H locs G => ?_)
        refine lv_aload_n hx hb dL_holds_42 rfl (lv_at hl 3 rfl) ?_
        refine lv_iload_n hx hb dL_holds_43 rfl (lv_at hl 4 rfl) ?_
        refine lv_iconst (v := 3) hx hb dL_holds_44 (by decide) ?_
        refine l_callV (As := [.int (nI k), .int 3]) (rest := [.int (nI (pc (kdW (cs k).1 (cs k).2.1 2))), .int (nI (pc ((tK (cs k)) ^^^ (-1))))]) (cs' := cs) (hs' := hs) (r := .int (nI (pc (kdW (cs k).1 (cs k).2.1 3)))) C0 G (l_count l D cy ad tv cs (hs) k 3 (by omega) (by omega)) k_X4_count ml_L_36 dL_holds_45 rfl rfl hl.1 (Nat.le_of_ble_eq_true rfl) ⟨Nat.le_of_ble_eq_true rfl, Nat.le_of_ble_eq_true rfl⟩ ⟨Nat.le_of_ble_eq_true rfl, Nat.le_of_ble_eq_true rfl⟩ (fun H locs G => ?_)
        refine lv_iadd hx hb dL_holds_48 ?_
        refine g_topi (x' := nI ((pc (kdW (cs k).1 (cs k).2.1 2)) + (pc (kdW (cs k).1 (cs k).2.1 3)))) (nI_add (pc (kdW (cs k).1 (cs k).2.1 2)) (pc (kdW (cs k).1 (cs k).2.1 3))) ?_
        refine lv_icmp_gt (tgt := 56) hx hb dL_holds_49 (by decide) (fun c_49 => ?_) (fun c_49 => ?_)
        · skip
          have c_49 : ((pc (kdW (cs k).1 (cs k).2.1 2)) + (pc (kdW (cs k).1 (cs k).2.1 3))) < (pc ((tK (cs k)) ^^^ (-1))) := (nI_ltI (a := (pc (kdW (cs k).1 (cs k).2.1 2)) + (pc (kdW (cs k).1 (cs k).2.1 3))) (b := pc ((tK (cs k)) ^^^ (-1))) (by omega) (by omega)).mp c_49
          exact absurd c_49 (by omega)
        · skip
          have c_49 : ¬ (((pc (kdW (cs k).1 (cs k).2.1 2)) + (pc (kdW (cs k).1 (cs k).2.1 3))) < (pc ((tK (cs k)) ^^^ (-1)))) := fun h => c_49 ((nI_ltI (a := (pc (kdW (cs k).1 (cs k).2.1 2)) + (pc (kdW (cs k).1 (cs k).2.1 3))) (b := pc ((tK (cs k)) ^^^ (-1))) (by omega) (by omega)).mpr h)
          refine lv_iconst (v := 1) hx hb dL_holds_52 (by decide) ?_
          refine lv_goto (tgt := 57) hx hb dL_holds_53 (by decide) ?_
          refine lv_istore (lv' := [(5, .int 1), (4, .int (nI (cnt (dgB (tK (cs k)) (tO (cs k))) 16))), (3, .int (-1)), (2, .int 0), (0, .ref (ad 0)), (1, .int (nI k))]) hx hb dL_holds_57 hl (by decide) rfl (fun ls hl => ?_)
          refine lv_iconst (v := 0) hx hb dL_holds_59 (by decide) ?_
          refine lv_istore (lv' := [(6, .int 0), (5, .int 1), (4, .int (nI (cnt (dgB (tK (cs k)) (tO (cs k))) 16))), (3, .int (-1)), (2, .int 0), (0, .ref (ad 0)), (1, .int (nI k))]) hx hb dL_holds_60 hl (by decide) rfl (fun ls hl => ?_)
          have hl := lv_sub hl (l' := [(0, .ref (ad 0)), (1, .int (nI k)), (2, .int 0), (3, .int (-1)), (4, .int (nI (cnt (dgB (tK (cs k)) (tO (cs k))) 16))), (5, .int 1), (6, .int 0)]) [5, 6, 4, 3, 2, 1, 0] rfl
          refine l_loop (σ := Nat) (fun i => 4 - i) (fun i => [(0, .ref (ad 0)), (1, .int (nI k)), (2, .int (nI (smN (cs k).1 (cs k).2.1 i))), (3, .int (-1)), (4, .int (nI (cnt (dgB (tK (cs k)) (tO (cs k))) 16))), (5, .int 1), (6, .int (nI i))]) (fun i => i ≤ 4) ?_ 0 (by show _ ≤ _; omega) G hl
          intro i hi_62 ih_62 H locs ls G hl
          have hsl := smN_le (cs k).1 (cs k).2.1 i
          have hl : lv_has ls 11 [(0, .ref (ad 0)), (1, .int (nI k)), (2, .int (nI (smN (cs k).1 (cs k).2.1 i))), (3, .int (-1)), (4, .int (nI (cnt (dgB (tK (cs k)) (tO (cs k))) 16))), (5, .int 1), (6, .int (nI i))] := hl
          refine lv_iload hx hb dL_holds_62 (lv_at hl 6 rfl) ?_
          refine lv_iconst (v := 4) hx hb dL_holds_64 (by decide) ?_
          refine lv_icmp_ge (tgt := 84) hx hb dL_holds_65 (by decide) (fun c_65 => ?_) (fun c_65 => ?_)
          · skip
            have c_65 : 4 ≤ i := (nI_leI (a := 4) (b := i) (by omega) (by omega)).mp c_65
            obtain rfl : i = 4 := by omega
            have hl : lv_has ls 11 [(0, .ref (ad 0)), (1, .int (nI k)), (2, .int (nI (smN (cs k).1 (cs k).2.1 4))), (3, .int (-1)), (4, .int (nI (cnt (dgB (tK (cs k)) (tO (cs k))) 16))), (5, .int 1), (6, .int (nI 4))] := hl
            refine lv_iconst (v := 0) hx hb dL_holds_84 (by decide) ?_
            refine lv_istore (lv' := [(6, .int 0), (0, .ref (ad 0)), (1, .int (nI k)), (2, .int (nI (smN (cs k).1 (cs k).2.1 4))), (3, .int (-1)), (4, .int (nI (cnt (dgB (tK (cs k)) (tO (cs k))) 16))), (5, .int 1)]) hx hb dL_holds_85 hl (by decide) rfl (fun ls hl => ?_)
            have hl := lv_sub hl (l' := [(0, .ref (ad 0)), (1, .int (nI k)), (2, .int (nI (smN (cs k).1 (cs k).2.1 4))), (3, .int (-1)), (4, .int (nI (cnt (dgB (tK (cs k)) (tO (cs k))) 16))), (5, .int 1), (6, .int 0)]) [1, 2, 3, 4, 5, 6, 0] rfl
            refine l_loop (σ := Nat) (fun i => 7 - i) (fun i => [(0, .ref (ad 0)), (1, .int (nI k)), (2, .int (nI (smN (cs k).1 (cs k).2.1 4))), (3, .int (-1)), (4, .int (nI (cnt (dgB (tK (cs k)) (tO (cs k))) 16))), (5, .int 1), (6, .int (nI i))]) (fun i => i ≤ 7) ?_ 0 (by show _ ≤ _; omega) G hl
            intro i hi_87 ih_87 H locs ls G hl
            have hl : lv_has ls 11 [(0, .ref (ad 0)), (1, .int (nI k)), (2, .int (nI (smN (cs k).1 (cs k).2.1 4))), (3, .int (-1)), (4, .int (nI (cnt (dgB (tK (cs k)) (tO (cs k))) 16))), (5, .int 1), (6, .int (nI i))] := hl
            refine lv_iload hx hb dL_holds_87 (lv_at hl 6 rfl) ?_
            refine lv_bipush (v := 7) hx hb dL_holds_89 (by decide) ?_
            refine lv_icmp_ge (tgt := 140) hx hb dL_holds_91 (by decide) (fun c_91 => ?_) (fun c_91 => ?_)
            · skip
              have c_91 : 7 ≤ i := (nI_leI (a := 7) (b := i) (by omega) (by omega)).mp c_91
              obtain rfl : i = 7 := by omega
              have hl : lv_has ls 11 [(0, .ref (ad 0)), (1, .int (nI k)), (2, .int (nI (smN (cs k).1 (cs k).2.1 4))), (3, .int (-1)), (4, .int (nI (cnt (dgB (tK (cs k)) (tO (cs k))) 16))), (5, .int 1), (6, .int (nI 7))] := hl
              refine lv_iconst (v := 0) hx hb dL_holds_140 (by decide) ?_
              refine lv_istore (lv' := [(6, .int 0), (0, .ref (ad 0)), (1, .int (nI k)), (2, .int (nI (smN (cs k).1 (cs k).2.1 4))), (3, .int (-1)), (4, .int (nI (cnt (dgB (tK (cs k)) (tO (cs k))) 16))), (5, .int 1)]) hx hb dL_holds_141 hl (by decide) rfl (fun ls hl => ?_)
              have hl := lv_sub hl (l' := [(0, .ref (ad 0)), (1, .int (nI k)), (2, .int (nI (smN (cs k).1 (cs k).2.1 4))), (3, .int (-1)), (4, .int (nI (cnt (dgB (tK (cs k)) (tO (cs k))) 16))), (5, .int 1), (6, .int 0)]) [1, 2, 3, 4, 5, 6, 0] rfl
              refine l_loop (σ := Nat) (fun q => 17 - q) (fun q => [(0, .ref (ad 0)), (1, .int (nI k)), (2, .int (nI (smN (cs k).1 (cs k).2.1 4))), (3, .int (lastI (dgB (tK (cs k)) (tO (cs k))) q)), (4, .int (nI (cnt (dgB (tK (cs k)) (tO (cs k))) 16))), (5, .int 1), (6, .int (nI q))]) (fun q => q ≤ 16) ?_ 0 (by show _ ≤ _; omega) G hl
              intro q hi_143 ih_143 H locs ls G hl
              have hl : lv_has ls 11 [(0, .ref (ad 0)), (1, .int (nI k)), (2, .int (nI (smN (cs k).1 (cs k).2.1 4))), (3, .int (lastI (dgB (tK (cs k)) (tO (cs k))) q)), (4, .int (nI (cnt (dgB (tK (cs k)) (tO (cs k))) 16))), (5, .int 1), (6, .int (nI q))] := hl
              refine lv_iload hx hb dL_holds_143 (lv_at hl 6 rfl) ?_
              refine lv_iload hx hb dL_holds_145 (lv_at hl 4 rfl) ?_
              refine lv_icmp_ge (tgt := 275) hx hb dL_holds_147 (by decide) (fun c_147 => ?_) (fun c_147 => ?_)
              · skip
                have c_147 : (cnt (dgB (tK (cs k)) (tO (cs k))) 16) ≤ q := (nI_leI (a := cnt (dgB (tK (cs k)) (tO (cs k))) 16) (b := q) (by omega) (by omega)).mp c_147
                refine lv_iconst (v := 0) hx hb dL_holds_275 (by decide) ?_
                refine lv_istore (lv' := [(6, .int 0), (0, .ref (ad 0)), (1, .int (nI k)), (2, .int (nI (smN (cs k).1 (cs k).2.1 4))), (3, .int (lastI (dgB (tK (cs k)) (tO (cs k))) q)), (4, .int (nI (cnt (dgB (tK (cs k)) (tO (cs k))) 16))), (5, .int 1)]) hx hb dL_holds_276 hl (by decide) rfl (fun ls hl => ?_)
                refine lv_iconst (v := 0) hx hb dL_holds_278 (by decide) ?_
                refine lv_istore (lv' := [(7, .int 0), (6, .int 0), (0, .ref (ad 0)), (1, .int (nI k)), (2, .int (nI (smN (cs k).1 (cs k).2.1 4))), (3, .int (lastI (dgB (tK (cs k)) (tO (cs k))) q)), (4, .int (nI (cnt (dgB (tK (cs k)) (tO (cs k))) 16))), (5, .int 1)]) hx hb dL_holds_279 hl (by decide) rfl (fun ls hl => ?_)
                have hl := lv_sub hl (l' := [(0, .ref (ad 0)), (1, .int (nI k)), (2, .int (nI (smN (cs k).1 (cs k).2.1 4))), (4, .int (nI (cnt (dgB (tK (cs k)) (tO (cs k))) 16))), (5, .int 1), (6, .int 0), (7, .int 0)]) [2, 3, 4, 6, 7, 1, 0] rfl
                refine l_loop (σ := Nat) (fun z => 64 - z) (fun z => [(0, .ref (ad 0)), (1, .int (nI k)), (2, .int (nI (smN (cs k).1 (cs k).2.1 4))), (4, .int (nI (cnt (dgB (tK (cs k)) (tO (cs k))) 16))), (5, .int 1), (6, .int (nI (cnt (fun u9 => decide (biI (tK (cs k)) (tO (cs k)) u9 = -1)) z))), (7, .int (nI z))]) (fun z => z ≤ 64) ?_ 0 (by show _ ≤ _; omega) G hl
                intro z hi_281 ih_281 H locs ls G hl
                have hkd := kdN_lt (cs k).1 (cs k).2.1 z
                have hcz := cnt_le (fun z => decide (biI (tK (cs k)) (tO (cs k)) z = -1)) z
                have hl : lv_has ls 11 [(0, .ref (ad 0)), (1, .int (nI k)), (2, .int (nI (smN (cs k).1 (cs k).2.1 4))), (4, .int (nI (cnt (dgB (tK (cs k)) (tO (cs k))) 16))), (5, .int 1), (6, .int (nI (cnt (fun u9 => decide (biI (tK (cs k)) (tO (cs k)) u9 = -1)) z))), (7, .int (nI z))] := hl
                refine lv_iload hx hb dL_holds_281 (lv_at hl 6 rfl) ?_
                refine lv_bipush (v := 64) hx hb dL_holds_283 (by decide) ?_
                refine lv_icmp_ge (tgt := 407) hx hb dL_holds_285 (by decide) (fun c_285 => ?_) (fun c_285 => ?_)
                · skip
                  have c_285 : 64 ≤ z := (nI_leI (a := 64) (b := z) (by omega) (by omega)).mp c_285
                  obtain rfl : z = 64 := by omega
                  have hl : lv_has ls 11 [(0, .ref (ad 0)), (1, .int (nI k)), (2, .int (nI (smN (cs k).1 (cs k).2.1 4))), (4, .int (nI (cnt (dgB (tK (cs k)) (tO (cs k))) 16))), (5, .int 1), (6, .int (nI (cnt (fun u9 => decide (biI (tK (cs k)) (tO (cs k)) u9 = -1)) 64))), (7, .int (nI 64))] := hl
                  refine lv_aload_n hx hb dL_holds_407 rfl (lv_at hl 0 rfl) ?_
                  refine lv_iload_n hx hb dL_holds_408 rfl (lv_at hl 1 rfl) ?_
                  refine lv_iconst (v := 0) hx hb dL_holds_409 (by decide) ?_
                  refine l_callV (As := [.int (nI k), .int 0]) (rest := []) (cs' := cs) (hs' := hs) (r := .int (nI (pc (kdW (cs k).1 (cs k).2.1 0)))) C0 G (l_count l D cy ad tv cs (hs) k 0 (by omega) (by omega)) k_X4_count ml_L_36 dL_holds_410 rfl rfl hl.1 (Nat.le_of_ble_eq_true rfl) ⟨Nat.le_of_ble_eq_true rfl, Nat.le_of_ble_eq_true rfl⟩ ⟨Nat.le_of_ble_eq_true rfl, Nat.le_of_ble_eq_true rfl⟩ (fun H locs G => ?_)
                  refine lv_aload_n hx hb dL_holds_413 rfl (lv_at hl 0 rfl) ?_
                  refine lv_iload_n hx hb dL_holds_414 rfl (lv_at hl 1 rfl) ?_
                  refine lv_iconst (v := 1) hx hb dL_holds_415 (by decide) ?_
                  refine l_callV (As := [.int (nI k), .int 1]) (rest := [.int (nI (pc (kdW (cs k).1 (cs k).2.1 0)))]) (cs' := cs) (hs' := hs) (r := .int (nI (pc (kdW (cs k).1 (cs k).2.1 1)))) C0 G (l_count l D cy ad tv cs (hs) k 1 (by omega) (by omega)) k_X4_count ml_L_36 dL_holds_416 rfl rfl hl.1 (Nat.le_of_ble_eq_true rfl) ⟨Nat.le_of_ble_eq_true rfl, Nat.le_of_ble_eq_true rfl⟩ ⟨Nat.le_of_ble_eq_true rfl, Nat.le_of_ble_eq_true rfl⟩ (fun H locs G => ?_)
                  refine lv_iadd hx hb dL_holds_419 ?_
                  refine g_topi (x' := nI ((pc (kdW (cs k).1 (cs k).2.1 0)) + (pc (kdW (cs k).1 (cs k).2.1 1)))) (nI_add (pc (kdW (cs k).1 (cs k).2.1 0)) (pc (kdW (cs k).1 (cs k).2.1 1))) ?_
                  refine lv_i2d hx hb dL_holds_420 ?_
                  refine lv_ldc2d (v := (4634204016564240384)) hx hb hown (hts _ kd_L_102) dL_holds_421 ?_
                  refine lv_ddiv hx hb dL_holds_424 (n64_n (by omega)) ?_
                  refine g_topv (x' := .double (n64 (pc (sdW (cs k).1 (cs k).2.1)))) (congrArg Value.double (show n64 (pc (kdW (cs k).1 (cs k).2.1 0) + pc (kdW (cs k).1 (cs k).2.1 1)) = _ from by rw [h01])) ?_
                  refine lv_dstore (lv' := [(7, .double (n64 (pc (sdW (cs k).1 (cs k).2.1)))), (0, .ref (ad 0)), (1, .int (nI k)), (2, .int (nI (smN (cs k).1 (cs k).2.1 4))), (4, .int (nI (cnt (dgB (tK (cs k)) (tO (cs k))) 16))), (5, .int 1), (6, .int (nI (cnt (fun u9 => decide (biI (tK (cs k)) (tO (cs k)) u9 = -1)) 64)))]) hx hb dL_holds_425 hl (by decide) rfl (fun ls hl => ?_)
                  refine lv_iload hx hb dL_holds_427 (lv_at hl 5 rfl) ?_
                  refine lv_if_eq (tgt := 474) hx hb dL_holds_429 (by decide) (fun c_429 => ?_) (fun c_429 => ?_)
                  · exact absurd c_429 (by decide)
                  · skip
                    refine lv_iload_n hx hb dL_holds_432 rfl (lv_at hl 3 rfl) ?_
                    refine lv_bipush (v := 64) hx hb dL_holds_433 (by decide) ?_
                    refine lv_icmp_ne (tgt := 474) hx hb dL_holds_435 (by decide) (fun c_435 => ?_) (fun c_435 => ?_)
                    · skip
                      have c_435 : ¬ ((smN (cs k).1 (cs k).2.1 4) = 64) := fun h => c_435 ((nI_eq (a := smN (cs k).1 (cs k).2.1 4) (b := 64) (by omega) (by omega)).mpr h)
                      exact absurd c_435 (by omega)
                    · skip
                      have c_435 : (smN (cs k).1 (cs k).2.1 4) = 64 := (nI_eq (a := smN (cs k).1 (cs k).2.1 4) (b := 64) (by omega) (by omega)).mp c_435
                      refine lv_iload hx hb dL_holds_438 (lv_at hl 6 rfl) ?_
                      refine lv_aload_n hx hb dL_holds_440 rfl (lv_at hl 1 rfl) ?_
                      refine lv_iload_n hx hb dL_holds_441 rfl (lv_at hl 2 rfl) ?_
                      refine l_callV (As := [.int (nI k)]) (rest := [.int (nI (cnt (fun u9 => decide (biI (tK (cs k)) (tO (cs k)) u9 = -1)) 64))]) (cs' := cs) (hs' := hs) (r := .int (nI (pc ((tK (cs k)) ^^^ (-1))))) C0 G (l_untold l D cy ad tv cs (hs) k (by omega)) k_X4_untold ml_L_39 dL_holds_442 rfl rfl hl.1 (Nat.le_of_ble_eq_true rfl) ⟨Nat.le_of_ble_eq_true rfl, Nat.le_of_ble_eq_true rfl⟩ ⟨Nat.le_of_ble_eq_true rfl, Nat.le_of_ble_eq_true rfl⟩ (fun H locs G => ?_)
                      refine lv_icmp_ne (tgt := 474) hx hb dL_holds_445 (by decide) (fun c_445 => ?_) (fun c_445 => ?_)
                      · skip
                        have c_445 : ¬ ((cnt (fun u9 => decide (biI (tK (cs k)) (tO (cs k)) u9 = -1)) 64) = (pc ((tK (cs k)) ^^^ (-1)))) := fun h => c_445 ((nI_eq (a := cnt (fun u9 => decide (biI (tK (cs k)) (tO (cs k)) u9 = -1)) 64) (b := pc ((tK (cs k)) ^^^ (-1))) (by omega) (by omega)).mpr h)
                        exact absurd c_445 (by omega)
                      · skip
                        have c_445 : (cnt (fun u9 => decide (biI (tK (cs k)) (tO (cs k)) u9 = -1)) 64) = (pc ((tK (cs k)) ^^^ (-1))) := (nI_eq (a := cnt (fun u9 => decide (biI (tK (cs k)) (tO (cs k)) u9 = -1)) 64) (b := pc ((tK (cs k)) ^^^ (-1))) (by omega) (by omega)).mp c_445
                        refine lv_aload_n hx hb dL_holds_448 rfl (lv_at hl 1 rfl) ?_
                        refine lv_iload_n hx hb dL_holds_449 rfl (lv_at hl 2 rfl) ?_
                        refine lv_iload hx hb dL_holds_450 (lv_at hl 4 rfl) ?_
                        refine l_callV (As := [.int (nI k), .int (nI (cnt (dgB (tK (cs k)) (tO (cs k))) 16))]) (rest := []) (cs' := cs) (hs' := hs) (r := .int (dlI (dgB (tK (cs k)) (tO (cs k))) (cnt (dgB (tK (cs k)) (tO (cs k))) 16))) C0 G (l_disagreement l D cy ad tv cs (hs) k (cnt (dgB (tK (cs k)) (tO (cs k))) 16) (by omega) (by omega)) k_X4_disagreement ml_L_93 dL_holds_452 rfl rfl hl.1 (Nat.le_of_ble_eq_true rfl) ⟨Nat.le_of_ble_eq_true rfl, Nat.le_of_ble_eq_true rfl⟩ ⟨Nat.le_of_ble_eq_true rfl, Nat.le_of_ble_eq_true rfl⟩ (fun H locs G => ?_)
                        refine lv_iconst (v := (-1)) hx hb dL_holds_455 (by decide) ?_
                        refine lv_icmp_ne (tgt := 474) hx hb dL_holds_456 (by decide) (fun c_456 => ?_) (fun c_456 => ?_)
                        · skip
                          exact absurd (dlI_m1.mpr (Nat.le_refl _)) c_456
                        · skip
                          refine lv_aload_n hx hb dL_holds_459 rfl (lv_at hl 1 rfl) ?_
                          refine lv_iload_n hx hb dL_holds_460 rfl (lv_at hl 2 rfl) ?_
                          refine l_callV (As := [.int (nI k)]) (rest := []) (cs' := cs) (hs' := hs) (r := .double (n64 (pc (sdW (cs k).1 (cs k).2.1)))) C0 G (l_soundShare l D cy ad tv cs (hs) k (by omega)) k_X4_soundShare ml_L_64 dL_holds_461 rfl rfl hl.1 (Nat.le_of_ble_eq_true rfl) ⟨Nat.le_of_ble_eq_true rfl, Nat.le_of_ble_eq_true rfl⟩ ⟨Nat.le_of_ble_eq_true rfl, Nat.le_of_ble_eq_true rfl⟩ (fun H locs G => ?_)
                          refine lv_dload hx hb dL_holds_464 (lv_at hl 0 rfl) ?_
                          refine lv_dcmp hx hb dL_holds_466 ?_
                          refine g_topi (x' := 0) (dc_self hps) ?_
                          refine lv_if_ne (tgt := 474) hx hb dL_holds_467 (by decide) (fun c_467 => ?_) (fun c_467 => ?_)
                          · exact absurd c_467 (by decide)
                          · skip
                            refine lv_iconst (v := 1) hx hb dL_holds_470 (by decide) ?_
                            refine lv_goto (tgt := 475) hx hb dL_holds_471 (by decide) ?_
                            exact l_zret C0 G rfl dL_holds_475
                · skip
                  have c_285 : ¬ (64 ≤ z) := fun h => c_285 ((nI_leI (a := 64) (b := z) (by omega) (by omega)).mpr h)
                  refine lv_aload_n hx hb dL_holds_288 rfl (lv_at hl 0 rfl) ?_
                  refine lv_iload_n hx hb dL_holds_289 rfl (lv_at hl 1 rfl) ?_
                  refine lv_iload hx hb dL_holds_290 (lv_at hl 6 rfl) ?_
                  refine lv_bipush (v := 8) hx hb dL_holds_292 (by decide) ?_
                  refine lv_idiv hx hb dL_holds_294 (by decide) ?_
                  refine g_topi (x' := nI (z / 8)) (pk_div (a := z) (d := 8) (by omega) (by decide) (by decide)) ?_
                  refine lv_iload hx hb dL_holds_295 (lv_at hl 6 rfl) ?_
                  refine lv_bipush (v := 8) hx hb dL_holds_297 (by decide) ?_
                  refine lv_irem hx hb dL_holds_299 (by decide) ?_
                  refine g_topi (x' := nI (z % 8)) (pk_rem (a := z) (d := 8) (by omega) (by decide) (by decide)) ?_
                  refine l_callV (As := [.int (nI k), .int (nI (z / 8)), .int (nI (z % 8))]) (rest := []) (cs' := cs) (hs' := hs) (r := .int (nI (kdN (cs k).1 (cs k).2.1 (8 * (z / 8) + (z % 8))))) C0 G (l_kind l D cy ad tv cs (hs) k (z / 8) (z % 8) (by omega) (by omega) (by omega)) k_X4_kind ml_L_13 dL_holds_300 rfl rfl hl.1 (Nat.le_of_ble_eq_true rfl) ⟨Nat.le_of_ble_eq_true rfl, Nat.le_of_ble_eq_true rfl⟩ ⟨Nat.le_of_ble_eq_true rfl, Nat.le_of_ble_eq_true rfl⟩ (fun H locs G => ?_)
                  refine g_topi (x' := nI (kdN (cs k).1 (cs k).2.1 z)) (by rw [show 8 * (z / 8) + z % 8 = z by omega]) ?_
                  refine lv_istore (lv' := [(8, .int (nI (kdN (cs k).1 (cs k).2.1 z))), (0, .ref (ad 0)), (1, .int (nI k)), (2, .int (nI (smN (cs k).1 (cs k).2.1 4))), (4, .int (nI (cnt (dgB (tK (cs k)) (tO (cs k))) 16))), (5, .int 1), (6, .int (nI (cnt (fun u9 => decide (biI (tK (cs k)) (tO (cs k)) u9 = -1)) z))), (7, .int (nI z))]) hx hb dL_holds_303 hl (by decide) rfl (fun ls hl => ?_)
                  refine lv_aload_n hx hb dL_holds_305 rfl (lv_at hl 1 rfl) ?_
                  refine lv_iload_n hx hb dL_holds_306 rfl (lv_at hl 2 rfl) ?_
                  refine lv_iload hx hb dL_holds_307 (lv_at hl 7 rfl) ?_
                  refine lv_bipush (v := 8) hx hb dL_holds_309 (by decide) ?_
                  refine lv_idiv hx hb dL_holds_311 (by decide) ?_
                  refine g_topi (x' := nI (z / 8)) (pk_div (a := z) (d := 8) (by omega) (by decide) (by decide)) ?_
                  refine lv_iload hx hb dL_holds_312 (lv_at hl 7 rfl) ?_
                  refine lv_bipush (v := 8) hx hb dL_holds_314 (by decide) ?_
                  refine lv_irem hx hb dL_holds_316 (by decide) ?_
                  refine g_topi (x' := nI (z % 8)) (pk_rem (a := z) (d := 8) (by omega) (by decide) (by decide)) ?_
                  refine l_callV (As := [.int (nI k), .int (nI (z / 8)), .int (nI (z % 8))]) (rest := []) (cs' := cs) (hs' := hs) (r := .int (biI (tK (cs k)) (tO (cs k)) (8 * (z / 8) + (z % 8)))) C0 G (l_told l D cy ad tv cs (hs) k (z / 8) (z % 8) (by omega) (by omega) (by omega)) k_X4_told ml_L_96 dL_holds_317 rfl rfl hl.1 (Nat.le_of_ble_eq_true rfl) ⟨Nat.le_of_ble_eq_true rfl, Nat.le_of_ble_eq_true rfl⟩ ⟨Nat.le_of_ble_eq_true rfl, Nat.le_of_ble_eq_true rfl⟩ (fun H locs G => ?_)
                  refine g_topi (x' := biI (tK (cs k)) (tO (cs k)) z) (by rw [show 8 * (z / 8) + z % 8 = z by omega]) ?_
                  refine lv_istore (lv' := [(9, .int (biI (tK (cs k)) (tO (cs k)) z)), (8, .int (nI (kdN (cs k).1 (cs k).2.1 z))), (0, .ref (ad 0)), (1, .int (nI k)), (2, .int (nI (smN (cs k).1 (cs k).2.1 4))), (4, .int (nI (cnt (dgB (tK (cs k)) (tO (cs k))) 16))), (5, .int 1), (6, .int (nI (cnt (fun u9 => decide (biI (tK (cs k)) (tO (cs k)) u9 = -1)) z))), (7, .int (nI z))]) hx hb dL_holds_320 hl (by decide) rfl (fun ls hl => ?_)
                  refine lv_iload hx hb dL_holds_322 (lv_at hl 7 rfl) ?_
                  refine lv_iload hx hb dL_holds_324 (lv_at hl 0 rfl) ?_
                  refine lv_iconst (v := (-1)) hx hb dL_holds_326 (by decide) ?_
                  refine lv_icmp_ne (tgt := 334) hx hb dL_holds_327 (by decide) (fun c_327 => ?_) (fun c_327 => ?_)
                  · skip
                    refine lv_iconst (v := 0) hx hb dL_holds_334 (by decide) ?_
                    refine lv_iadd hx hb dL_holds_335 ?_
                    refine g_topi (x' := nI ((cnt (fun u9 => decide (biI (tK (cs k)) (tO (cs k)) u9 = -1)) z) + 0)) (nI_add (cnt (fun u9 => decide (biI (tK (cs k)) (tO (cs k)) u9 = -1)) z) 0) ?_
                    refine lv_istore (lv' := [(6, .int (nI ((cnt (fun u9 => decide (biI (tK (cs k)) (tO (cs k)) u9 = -1)) z) + 0))), (9, .int (biI (tK (cs k)) (tO (cs k)) z)), (8, .int (nI (kdN (cs k).1 (cs k).2.1 z))), (0, .ref (ad 0)), (1, .int (nI k)), (2, .int (nI (smN (cs k).1 (cs k).2.1 4))), (4, .int (nI (cnt (dgB (tK (cs k)) (tO (cs k))) 16))), (5, .int 1), (7, .int (nI z))]) hx hb dL_holds_336 hl (by decide) rfl (fun ls hl => ?_)
                    refine lv_iload hx hb dL_holds_338 (lv_at hl 7 rfl) ?_
                    refine lv_if_eq (tgt := 398) hx hb dL_holds_340 (by decide) (fun c_340 => ?_) (fun c_340 => ?_)
                    · exact absurd c_340 (by decide)
                    · skip
                      refine lv_iload hx hb dL_holds_343 (lv_at hl 2 rfl) ?_
                      refine lv_iconst (v := 1) hx hb dL_holds_345 (by decide) ?_
                      refine lv_icmp_gt (tgt := 356) hx hb dL_holds_346 (by decide) (fun c_346 => ?_) (fun c_346 => ?_)
                      · skip
                        have c_346 : 1 < (kdN (cs k).1 (cs k).2.1 z) := (nI_ltI (a := 1) (b := kdN (cs k).1 (cs k).2.1 z) (by omega) (by omega)).mp c_346
                        refine lv_iload hx hb dL_holds_356 (lv_at hl 2 rfl) ?_
                        refine lv_iconst (v := 2) hx hb dL_holds_358 (by decide) ?_
                        refine lv_icmp_ge (tgt := 366) hx hb dL_holds_359 (by decide) (fun c_359 => ?_) (fun c_359 => ?_)
                        · skip
                          have c_359 : 2 ≤ (kdN (cs k).1 (cs k).2.1 z) := (nI_leI (a := 2) (b := kdN (cs k).1 (cs k).2.1 z) (by omega) (by omega)).mp c_359
                          refine lv_iconst (v := 0) hx hb dL_holds_366 (by decide) ?_
                          refine lv_aload_n hx hb dL_holds_367 rfl (lv_at hl 3 rfl) ?_
                          refine lv_iload_n hx hb dL_holds_368 rfl (lv_at hl 4 rfl) ?_
                          refine lv_iload hx hb dL_holds_369 (lv_at hl 8 rfl) ?_
                          refine lv_bipush (v := 8) hx hb dL_holds_371 (by decide) ?_
                          refine lv_idiv hx hb dL_holds_373 (by decide) ?_
                          refine g_topi (x' := nI (z / 8)) (pk_div (a := z) (d := 8) (by omega) (by decide) (by decide)) ?_
                          refine lv_iload hx hb dL_holds_374 (lv_at hl 8 rfl) ?_
                          refine lv_bipush (v := 8) hx hb dL_holds_376 (by decide) ?_
                          refine lv_irem hx hb dL_holds_378 (by decide) ?_
                          refine g_topi (x' := nI (z % 8)) (pk_rem (a := z) (d := 8) (by omega) (by decide) (by decide)) ?_
                          refine l_callV (As := [.int (nI k), .int (nI (z / 8)), .int (nI (z % 8))]) (rest := [.int 0]) (cs' := cs) (hs' := hs) (r := .int (uwI (cs k).1 (cs k).2.1 (8 * (z / 8) + (z % 8)))) C0 G (l_untoldIf l D cy ad tv cs (hs) k (z / 8) (z % 8) (by omega) (by omega) (by omega)) k_X4_untoldIf ml_L_99 dL_holds_379 rfl rfl hl.1 (Nat.le_of_ble_eq_true rfl) ⟨Nat.le_of_ble_eq_true rfl, Nat.le_of_ble_eq_true rfl⟩ ⟨Nat.le_of_ble_eq_true rfl, Nat.le_of_ble_eq_true rfl⟩ (fun H locs G => ?_)
                          refine g_topi (x' := uwI (cs k).1 (cs k).2.1 z) (by rw [show 8 * (z / 8) + z % 8 = z by omega]) ?_
                          refine lv_iconst (v := (-1)) hx hb dL_holds_382 (by decide) ?_
                          refine lv_icmp_eq (tgt := 390) hx hb dL_holds_383 (by decide) (fun c_383 => ?_) (fun c_383 => ?_)
                          · skip
                            refine lv_iconst (v := 0) hx hb dL_holds_390 (by decide) ?_
                            refine lv_icmp_ne (tgt := 398) hx hb dL_holds_391 (by decide) (fun c_391 => ?_) (fun c_391 => ?_)
                            · exact absurd c_391 (by decide)
                            · skip
                              refine lv_iconst (v := 1) hx hb dL_holds_394 (by decide) ?_
                              refine lv_goto (tgt := 399) hx hb dL_holds_395 (by decide) ?_
                              refine lv_istore (lv' := [(5, .int 1), (6, .int (nI ((cnt (fun u9 => decide (biI (tK (cs k)) (tO (cs k)) u9 = -1)) z) + 0))), (9, .int (biI (tK (cs k)) (tO (cs k)) z)), (8, .int (nI (kdN (cs k).1 (cs k).2.1 z))), (0, .ref (ad 0)), (1, .int (nI k)), (2, .int (nI (smN (cs k).1 (cs k).2.1 4))), (4, .int (nI (cnt (dgB (tK (cs k)) (tO (cs k))) 16))), (7, .int (nI z))]) hx hb dL_holds_399 hl (by decide) rfl (fun ls hl => ?_)
                              refine lv_iinc (v := nI (z + 1)) (lv' := [(7, .int (nI (z + 1))), (5, .int 1), (6, .int (nI ((cnt (fun u9 => decide (biI (tK (cs k)) (tO (cs k)) u9 = -1)) z) + 0))), (9, .int (biI (tK (cs k)) (tO (cs k)) z)), (8, .int (nI (kdN (cs k).1 (cs k).2.1 z))), (0, .ref (ad 0)), (1, .int (nI k)), (2, .int (nI (smN (cs k).1 (cs k).2.1 4))), (4, .int (nI (cnt (dgB (tK (cs k)) (tO (cs k))) 16)))]) hx hb dL_holds_401 hl (k := 8) rfl (nI_add z 1) (by decide) rfl (fun ls hl => ?_)
                              refine lv_goto (tgt := 281) hx hb dL_holds_404 (by decide) ?_
                              have hl := lv_sub hl (l' := _) [5, 6, 7, 8, 1, 2, 0] rfl
                              exact ih_281 (z + 1) (by show _ ≤ _; omega) (by show _ < _; omega) _ _ _ G (by first | (rw [show cnt (fun u9 => decide (biI (tK (cs k)) (tO (cs k)) u9 = -1)) (z + 1) = cnt (fun u9 => decide (biI (tK (cs k)) (tO (cs k)) u9 = -1)) z + 1 from by simp [cnt, c_327]]; exact hl) | (rw [show cnt (fun u9 => decide (biI (tK (cs k)) (tO (cs k)) u9 = -1)) (z + 1) = cnt (fun u9 => decide (biI (tK (cs k)) (tO (cs k)) u9 = -1)) z + 0 from by simp [cnt, c_327]]; exact hl))
                          · skip
                            exact absurd (uw_no c_359) c_383
                        · skip
                          have c_359 : ¬ (2 ≤ (kdN (cs k).1 (cs k).2.1 z)) := fun h => c_359 ((nI_leI (a := 2) (b := kdN (cs k).1 (cs k).2.1 z) (by omega) (by omega)).mpr h)
                          refine lv_iconst (v := 1) hx hb dL_holds_362 (by decide) ?_
                          refine lv_goto (tgt := 367) hx hb dL_holds_363 (by decide) ?_
                          refine lv_aload_n hx hb dL_holds_367 rfl (lv_at hl 3 rfl) ?_
                          refine lv_iload_n hx hb dL_holds_368 rfl (lv_at hl 4 rfl) ?_
                          refine lv_iload hx hb dL_holds_369 (lv_at hl 8 rfl) ?_
                          refine lv_bipush (v := 8) hx hb dL_holds_371 (by decide) ?_
                          refine lv_idiv hx hb dL_holds_373 (by decide) ?_
                          refine g_topi (x' := nI (z / 8)) (pk_div (a := z) (d := 8) (by omega) (by decide) (by decide)) ?_
                          refine lv_iload hx hb dL_holds_374 (lv_at hl 8 rfl) ?_
                          refine lv_bipush (v := 8) hx hb dL_holds_376 (by decide) ?_
                          refine lv_irem hx hb dL_holds_378 (by decide) ?_
                          refine g_topi (x' := nI (z % 8)) (pk_rem (a := z) (d := 8) (by omega) (by decide) (by decide)) ?_
                          refine l_callV (As := [.int (nI k), .int (nI (z / 8)), .int (nI (z % 8))]) (rest := [.int 1]) (cs' := cs) (hs' := hs) (r := .int (uwI (cs k).1 (cs k).2.1 (8 * (z / 8) + (z % 8)))) C0 G (l_untoldIf l D cy ad tv cs (hs) k (z / 8) (z % 8) (by omega) (by omega) (by omega)) k_X4_untoldIf ml_L_99 dL_holds_379 rfl rfl hl.1 (Nat.le_of_ble_eq_true rfl) ⟨Nat.le_of_ble_eq_true rfl, Nat.le_of_ble_eq_true rfl⟩ ⟨Nat.le_of_ble_eq_true rfl, Nat.le_of_ble_eq_true rfl⟩ (fun H locs G => ?_)
                          refine g_topi (x' := uwI (cs k).1 (cs k).2.1 z) (by rw [show 8 * (z / 8) + z % 8 = z by omega]) ?_
                          refine lv_iconst (v := (-1)) hx hb dL_holds_382 (by decide) ?_
                          refine lv_icmp_eq (tgt := 390) hx hb dL_holds_383 (by decide) (fun c_383 => ?_) (fun c_383 => ?_)
                          · skip
                            exact absurd c_383 (uw_sd c_359)
                          · skip
                            refine lv_iconst (v := 1) hx hb dL_holds_386 (by decide) ?_
                            refine lv_goto (tgt := 391) hx hb dL_holds_387 (by decide) ?_
                            refine lv_icmp_ne (tgt := 398) hx hb dL_holds_391 (by decide) (fun c_391 => ?_) (fun c_391 => ?_)
                            · exact absurd c_391 (by decide)
                            · skip
                              refine lv_iconst (v := 1) hx hb dL_holds_394 (by decide) ?_
                              refine lv_goto (tgt := 399) hx hb dL_holds_395 (by decide) ?_
                              refine lv_istore (lv' := [(5, .int 1), (6, .int (nI ((cnt (fun u9 => decide (biI (tK (cs k)) (tO (cs k)) u9 = -1)) z) + 0))), (9, .int (biI (tK (cs k)) (tO (cs k)) z)), (8, .int (nI (kdN (cs k).1 (cs k).2.1 z))), (0, .ref (ad 0)), (1, .int (nI k)), (2, .int (nI (smN (cs k).1 (cs k).2.1 4))), (4, .int (nI (cnt (dgB (tK (cs k)) (tO (cs k))) 16))), (7, .int (nI z))]) hx hb dL_holds_399 hl (by decide) rfl (fun ls hl => ?_)
                              refine lv_iinc (v := nI (z + 1)) (lv' := [(7, .int (nI (z + 1))), (5, .int 1), (6, .int (nI ((cnt (fun u9 => decide (biI (tK (cs k)) (tO (cs k)) u9 = -1)) z) + 0))), (9, .int (biI (tK (cs k)) (tO (cs k)) z)), (8, .int (nI (kdN (cs k).1 (cs k).2.1 z))), (0, .ref (ad 0)), (1, .int (nI k)), (2, .int (nI (smN (cs k).1 (cs k).2.1 4))), (4, .int (nI (cnt (dgB (tK (cs k)) (tO (cs k))) 16)))]) hx hb dL_holds_401 hl (k := 8) rfl (nI_add z 1) (by decide) rfl (fun ls hl => ?_)
                              refine lv_goto (tgt := 281) hx hb dL_holds_404 (by decide) ?_
                              have hl := lv_sub hl (l' := _) [5, 6, 7, 8, 1, 2, 0] rfl
                              exact ih_281 (z + 1) (by show _ ≤ _; omega) (by show _ < _; omega) _ _ _ G (by first | (rw [show cnt (fun u9 => decide (biI (tK (cs k)) (tO (cs k)) u9 = -1)) (z + 1) = cnt (fun u9 => decide (biI (tK (cs k)) (tO (cs k)) u9 = -1)) z + 1 from by simp [cnt, c_327]]; exact hl) | (rw [show cnt (fun u9 => decide (biI (tK (cs k)) (tO (cs k)) u9 = -1)) (z + 1) = cnt (fun u9 => decide (biI (tK (cs k)) (tO (cs k)) u9 = -1)) z + 0 from by simp [cnt, c_327]]; exact hl))
                      · skip
                        have c_346 : ¬ (1 < (kdN (cs k).1 (cs k).2.1 z)) := fun h => c_346 ((nI_ltI (a := 1) (b := kdN (cs k).1 (cs k).2.1 z) (by omega) (by omega)).mpr h)
                        refine lv_iload hx hb dL_holds_349 (lv_at hl 1 rfl) ?_
                        refine lv_iload hx hb dL_holds_351 (lv_at hl 2 rfl) ?_
                        refine lv_icmp_ne (tgt := 398) hx hb dL_holds_353 (by decide) (fun c_353 => ?_) (fun c_353 => ?_)
                        · skip
                          exact absurd (told_kind (by omega) c_346) c_353
                        · skip
                          refine lv_iload hx hb dL_holds_356 (lv_at hl 2 rfl) ?_
                          refine lv_iconst (v := 2) hx hb dL_holds_358 (by decide) ?_
                          refine lv_icmp_ge (tgt := 366) hx hb dL_holds_359 (by decide) (fun c_359 => ?_) (fun c_359 => ?_)
                          · skip
                            have c_359 : 2 ≤ (kdN (cs k).1 (cs k).2.1 z) := (nI_leI (a := 2) (b := kdN (cs k).1 (cs k).2.1 z) (by omega) (by omega)).mp c_359
                            refine lv_iconst (v := 0) hx hb dL_holds_366 (by decide) ?_
                            refine lv_aload_n hx hb dL_holds_367 rfl (lv_at hl 3 rfl) ?_
                            refine lv_iload_n hx hb dL_holds_368 rfl (lv_at hl 4 rfl) ?_
                            refine lv_iload hx hb dL_holds_369 (lv_at hl 8 rfl) ?_
                            refine lv_bipush (v := 8) hx hb dL_holds_371 (by decide) ?_
                            refine lv_idiv hx hb dL_holds_373 (by decide) ?_
                            refine g_topi (x' := nI (z / 8)) (pk_div (a := z) (d := 8) (by omega) (by decide) (by decide)) ?_
                            refine lv_iload hx hb dL_holds_374 (lv_at hl 8 rfl) ?_
                            refine lv_bipush (v := 8) hx hb dL_holds_376 (by decide) ?_
                            refine lv_irem hx hb dL_holds_378 (by decide) ?_
                            refine g_topi (x' := nI (z % 8)) (pk_rem (a := z) (d := 8) (by omega) (by decide) (by decide)) ?_
                            refine l_callV (As := [.int (nI k), .int (nI (z / 8)), .int (nI (z % 8))]) (rest := [.int 0]) (cs' := cs) (hs' := hs) (r := .int (uwI (cs k).1 (cs k).2.1 (8 * (z / 8) + (z % 8)))) C0 G (l_untoldIf l D cy ad tv cs (hs) k (z / 8) (z % 8) (by omega) (by omega) (by omega)) k_X4_untoldIf ml_L_99 dL_holds_379 rfl rfl hl.1 (Nat.le_of_ble_eq_true rfl) ⟨Nat.le_of_ble_eq_true rfl, Nat.le_of_ble_eq_true rfl⟩ ⟨Nat.le_of_ble_eq_true rfl, Nat.le_of_ble_eq_true rfl⟩ (fun H locs G => ?_)
                            refine g_topi (x' := uwI (cs k).1 (cs k).2.1 z) (by rw [show 8 * (z / 8) + z % 8 = z by omega]) ?_
                            refine lv_iconst (v := (-1)) hx hb dL_holds_382 (by decide) ?_
                            refine lv_icmp_eq (tgt := 390) hx hb dL_holds_383 (by decide) (fun c_383 => ?_) (fun c_383 => ?_)
                            · skip
                              refine lv_iconst (v := 0) hx hb dL_holds_390 (by decide) ?_
                              refine lv_icmp_ne (tgt := 398) hx hb dL_holds_391 (by decide) (fun c_391 => ?_) (fun c_391 => ?_)
                              · exact absurd c_391 (by decide)
                              · skip
                                refine lv_iconst (v := 1) hx hb dL_holds_394 (by decide) ?_
                                refine lv_goto (tgt := 399) hx hb dL_holds_395 (by decide) ?_
                                refine lv_istore (lv' := [(5, .int 1), (6, .int (nI ((cnt (fun u9 => decide (biI (tK (cs k)) (tO (cs k)) u9 = -1)) z) + 0))), (9, .int (biI (tK (cs k)) (tO (cs k)) z)), (8, .int (nI (kdN (cs k).1 (cs k).2.1 z))), (0, .ref (ad 0)), (1, .int (nI k)), (2, .int (nI (smN (cs k).1 (cs k).2.1 4))), (4, .int (nI (cnt (dgB (tK (cs k)) (tO (cs k))) 16))), (7, .int (nI z))]) hx hb dL_holds_399 hl (by decide) rfl (fun ls hl => ?_)
                                refine lv_iinc (v := nI (z + 1)) (lv' := [(7, .int (nI (z + 1))), (5, .int 1), (6, .int (nI ((cnt (fun u9 => decide (biI (tK (cs k)) (tO (cs k)) u9 = -1)) z) + 0))), (9, .int (biI (tK (cs k)) (tO (cs k)) z)), (8, .int (nI (kdN (cs k).1 (cs k).2.1 z))), (0, .ref (ad 0)), (1, .int (nI k)), (2, .int (nI (smN (cs k).1 (cs k).2.1 4))), (4, .int (nI (cnt (dgB (tK (cs k)) (tO (cs k))) 16)))]) hx hb dL_holds_401 hl (k := 8) rfl (nI_add z 1) (by decide) rfl (fun ls hl => ?_)
                                refine lv_goto (tgt := 281) hx hb dL_holds_404 (by decide) ?_
                                have hl := lv_sub hl (l' := _) [5, 6, 7, 8, 1, 2, 0] rfl
                                exact ih_281 (z + 1) (by show _ ≤ _; omega) (by show _ < _; omega) _ _ _ G (by first | (rw [show cnt (fun u9 => decide (biI (tK (cs k)) (tO (cs k)) u9 = -1)) (z + 1) = cnt (fun u9 => decide (biI (tK (cs k)) (tO (cs k)) u9 = -1)) z + 1 from by simp [cnt, c_327]]; exact hl) | (rw [show cnt (fun u9 => decide (biI (tK (cs k)) (tO (cs k)) u9 = -1)) (z + 1) = cnt (fun u9 => decide (biI (tK (cs k)) (tO (cs k)) u9 = -1)) z + 0 from by simp [cnt, c_327]]; exact hl))
                            · skip
                              exact absurd (uw_no c_359) c_383
                          · skip
                            have c_359 : ¬ (2 ≤ (kdN (cs k).1 (cs k).2.1 z)) := fun h => c_359 ((nI_leI (a := 2) (b := kdN (cs k).1 (cs k).2.1 z) (by omega) (by omega)).mpr h)
                            refine lv_iconst (v := 1) hx hb dL_holds_362 (by decide) ?_
                            refine lv_goto (tgt := 367) hx hb dL_holds_363 (by decide) ?_
                            refine lv_aload_n hx hb dL_holds_367 rfl (lv_at hl 3 rfl) ?_
                            refine lv_iload_n hx hb dL_holds_368 rfl (lv_at hl 4 rfl) ?_
                            refine lv_iload hx hb dL_holds_369 (lv_at hl 8 rfl) ?_
                            refine lv_bipush (v := 8) hx hb dL_holds_371 (by decide) ?_
                            refine lv_idiv hx hb dL_holds_373 (by decide) ?_
                            refine g_topi (x' := nI (z / 8)) (pk_div (a := z) (d := 8) (by omega) (by decide) (by decide)) ?_
                            refine lv_iload hx hb dL_holds_374 (lv_at hl 8 rfl) ?_
                            refine lv_bipush (v := 8) hx hb dL_holds_376 (by decide) ?_
                            refine lv_irem hx hb dL_holds_378 (by decide) ?_
                            refine g_topi (x' := nI (z % 8)) (pk_rem (a := z) (d := 8) (by omega) (by decide) (by decide)) ?_
                            refine l_callV (As := [.int (nI k), .int (nI (z / 8)), .int (nI (z % 8))]) (rest := [.int 1]) (cs' := cs) (hs' := hs) (r := .int (uwI (cs k).1 (cs k).2.1 (8 * (z / 8) + (z % 8)))) C0 G (l_untoldIf l D cy ad tv cs (hs) k (z / 8) (z % 8) (by omega) (by omega) (by omega)) k_X4_untoldIf ml_L_99 dL_holds_379 rfl rfl hl.1 (Nat.le_of_ble_eq_true rfl) ⟨Nat.le_of_ble_eq_true rfl, Nat.le_of_ble_eq_true rfl⟩ ⟨Nat.le_of_ble_eq_true rfl, Nat.le_of_ble_eq_true rfl⟩ (fun H locs G => ?_)
                            refine g_topi (x' := uwI (cs k).1 (cs k).2.1 z) (by rw [show 8 * (z / 8) + z % 8 = z by omega]) ?_
                            refine lv_iconst (v := (-1)) hx hb dL_holds_382 (by decide) ?_
                            refine lv_icmp_eq (tgt := 390) hx hb dL_holds_383 (by decide) (fun c_383 => ?_) (fun c_383 => ?_)
                            · skip
                              exact absurd c_383 (uw_sd c_359)
                            · skip
                              refine lv_iconst (v := 1) hx hb dL_holds_386 (by decide) ?_
                              refine lv_goto (tgt := 391) hx hb dL_holds_387 (by decide) ?_
                              refine lv_icmp_ne (tgt := 398) hx hb dL_holds_391 (by decide) (fun c_391 => ?_) (fun c_391 => ?_)
                              · exact absurd c_391 (by decide)
                              · skip
                                refine lv_iconst (v := 1) hx hb dL_holds_394 (by decide) ?_
                                refine lv_goto (tgt := 399) hx hb dL_holds_395 (by decide) ?_
                                refine lv_istore (lv' := [(5, .int 1), (6, .int (nI ((cnt (fun u9 => decide (biI (tK (cs k)) (tO (cs k)) u9 = -1)) z) + 0))), (9, .int (biI (tK (cs k)) (tO (cs k)) z)), (8, .int (nI (kdN (cs k).1 (cs k).2.1 z))), (0, .ref (ad 0)), (1, .int (nI k)), (2, .int (nI (smN (cs k).1 (cs k).2.1 4))), (4, .int (nI (cnt (dgB (tK (cs k)) (tO (cs k))) 16))), (7, .int (nI z))]) hx hb dL_holds_399 hl (by decide) rfl (fun ls hl => ?_)
                                refine lv_iinc (v := nI (z + 1)) (lv' := [(7, .int (nI (z + 1))), (5, .int 1), (6, .int (nI ((cnt (fun u9 => decide (biI (tK (cs k)) (tO (cs k)) u9 = -1)) z) + 0))), (9, .int (biI (tK (cs k)) (tO (cs k)) z)), (8, .int (nI (kdN (cs k).1 (cs k).2.1 z))), (0, .ref (ad 0)), (1, .int (nI k)), (2, .int (nI (smN (cs k).1 (cs k).2.1 4))), (4, .int (nI (cnt (dgB (tK (cs k)) (tO (cs k))) 16)))]) hx hb dL_holds_401 hl (k := 8) rfl (nI_add z 1) (by decide) rfl (fun ls hl => ?_)
                                refine lv_goto (tgt := 281) hx hb dL_holds_404 (by decide) ?_
                                have hl := lv_sub hl (l' := _) [5, 6, 7, 8, 1, 2, 0] rfl
                                exact ih_281 (z + 1) (by show _ ≤ _; omega) (by show _ < _; omega) _ _ _ G (by first | (rw [show cnt (fun u9 => decide (biI (tK (cs k)) (tO (cs k)) u9 = -1)) (z + 1) = cnt (fun u9 => decide (biI (tK (cs k)) (tO (cs k)) u9 = -1)) z + 1 from by simp [cnt, c_327]]; exact hl) | (rw [show cnt (fun u9 => decide (biI (tK (cs k)) (tO (cs k)) u9 = -1)) (z + 1) = cnt (fun u9 => decide (biI (tK (cs k)) (tO (cs k)) u9 = -1)) z + 0 from by simp [cnt, c_327]]; exact hl))
                  · skip
                    refine lv_iconst (v := 1) hx hb dL_holds_330 (by decide) ?_
                    refine lv_goto (tgt := 335) hx hb dL_holds_331 (by decide) ?_
                    refine lv_iadd hx hb dL_holds_335 ?_
                    refine g_topi (x' := nI ((cnt (fun u9 => decide (biI (tK (cs k)) (tO (cs k)) u9 = -1)) z) + 1)) (nI_add (cnt (fun u9 => decide (biI (tK (cs k)) (tO (cs k)) u9 = -1)) z) 1) ?_
                    refine lv_istore (lv' := [(6, .int (nI ((cnt (fun u9 => decide (biI (tK (cs k)) (tO (cs k)) u9 = -1)) z) + 1))), (9, .int (biI (tK (cs k)) (tO (cs k)) z)), (8, .int (nI (kdN (cs k).1 (cs k).2.1 z))), (0, .ref (ad 0)), (1, .int (nI k)), (2, .int (nI (smN (cs k).1 (cs k).2.1 4))), (4, .int (nI (cnt (dgB (tK (cs k)) (tO (cs k))) 16))), (5, .int 1), (7, .int (nI z))]) hx hb dL_holds_336 hl (by decide) rfl (fun ls hl => ?_)
                    refine lv_iload hx hb dL_holds_338 (lv_at hl 7 rfl) ?_
                    refine lv_if_eq (tgt := 398) hx hb dL_holds_340 (by decide) (fun c_340 => ?_) (fun c_340 => ?_)
                    · exact absurd c_340 (by decide)
                    · skip
                      refine lv_iload hx hb dL_holds_343 (lv_at hl 2 rfl) ?_
                      refine lv_iconst (v := 1) hx hb dL_holds_345 (by decide) ?_
                      refine lv_icmp_gt (tgt := 356) hx hb dL_holds_346 (by decide) (fun c_346 => ?_) (fun c_346 => ?_)
                      · skip
                        have c_346 : 1 < (kdN (cs k).1 (cs k).2.1 z) := (nI_ltI (a := 1) (b := kdN (cs k).1 (cs k).2.1 z) (by omega) (by omega)).mp c_346
                        refine lv_iload hx hb dL_holds_356 (lv_at hl 2 rfl) ?_
                        refine lv_iconst (v := 2) hx hb dL_holds_358 (by decide) ?_
                        refine lv_icmp_ge (tgt := 366) hx hb dL_holds_359 (by decide) (fun c_359 => ?_) (fun c_359 => ?_)
                        · skip
                          have c_359 : 2 ≤ (kdN (cs k).1 (cs k).2.1 z) := (nI_leI (a := 2) (b := kdN (cs k).1 (cs k).2.1 z) (by omega) (by omega)).mp c_359
                          refine lv_iconst (v := 0) hx hb dL_holds_366 (by decide) ?_
                          refine lv_aload_n hx hb dL_holds_367 rfl (lv_at hl 3 rfl) ?_
                          refine lv_iload_n hx hb dL_holds_368 rfl (lv_at hl 4 rfl) ?_
                          refine lv_iload hx hb dL_holds_369 (lv_at hl 8 rfl) ?_
                          refine lv_bipush (v := 8) hx hb dL_holds_371 (by decide) ?_
                          refine lv_idiv hx hb dL_holds_373 (by decide) ?_
                          refine g_topi (x' := nI (z / 8)) (pk_div (a := z) (d := 8) (by omega) (by decide) (by decide)) ?_
                          refine lv_iload hx hb dL_holds_374 (lv_at hl 8 rfl) ?_
                          refine lv_bipush (v := 8) hx hb dL_holds_376 (by decide) ?_
                          refine lv_irem hx hb dL_holds_378 (by decide) ?_
                          refine g_topi (x' := nI (z % 8)) (pk_rem (a := z) (d := 8) (by omega) (by decide) (by decide)) ?_
                          refine l_callV (As := [.int (nI k), .int (nI (z / 8)), .int (nI (z % 8))]) (rest := [.int 0]) (cs' := cs) (hs' := hs) (r := .int (uwI (cs k).1 (cs k).2.1 (8 * (z / 8) + (z % 8)))) C0 G (l_untoldIf l D cy ad tv cs (hs) k (z / 8) (z % 8) (by omega) (by omega) (by omega)) k_X4_untoldIf ml_L_99 dL_holds_379 rfl rfl hl.1 (Nat.le_of_ble_eq_true rfl) ⟨Nat.le_of_ble_eq_true rfl, Nat.le_of_ble_eq_true rfl⟩ ⟨Nat.le_of_ble_eq_true rfl, Nat.le_of_ble_eq_true rfl⟩ (fun H locs G => ?_)
                          refine g_topi (x' := uwI (cs k).1 (cs k).2.1 z) (by rw [show 8 * (z / 8) + z % 8 = z by omega]) ?_
                          refine lv_iconst (v := (-1)) hx hb dL_holds_382 (by decide) ?_
                          refine lv_icmp_eq (tgt := 390) hx hb dL_holds_383 (by decide) (fun c_383 => ?_) (fun c_383 => ?_)
                          · skip
                            refine lv_iconst (v := 0) hx hb dL_holds_390 (by decide) ?_
                            refine lv_icmp_ne (tgt := 398) hx hb dL_holds_391 (by decide) (fun c_391 => ?_) (fun c_391 => ?_)
                            · exact absurd c_391 (by decide)
                            · skip
                              refine lv_iconst (v := 1) hx hb dL_holds_394 (by decide) ?_
                              refine lv_goto (tgt := 399) hx hb dL_holds_395 (by decide) ?_
                              refine lv_istore (lv' := [(5, .int 1), (6, .int (nI ((cnt (fun u9 => decide (biI (tK (cs k)) (tO (cs k)) u9 = -1)) z) + 1))), (9, .int (biI (tK (cs k)) (tO (cs k)) z)), (8, .int (nI (kdN (cs k).1 (cs k).2.1 z))), (0, .ref (ad 0)), (1, .int (nI k)), (2, .int (nI (smN (cs k).1 (cs k).2.1 4))), (4, .int (nI (cnt (dgB (tK (cs k)) (tO (cs k))) 16))), (7, .int (nI z))]) hx hb dL_holds_399 hl (by decide) rfl (fun ls hl => ?_)
                              refine lv_iinc (v := nI (z + 1)) (lv' := [(7, .int (nI (z + 1))), (5, .int 1), (6, .int (nI ((cnt (fun u9 => decide (biI (tK (cs k)) (tO (cs k)) u9 = -1)) z) + 1))), (9, .int (biI (tK (cs k)) (tO (cs k)) z)), (8, .int (nI (kdN (cs k).1 (cs k).2.1 z))), (0, .ref (ad 0)), (1, .int (nI k)), (2, .int (nI (smN (cs k).1 (cs k).2.1 4))), (4, .int (nI (cnt (dgB (tK (cs k)) (tO (cs k))) 16)))]) hx hb dL_holds_401 hl (k := 8) rfl (nI_add z 1) (by decide) rfl (fun ls hl => ?_)
                              refine lv_goto (tgt := 281) hx hb dL_holds_404 (by decide) ?_
                              have hl := lv_sub hl (l' := _) [5, 6, 7, 8, 1, 2, 0] rfl
                              exact ih_281 (z + 1) (by show _ ≤ _; omega) (by show _ < _; omega) _ _ _ G (by first | (rw [show cnt (fun u9 => decide (biI (tK (cs k)) (tO (cs k)) u9 = -1)) (z + 1) = cnt (fun u9 => decide (biI (tK (cs k)) (tO (cs k)) u9 = -1)) z + 1 from by simp [cnt, c_327]]; exact hl) | (rw [show cnt (fun u9 => decide (biI (tK (cs k)) (tO (cs k)) u9 = -1)) (z + 1) = cnt (fun u9 => decide (biI (tK (cs k)) (tO (cs k)) u9 = -1)) z + 0 from by simp [cnt, c_327]]; exact hl))
                          · skip
                            exact absurd (uw_no c_359) c_383
                        · skip
                          have c_359 : ¬ (2 ≤ (kdN (cs k).1 (cs k).2.1 z)) := fun h => c_359 ((nI_leI (a := 2) (b := kdN (cs k).1 (cs k).2.1 z) (by omega) (by omega)).mpr h)
                          refine lv_iconst (v := 1) hx hb dL_holds_362 (by decide) ?_
                          refine lv_goto (tgt := 367) hx hb dL_holds_363 (by decide) ?_
                          refine lv_aload_n hx hb dL_holds_367 rfl (lv_at hl 3 rfl) ?_
                          refine lv_iload_n hx hb dL_holds_368 rfl (lv_at hl 4 rfl) ?_
                          refine lv_iload hx hb dL_holds_369 (lv_at hl 8 rfl) ?_
                          refine lv_bipush (v := 8) hx hb dL_holds_371 (by decide) ?_
                          refine lv_idiv hx hb dL_holds_373 (by decide) ?_
                          refine g_topi (x' := nI (z / 8)) (pk_div (a := z) (d := 8) (by omega) (by decide) (by decide)) ?_
                          refine lv_iload hx hb dL_holds_374 (lv_at hl 8 rfl) ?_
                          refine lv_bipush (v := 8) hx hb dL_holds_376 (by decide) ?_
                          refine lv_irem hx hb dL_holds_378 (by decide) ?_
                          refine g_topi (x' := nI (z % 8)) (pk_rem (a := z) (d := 8) (by omega) (by decide) (by decide)) ?_
                          refine l_callV (As := [.int (nI k), .int (nI (z / 8)), .int (nI (z % 8))]) (rest := [.int 1]) (cs' := cs) (hs' := hs) (r := .int (uwI (cs k).1 (cs k).2.1 (8 * (z / 8) + (z % 8)))) C0 G (l_untoldIf l D cy ad tv cs (hs) k (z / 8) (z % 8) (by omega) (by omega) (by omega)) k_X4_untoldIf ml_L_99 dL_holds_379 rfl rfl hl.1 (Nat.le_of_ble_eq_true rfl) ⟨Nat.le_of_ble_eq_true rfl, Nat.le_of_ble_eq_true rfl⟩ ⟨Nat.le_of_ble_eq_true rfl, Nat.le_of_ble_eq_true rfl⟩ (fun H locs G => ?_)
                          refine g_topi (x' := uwI (cs k).1 (cs k).2.1 z) (by rw [show 8 * (z / 8) + z % 8 = z by omega]) ?_
                          refine lv_iconst (v := (-1)) hx hb dL_holds_382 (by decide) ?_
                          refine lv_icmp_eq (tgt := 390) hx hb dL_holds_383 (by decide) (fun c_383 => ?_) (fun c_383 => ?_)
                          · skip
                            exact absurd c_383 (uw_sd c_359)
                          · skip
                            refine lv_iconst (v := 1) hx hb dL_holds_386 (by decide) ?_
                            refine lv_goto (tgt := 391) hx hb dL_holds_387 (by decide) ?_
                            refine lv_icmp_ne (tgt := 398) hx hb dL_holds_391 (by decide) (fun c_391 => ?_) (fun c_391 => ?_)
                            · exact absurd c_391 (by decide)
                            · skip
                              refine lv_iconst (v := 1) hx hb dL_holds_394 (by decide) ?_
                              refine lv_goto (tgt := 399) hx hb dL_holds_395 (by decide) ?_
                              refine lv_istore (lv' := [(5, .int 1), (6, .int (nI ((cnt (fun u9 => decide (biI (tK (cs k)) (tO (cs k)) u9 = -1)) z) + 1))), (9, .int (biI (tK (cs k)) (tO (cs k)) z)), (8, .int (nI (kdN (cs k).1 (cs k).2.1 z))), (0, .ref (ad 0)), (1, .int (nI k)), (2, .int (nI (smN (cs k).1 (cs k).2.1 4))), (4, .int (nI (cnt (dgB (tK (cs k)) (tO (cs k))) 16))), (7, .int (nI z))]) hx hb dL_holds_399 hl (by decide) rfl (fun ls hl => ?_)
                              refine lv_iinc (v := nI (z + 1)) (lv' := [(7, .int (nI (z + 1))), (5, .int 1), (6, .int (nI ((cnt (fun u9 => decide (biI (tK (cs k)) (tO (cs k)) u9 = -1)) z) + 1))), (9, .int (biI (tK (cs k)) (tO (cs k)) z)), (8, .int (nI (kdN (cs k).1 (cs k).2.1 z))), (0, .ref (ad 0)), (1, .int (nI k)), (2, .int (nI (smN (cs k).1 (cs k).2.1 4))), (4, .int (nI (cnt (dgB (tK (cs k)) (tO (cs k))) 16)))]) hx hb dL_holds_401 hl (k := 8) rfl (nI_add z 1) (by decide) rfl (fun ls hl => ?_)
                              refine lv_goto (tgt := 281) hx hb dL_holds_404 (by decide) ?_
                              have hl := lv_sub hl (l' := _) [5, 6, 7, 8, 1, 2, 0] rfl
                              exact ih_281 (z + 1) (by show _ ≤ _; omega) (by show _ < _; omega) _ _ _ G (by first | (rw [show cnt (fun u9 => decide (biI (tK (cs k)) (tO (cs k)) u9 = -1)) (z + 1) = cnt (fun u9 => decide (biI (tK (cs k)) (tO (cs k)) u9 = -1)) z + 1 from by simp [cnt, c_327]]; exact hl) | (rw [show cnt (fun u9 => decide (biI (tK (cs k)) (tO (cs k)) u9 = -1)) (z + 1) = cnt (fun u9 => decide (biI (tK (cs k)) (tO (cs k)) u9 = -1)) z + 0 from by simp [cnt, c_327]]; exact hl))
                      · skip
                        have c_346 : ¬ (1 < (kdN (cs k).1 (cs k).2.1 z)) := fun h => c_346 ((nI_ltI (a := 1) (b := kdN (cs k).1 (cs k).2.1 z) (by omega) (by omega)).mpr h)
                        refine lv_iload hx hb dL_holds_349 (lv_at hl 1 rfl) ?_
                        refine lv_iload hx hb dL_holds_351 (lv_at hl 2 rfl) ?_
                        refine lv_icmp_ne (tgt := 398) hx hb dL_holds_353 (by decide) (fun c_353 => ?_) (fun c_353 => ?_)
                        · skip
                          exact absurd (told_kind (by omega) c_346) c_353
                        · skip
                          refine lv_iload hx hb dL_holds_356 (lv_at hl 2 rfl) ?_
                          refine lv_iconst (v := 2) hx hb dL_holds_358 (by decide) ?_
                          refine lv_icmp_ge (tgt := 366) hx hb dL_holds_359 (by decide) (fun c_359 => ?_) (fun c_359 => ?_)
                          · skip
                            have c_359 : 2 ≤ (kdN (cs k).1 (cs k).2.1 z) := (nI_leI (a := 2) (b := kdN (cs k).1 (cs k).2.1 z) (by omega) (by omega)).mp c_359
                            refine lv_iconst (v := 0) hx hb dL_holds_366 (by decide) ?_
                            refine lv_aload_n hx hb dL_holds_367 rfl (lv_at hl 3 rfl) ?_
                            refine lv_iload_n hx hb dL_holds_368 rfl (lv_at hl 4 rfl) ?_
                            refine lv_iload hx hb dL_holds_369 (lv_at hl 8 rfl) ?_
                            refine lv_bipush (v := 8) hx hb dL_holds_371 (by decide) ?_
                            refine lv_idiv hx hb dL_holds_373 (by decide) ?_
                            refine g_topi (x' := nI (z / 8)) (pk_div (a := z) (d := 8) (by omega) (by decide) (by decide)) ?_
                            refine lv_iload hx hb dL_holds_374 (lv_at hl 8 rfl) ?_
                            refine lv_bipush (v := 8) hx hb dL_holds_376 (by decide) ?_
                            refine lv_irem hx hb dL_holds_378 (by decide) ?_
                            refine g_topi (x' := nI (z % 8)) (pk_rem (a := z) (d := 8) (by omega) (by decide) (by decide)) ?_
                            refine l_callV (As := [.int (nI k), .int (nI (z / 8)), .int (nI (z % 8))]) (rest := [.int 0]) (cs' := cs) (hs' := hs) (r := .int (uwI (cs k).1 (cs k).2.1 (8 * (z / 8) + (z % 8)))) C0 G (l_untoldIf l D cy ad tv cs (hs) k (z / 8) (z % 8) (by omega) (by omega) (by omega)) k_X4_untoldIf ml_L_99 dL_holds_379 rfl rfl hl.1 (Nat.le_of_ble_eq_true rfl) ⟨Nat.le_of_ble_eq_true rfl, Nat.le_of_ble_eq_true rfl⟩ ⟨Nat.le_of_ble_eq_true rfl, Nat.le_of_ble_eq_true rfl⟩ (fun H locs G => ?_)
                            refine g_topi (x' := uwI (cs k).1 (cs k).2.1 z) (by rw [show 8 * (z / 8) + z % 8 = z by omega]) ?_
                            refine lv_iconst (v := (-1)) hx hb dL_holds_382 (by decide) ?_
                            refine lv_icmp_eq (tgt := 390) hx hb dL_holds_383 (by decide) (fun c_383 => ?_) (fun c_383 => ?_)
                            · skip
                              refine lv_iconst (v := 0) hx hb dL_holds_390 (by decide) ?_
                              refine lv_icmp_ne (tgt := 398) hx hb dL_holds_391 (by decide) (fun c_391 => ?_) (fun c_391 => ?_)
                              · exact absurd c_391 (by decide)
                              · skip
                                refine lv_iconst (v := 1) hx hb dL_holds_394 (by decide) ?_
                                refine lv_goto (tgt := 399) hx hb dL_holds_395 (by decide) ?_
                                refine lv_istore (lv' := [(5, .int 1), (6, .int (nI ((cnt (fun u9 => decide (biI (tK (cs k)) (tO (cs k)) u9 = -1)) z) + 1))), (9, .int (biI (tK (cs k)) (tO (cs k)) z)), (8, .int (nI (kdN (cs k).1 (cs k).2.1 z))), (0, .ref (ad 0)), (1, .int (nI k)), (2, .int (nI (smN (cs k).1 (cs k).2.1 4))), (4, .int (nI (cnt (dgB (tK (cs k)) (tO (cs k))) 16))), (7, .int (nI z))]) hx hb dL_holds_399 hl (by decide) rfl (fun ls hl => ?_)
                                refine lv_iinc (v := nI (z + 1)) (lv' := [(7, .int (nI (z + 1))), (5, .int 1), (6, .int (nI ((cnt (fun u9 => decide (biI (tK (cs k)) (tO (cs k)) u9 = -1)) z) + 1))), (9, .int (biI (tK (cs k)) (tO (cs k)) z)), (8, .int (nI (kdN (cs k).1 (cs k).2.1 z))), (0, .ref (ad 0)), (1, .int (nI k)), (2, .int (nI (smN (cs k).1 (cs k).2.1 4))), (4, .int (nI (cnt (dgB (tK (cs k)) (tO (cs k))) 16)))]) hx hb dL_holds_401 hl (k := 8) rfl (nI_add z 1) (by decide) rfl (fun ls hl => ?_)
                                refine lv_goto (tgt := 281) hx hb dL_holds_404 (by decide) ?_
                                have hl := lv_sub hl (l' := _) [5, 6, 7, 8, 1, 2, 0] rfl
                                exact ih_281 (z + 1) (by show _ ≤ _; omega) (by show _ < _; omega) _ _ _ G (by first | (rw [show cnt (fun u9 => decide (biI (tK (cs k)) (tO (cs k)) u9 = -1)) (z + 1) = cnt (fun u9 => decide (biI (tK (cs k)) (tO (cs k)) u9 = -1)) z + 1 from by simp [cnt, c_327]]; exact hl) | (rw [show cnt (fun u9 => decide (biI (tK (cs k)) (tO (cs k)) u9 = -1)) (z + 1) = cnt (fun u9 => decide (biI (tK (cs k)) (tO (cs k)) u9 = -1)) z + 0 from by simp [cnt, c_327]]; exact hl))
                            · skip
                              exact absurd (uw_no c_359) c_383
                          · skip
                            have c_359 : ¬ (2 ≤ (kdN (cs k).1 (cs k).2.1 z)) := fun h => c_359 ((nI_leI (a := 2) (b := kdN (cs k).1 (cs k).2.1 z) (by omega) (by omega)).mpr h)
                            refine lv_iconst (v := 1) hx hb dL_holds_362 (by decide) ?_
                            refine lv_goto (tgt := 367) hx hb dL_holds_363 (by decide) ?_
                            refine lv_aload_n hx hb dL_holds_367 rfl (lv_at hl 3 rfl) ?_
                            refine lv_iload_n hx hb dL_holds_368 rfl (lv_at hl 4 rfl) ?_
                            refine lv_iload hx hb dL_holds_369 (lv_at hl 8 rfl) ?_
                            refine lv_bipush (v := 8) hx hb dL_holds_371 (by decide) ?_
                            refine lv_idiv hx hb dL_holds_373 (by decide) ?_
                            refine g_topi (x' := nI (z / 8)) (pk_div (a := z) (d := 8) (by omega) (by decide) (by decide)) ?_
                            refine lv_iload hx hb dL_holds_374 (lv_at hl 8 rfl) ?_
                            refine lv_bipush (v := 8) hx hb dL_holds_376 (by decide) ?_
                            refine lv_irem hx hb dL_holds_378 (by decide) ?_
                            refine g_topi (x' := nI (z % 8)) (pk_rem (a := z) (d := 8) (by omega) (by decide) (by decide)) ?_
                            refine l_callV (As := [.int (nI k), .int (nI (z / 8)), .int (nI (z % 8))]) (rest := [.int 1]) (cs' := cs) (hs' := hs) (r := .int (uwI (cs k).1 (cs k).2.1 (8 * (z / 8) + (z % 8)))) C0 G (l_untoldIf l D cy ad tv cs (hs) k (z / 8) (z % 8) (by omega) (by omega) (by omega)) k_X4_untoldIf ml_L_99 dL_holds_379 rfl rfl hl.1 (Nat.le_of_ble_eq_true rfl) ⟨Nat.le_of_ble_eq_true rfl, Nat.le_of_ble_eq_true rfl⟩ ⟨Nat.le_of_ble_eq_true rfl, Nat.le_of_ble_eq_true rfl⟩ (fun H locs G => ?_)
                            refine g_topi (x' := uwI (cs k).1 (cs k).2.1 z) (by rw [show 8 * (z / 8) + z % 8 = z by omega]) ?_
                            refine lv_iconst (v := (-1)) hx hb dL_holds_382 (by decide) ?_
                            refine lv_icmp_eq (tgt := 390) hx hb dL_holds_383 (by decide) (fun c_383 => ?_) (fun c_383 => ?_)
                            · skip
                              exact absurd c_383 (uw_sd c_359)
                            · skip
                              refine lv_iconst (v := 1) hx hb dL_holds_386 (by decide) ?_
                              refine lv_goto (tgt := 391) hx hb dL_holds_387 (by decide) ?_
                              refine lv_icmp_ne (tgt := 398) hx hb dL_holds_391 (by decide) (fun c_391 => ?_) (fun c_391 => ?_)
                              · exact absurd c_391 (by decide)
                              · skip
                                refine lv_iconst (v := 1) hx hb dL_holds_394 (by decide) ?_
                                refine lv_goto (tgt := 399) hx hb dL_holds_395 (by decide) ?_
                                refine lv_istore (lv' := [(5, .int 1), (6, .int (nI ((cnt (fun u9 => decide (biI (tK (cs k)) (tO (cs k)) u9 = -1)) z) + 1))), (9, .int (biI (tK (cs k)) (tO (cs k)) z)), (8, .int (nI (kdN (cs k).1 (cs k).2.1 z))), (0, .ref (ad 0)), (1, .int (nI k)), (2, .int (nI (smN (cs k).1 (cs k).2.1 4))), (4, .int (nI (cnt (dgB (tK (cs k)) (tO (cs k))) 16))), (7, .int (nI z))]) hx hb dL_holds_399 hl (by decide) rfl (fun ls hl => ?_)
                                refine lv_iinc (v := nI (z + 1)) (lv' := [(7, .int (nI (z + 1))), (5, .int 1), (6, .int (nI ((cnt (fun u9 => decide (biI (tK (cs k)) (tO (cs k)) u9 = -1)) z) + 1))), (9, .int (biI (tK (cs k)) (tO (cs k)) z)), (8, .int (nI (kdN (cs k).1 (cs k).2.1 z))), (0, .ref (ad 0)), (1, .int (nI k)), (2, .int (nI (smN (cs k).1 (cs k).2.1 4))), (4, .int (nI (cnt (dgB (tK (cs k)) (tO (cs k))) 16)))]) hx hb dL_holds_401 hl (k := 8) rfl (nI_add z 1) (by decide) rfl (fun ls hl => ?_)
                                refine lv_goto (tgt := 281) hx hb dL_holds_404 (by decide) ?_
                                have hl := lv_sub hl (l' := _) [5, 6, 7, 8, 1, 2, 0] rfl
                                exact ih_281 (z + 1) (by show _ ≤ _; omega) (by show _ < _; omega) _ _ _ G (by first | (rw [show cnt (fun u9 => decide (biI (tK (cs k)) (tO (cs k)) u9 = -1)) (z + 1) = cnt (fun u9 => decide (biI (tK (cs k)) (tO (cs k)) u9 = -1)) z + 1 from by simp [cnt, c_327]]; exact hl) | (rw [show cnt (fun u9 => decide (biI (tK (cs k)) (tO (cs k)) u9 = -1)) (z + 1) = cnt (fun u9 => decide (biI (tK (cs k)) (tO (cs k)) u9 = -1)) z + 0 from by simp [cnt, c_327]]; exact hl))
              · skip
                have c_147 : ¬ ((cnt (dgB (tK (cs k)) (tO (cs k))) 16) ≤ q) := fun h => c_147 ((nI_leI (a := cnt (dgB (tK (cs k)) (tO (cs k))) 16) (b := q) (by omega) (by omega)).mpr h)
                refine lv_iload hx hb dL_holds_150 (lv_at hl 5 rfl) ?_
                refine lv_if_eq (tgt := 275) hx hb dL_holds_152 (by decide) (fun c_152 => ?_) (fun c_152 => ?_)
                · exact absurd c_152 (by decide)
                · skip
                  refine lv_aload_n hx hb dL_holds_155 rfl (lv_at hl 0 rfl) ?_
                  refine lv_iload_n hx hb dL_holds_156 rfl (lv_at hl 1 rfl) ?_
                  refine lv_iload hx hb dL_holds_157 (lv_at hl 6 rfl) ?_
                  refine l_callV (As := [.int (nI k), .int (nI q)]) (rest := []) (cs' := cs) (hs' := hs) (r := .int (dlI (dgB (tK (cs k)) (tO (cs k))) q)) C0 G (l_disagreement l D cy ad tv cs (hs) k q (by omega) (by omega)) k_X4_disagreement ml_L_93 dL_holds_159 rfl rfl hl.1 (Nat.le_of_ble_eq_true rfl) ⟨Nat.le_of_ble_eq_true rfl, Nat.le_of_ble_eq_true rfl⟩ ⟨Nat.le_of_ble_eq_true rfl, Nat.le_of_ble_eq_true rfl⟩ (fun H locs G => ?_)
                  obtain ⟨j, hj, hjd, hjc, hje⟩ := dl_ex (P := (dgB (tK (cs k)) (tO (cs k)))) (q := q) (by omega)
                  have hodd := dg_odd hj hjd
                  refine g_topi (x' := nI j) hje ?_
                  refine lv_istore (lv' := [(7, .int (nI j)), (0, .ref (ad 0)), (1, .int (nI k)), (2, .int (nI (smN (cs k).1 (cs k).2.1 4))), (3, .int (lastI (dgB (tK (cs k)) (tO (cs k))) q)), (4, .int (nI (cnt (dgB (tK (cs k)) (tO (cs k))) 16))), (5, .int 1), (6, .int (nI q))]) hx hb dL_holds_162 hl (by decide) rfl (fun ls hl => ?_)
                  refine lv_iconst (v := 0) hx hb dL_holds_164 (by decide) ?_
                  refine lv_istore (lv' := [(8, .int 0), (7, .int (nI j)), (0, .ref (ad 0)), (1, .int (nI k)), (2, .int (nI (smN (cs k).1 (cs k).2.1 4))), (3, .int (lastI (dgB (tK (cs k)) (tO (cs k))) q)), (4, .int (nI (cnt (dgB (tK (cs k)) (tO (cs k))) 16))), (5, .int 1), (6, .int (nI q))]) hx hb dL_holds_165 hl (by decide) rfl (fun ls hl => ?_)
                  refine lv_iconst (v := 0) hx hb dL_holds_167 (by decide) ?_
                  refine lv_istore (lv' := [(9, .int 0), (8, .int 0), (7, .int (nI j)), (0, .ref (ad 0)), (1, .int (nI k)), (2, .int (nI (smN (cs k).1 (cs k).2.1 4))), (3, .int (lastI (dgB (tK (cs k)) (tO (cs k))) q)), (4, .int (nI (cnt (dgB (tK (cs k)) (tO (cs k))) 16))), (5, .int 1), (6, .int (nI q))]) hx hb dL_holds_168 hl (by decide) rfl (fun ls hl => ?_)
                  have hl := lv_sub hl (l' := [(0, .ref (ad 0)), (1, .int (nI k)), (2, .int (nI (smN (cs k).1 (cs k).2.1 4))), (3, .int (lastI (dgB (tK (cs k)) (tO (cs k))) q)), (4, .int (nI (cnt (dgB (tK (cs k)) (tO (cs k))) 16))), (5, .int 1), (6, .int (nI q)), (7, .int (nI j)), (8, .int 0), (9, .int 0)]) [3, 4, 5, 6, 7, 8, 9, 2, 1, 0] rfl
                  refine l_loop (σ := Nat) (fun x => 8 - x) (fun x => [(0, .ref (ad 0)), (1, .int (nI k)), (2, .int (nI (smN (cs k).1 (cs k).2.1 4))), (3, .int (lastI (dgB (tK (cs k)) (tO (cs k))) q)), (4, .int (nI (cnt (dgB (tK (cs k)) (tO (cs k))) 16))), (5, .int 1), (6, .int (nI q)), (7, .int (nI j)), (8, .int (nI (cnt (fun u9 => tb (tO (cs k)) (lcN j u9)) x))), (9, .int (nI x))]) (fun x => x ≤ 8) ?_ 0 (by show _ ≤ _; omega) G hl
                  intro x hi_170 ih_170 H locs ls G hl
                  have hbn := bN_lt (tO (cs k)) (lcN j x)
                  have hcx := cnt_le (fun z => tb (tO (cs k)) (lcN j z)) x
                  have hl : lv_has ls 11 [(0, .ref (ad 0)), (1, .int (nI k)), (2, .int (nI (smN (cs k).1 (cs k).2.1 4))), (3, .int (lastI (dgB (tK (cs k)) (tO (cs k))) q)), (4, .int (nI (cnt (dgB (tK (cs k)) (tO (cs k))) 16))), (5, .int 1), (6, .int (nI q)), (7, .int (nI j)), (8, .int (nI (cnt (fun u9 => tb (tO (cs k)) (lcN j u9)) x))), (9, .int (nI x))] := hl
                  refine lv_iload hx hb dL_holds_170 (lv_at hl 9 rfl) ?_
                  refine lv_bipush (v := 8) hx hb dL_holds_172 (by decide) ?_
                  refine lv_icmp_ge (tgt := 240) hx hb dL_holds_174 (by decide) (fun c_174 => ?_) (fun c_174 => ?_)
                  · skip
                    have c_174 : 8 ≤ x := (nI_leI (a := 8) (b := x) (by omega) (by omega)).mp c_174
                    obtain rfl : x = 8 := by omega
                    have hl : lv_has ls 11 [(0, .ref (ad 0)), (1, .int (nI k)), (2, .int (nI (smN (cs k).1 (cs k).2.1 4))), (3, .int (lastI (dgB (tK (cs k)) (tO (cs k))) q)), (4, .int (nI (cnt (dgB (tK (cs k)) (tO (cs k))) 16))), (5, .int 1), (6, .int (nI q)), (7, .int (nI j)), (8, .int (nI (cnt (fun u9 => tb (tO (cs k)) (lcN j u9)) 8))), (9, .int (nI 8))] := hl
                    refine lv_iload hx hb dL_holds_240 (lv_at hl 5 rfl) ?_
                    refine lv_if_eq (tgt := 263) hx hb dL_holds_242 (by decide) (fun c_242 => ?_) (fun c_242 => ?_)
                    · exact absurd c_242 (by decide)
                    · skip
                      refine lv_iload hx hb dL_holds_245 (lv_at hl 7 rfl) ?_
                      refine lv_iload_n hx hb dL_holds_247 rfl (lv_at hl 3 rfl) ?_
                      refine lv_icmp_le (tgt := 263) hx hb dL_holds_248 (by decide) (fun c_248 => ?_) (fun c_248 => ?_)
                      · skip
                        exact absurd c_248 (la_lt (by omega) hj hjc)
                      · skip
                        refine lv_iload hx hb dL_holds_251 (lv_at hl 8 rfl) ?_
                        refine lv_iconst (v := 2) hx hb dL_holds_253 (by decide) ?_
                        refine lv_irem hx hb dL_holds_254 (by decide) ?_
                        refine g_topi (x' := nI ((cnt (fun u9 => tb (tO (cs k)) (lcN j u9)) 8) % 2)) (pk_rem (a := cnt (fun u9 => tb (tO (cs k)) (lcN j u9)) 8) (d := 2) (by omega) (by decide) (by decide)) ?_
                        refine lv_iconst (v := 1) hx hb dL_holds_255 (by decide) ?_
                        refine lv_icmp_ne (tgt := 263) hx hb dL_holds_256 (by decide) (fun c_256 => ?_) (fun c_256 => ?_)
                        · skip
                          have c_256 : ¬ (((cnt (fun u9 => tb (tO (cs k)) (lcN j u9)) 8) % 2) = 1) := fun h => c_256 ((nI_eq (a := (cnt (fun u9 => tb (tO (cs k)) (lcN j u9)) 8) % 2) (b := 1) (by omega) (by omega)).mpr h)
                          exact absurd c_256 (by omega)
                        · skip
                          have c_256 : ((cnt (fun u9 => tb (tO (cs k)) (lcN j u9)) 8) % 2) = 1 := (nI_eq (a := (cnt (fun u9 => tb (tO (cs k)) (lcN j u9)) 8) % 2) (b := 1) (by omega) (by omega)).mp c_256
                          refine lv_iconst (v := 1) hx hb dL_holds_259 (by decide) ?_
                          refine lv_goto (tgt := 264) hx hb dL_holds_260 (by decide) ?_
                          refine lv_istore (lv' := [(5, .int 1), (0, .ref (ad 0)), (1, .int (nI k)), (2, .int (nI (smN (cs k).1 (cs k).2.1 4))), (3, .int (lastI (dgB (tK (cs k)) (tO (cs k))) q)), (4, .int (nI (cnt (dgB (tK (cs k)) (tO (cs k))) 16))), (6, .int (nI q)), (7, .int (nI j)), (8, .int (nI (cnt (fun u9 => tb (tO (cs k)) (lcN j u9)) 8))), (9, .int (nI 8))]) hx hb dL_holds_264 hl (by decide) rfl (fun ls hl => ?_)
                          refine lv_iload hx hb dL_holds_266 (lv_at hl 7 rfl) ?_
                          refine lv_istore_n (lv' := [(3, .int (nI j)), (5, .int 1), (0, .ref (ad 0)), (1, .int (nI k)), (2, .int (nI (smN (cs k).1 (cs k).2.1 4))), (4, .int (nI (cnt (dgB (tK (cs k)) (tO (cs k))) 16))), (6, .int (nI q)), (7, .int (nI j)), (8, .int (nI (cnt (fun u9 => tb (tO (cs k)) (lcN j u9)) 8))), (9, .int (nI 8))]) hx hb dL_holds_268 rfl hl (by decide) rfl (fun ls hl => ?_)
                          refine lv_iinc (v := nI (q + 1)) (lv' := [(6, .int (nI (q + 1))), (3, .int (nI j)), (5, .int 1), (0, .ref (ad 0)), (1, .int (nI k)), (2, .int (nI (smN (cs k).1 (cs k).2.1 4))), (4, .int (nI (cnt (dgB (tK (cs k)) (tO (cs k))) 16))), (7, .int (nI j)), (8, .int (nI (cnt (fun u9 => tb (tO (cs k)) (lcN j u9)) 8))), (9, .int (nI 8))]) hx hb dL_holds_269 hl (k := 6) rfl (nI_add q 1) (by decide) rfl (fun ls hl => ?_)
                          refine lv_goto (tgt := 143) hx hb dL_holds_272 (by decide) ?_
                          have hl := lv_sub hl (l' := _) [3, 4, 5, 1, 6, 2, 0] rfl
                          exact ih_143 (q + 1) (by show _ ≤ _; omega) (by show _ < _; omega) _ _ _ G (by rw [show lastI (dgB (tK (cs k)) (tO (cs k))) (q + 1) = nI j from hje]; exact hl)
                  · skip
                    have c_174 : ¬ (8 ≤ x) := fun h => c_174 ((nI_leI (a := 8) (b := x) (by omega) (by omega)).mpr h)
                    refine lv_iload hx hb dL_holds_177 (lv_at hl 7 rfl) ?_
                    refine lv_bipush (v := 8) hx hb dL_holds_179 (by decide) ?_
                    refine lv_icmp_ge (tgt := 196) hx hb dL_holds_181 (by decide) (fun c_181 => ?_) (fun c_181 => ?_)
                    · skip
                      have c_181 : 8 ≤ j := (nI_leI (a := 8) (b := j) (by omega) (by omega)).mp c_181
                      refine lv_aload_n hx hb dL_holds_196 rfl (lv_at hl 0 rfl) ?_
                      refine lv_iload_n hx hb dL_holds_197 rfl (lv_at hl 1 rfl) ?_
                      refine lv_iload hx hb dL_holds_198 (lv_at hl 9 rfl) ?_
                      refine lv_iload hx hb dL_holds_200 (lv_at hl 7 rfl) ?_
                      refine lv_bipush (v := 8) hx hb dL_holds_202 (by decide) ?_
                      refine lv_isub hx hb dL_holds_204 ?_
                      refine g_topi (x' := nI (j - 8)) (pk_sub (a := j) (b := 8) (by omega)) ?_
                      refine l_callV (As := [.int (nI k), .int (nI x), .int (nI (j - 8))]) (rest := []) (cs' := cs) (hs' := hs) (r := .int (biI (tK (cs k)) (tO (cs k)) (8 * x + (j - 8)))) C0 G (l_told l D cy ad tv cs (hs) k x (j - 8) (by omega) (by omega) (by omega)) k_X4_told ml_L_96 dL_holds_205 rfl rfl hl.1 (Nat.le_of_ble_eq_true rfl) ⟨Nat.le_of_ble_eq_true rfl, Nat.le_of_ble_eq_true rfl⟩ ⟨Nat.le_of_ble_eq_true rfl, Nat.le_of_ble_eq_true rfl⟩ (fun H locs G => ?_)
                      refine g_topi (x' := nI (bN (tO (cs k)) (lcN j x))) (dg_bit hj (by omega) hjd (by unfold lcN; rw [if_neg (by omega)]; omega)) ?_
                      refine lv_istore (lv' := [(10, .int (nI (bN (tO (cs k)) (lcN j x)))), (0, .ref (ad 0)), (1, .int (nI k)), (2, .int (nI (smN (cs k).1 (cs k).2.1 4))), (3, .int (lastI (dgB (tK (cs k)) (tO (cs k))) q)), (4, .int (nI (cnt (dgB (tK (cs k)) (tO (cs k))) 16))), (5, .int 1), (6, .int (nI q)), (7, .int (nI j)), (8, .int (nI (cnt (fun u9 => tb (tO (cs k)) (lcN j u9)) x))), (9, .int (nI x))]) hx hb dL_holds_208 hl (by decide) rfl (fun ls hl => ?_)
                      refine lv_iload hx hb dL_holds_210 (lv_at hl 6 rfl) ?_
                      refine lv_if_eq (tgt := 224) hx hb dL_holds_212 (by decide) (fun c_212 => ?_) (fun c_212 => ?_)
                      · exact absurd c_212 (by decide)
                      · skip
                        refine lv_iload hx hb dL_holds_215 (lv_at hl 0 rfl) ?_
                        refine lv_if_lt (tgt := 224) hx hb dL_holds_217 (by decide) (fun c_217 => ?_) (fun c_217 => ?_)
                        · skip
                          have c_217 : (bN (tO (cs k)) (lcN j x)) < 0 := (nI_ltI (a := bN (tO (cs k)) (lcN j x)) (b := 0) (by omega) (by omega)).mp c_217
                          exact absurd c_217 (by omega)
                        · skip
                          have c_217 : ¬ ((bN (tO (cs k)) (lcN j x)) < 0) := fun h => c_217 ((nI_ltI (a := bN (tO (cs k)) (lcN j x)) (b := 0) (by omega) (by omega)).mpr h)
                          refine lv_iconst (v := 1) hx hb dL_holds_220 (by decide) ?_
                          refine lv_goto (tgt := 225) hx hb dL_holds_221 (by decide) ?_
                          refine lv_istore (lv' := [(5, .int 1), (10, .int (nI (bN (tO (cs k)) (lcN j x)))), (0, .ref (ad 0)), (1, .int (nI k)), (2, .int (nI (smN (cs k).1 (cs k).2.1 4))), (3, .int (lastI (dgB (tK (cs k)) (tO (cs k))) q)), (4, .int (nI (cnt (dgB (tK (cs k)) (tO (cs k))) 16))), (6, .int (nI q)), (7, .int (nI j)), (8, .int (nI (cnt (fun u9 => tb (tO (cs k)) (lcN j u9)) x))), (9, .int (nI x))]) hx hb dL_holds_225 hl (by decide) rfl (fun ls hl => ?_)
                          refine lv_iload hx hb dL_holds_227 (lv_at hl 9 rfl) ?_
                          refine lv_iload hx hb dL_holds_229 (lv_at hl 1 rfl) ?_
                          refine lv_iadd hx hb dL_holds_231 ?_
                          refine g_topi (x' := nI ((cnt (fun u9 => tb (tO (cs k)) (lcN j u9)) x) + (bN (tO (cs k)) (lcN j x)))) (nI_add (cnt (fun u9 => tb (tO (cs k)) (lcN j u9)) x) (bN (tO (cs k)) (lcN j x))) ?_
                          refine lv_istore (lv' := [(8, .int (nI ((cnt (fun u9 => tb (tO (cs k)) (lcN j u9)) x) + (bN (tO (cs k)) (lcN j x))))), (5, .int 1), (10, .int (nI (bN (tO (cs k)) (lcN j x)))), (0, .ref (ad 0)), (1, .int (nI k)), (2, .int (nI (smN (cs k).1 (cs k).2.1 4))), (3, .int (lastI (dgB (tK (cs k)) (tO (cs k))) q)), (4, .int (nI (cnt (dgB (tK (cs k)) (tO (cs k))) 16))), (6, .int (nI q)), (7, .int (nI j)), (9, .int (nI x))]) hx hb dL_holds_232 hl (by decide) rfl (fun ls hl => ?_)
                          refine lv_iinc (v := nI (x + 1)) (lv' := [(9, .int (nI (x + 1))), (8, .int (nI ((cnt (fun u9 => tb (tO (cs k)) (lcN j u9)) x) + (bN (tO (cs k)) (lcN j x))))), (5, .int 1), (10, .int (nI (bN (tO (cs k)) (lcN j x)))), (0, .ref (ad 0)), (1, .int (nI k)), (2, .int (nI (smN (cs k).1 (cs k).2.1 4))), (3, .int (lastI (dgB (tK (cs k)) (tO (cs k))) q)), (4, .int (nI (cnt (dgB (tK (cs k)) (tO (cs k))) 16))), (6, .int (nI q)), (7, .int (nI j))]) hx hb dL_holds_234 hl (k := 10) rfl (nI_add x 1) (by decide) rfl (fun ls hl => ?_)
                          refine lv_goto (tgt := 170) hx hb dL_holds_237 (by decide) ?_
                          have hl := lv_sub hl (l' := _) [4, 5, 6, 7, 8, 2, 9, 10, 1, 0] rfl
                          exact ih_170 (x + 1) (by show _ ≤ _; omega) (by show _ < _; omega) _ _ _ G hl
                    · skip
                      have c_181 : ¬ (8 ≤ j) := fun h => c_181 ((nI_leI (a := 8) (b := j) (by omega) (by omega)).mpr h)
                      refine lv_aload_n hx hb dL_holds_184 rfl (lv_at hl 0 rfl) ?_
                      refine lv_iload_n hx hb dL_holds_185 rfl (lv_at hl 1 rfl) ?_
                      refine lv_iload hx hb dL_holds_186 (lv_at hl 7 rfl) ?_
                      refine lv_iload hx hb dL_holds_188 (lv_at hl 9 rfl) ?_
                      refine l_callV (As := [.int (nI k), .int (nI j), .int (nI x)]) (rest := []) (cs' := cs) (hs' := hs) (r := .int (biI (tK (cs k)) (tO (cs k)) (8 * j + x))) C0 G (l_told l D cy ad tv cs (hs) k j x (by omega) (by omega) (by omega)) k_X4_told ml_L_96 dL_holds_190 rfl rfl hl.1 (Nat.le_of_ble_eq_true rfl) ⟨Nat.le_of_ble_eq_true rfl, Nat.le_of_ble_eq_true rfl⟩ ⟨Nat.le_of_ble_eq_true rfl, Nat.le_of_ble_eq_true rfl⟩ (fun H locs G => ?_)
                      refine g_topi (x' := nI (bN (tO (cs k)) (lcN j x))) (dg_bit hj (by omega) hjd (by unfold lcN; rw [if_pos (by omega)])) ?_
                      refine lv_goto (tgt := 208) hx hb dL_holds_193 (by decide) ?_
                      refine lv_istore (lv' := [(10, .int (nI (bN (tO (cs k)) (lcN j x)))), (0, .ref (ad 0)), (1, .int (nI k)), (2, .int (nI (smN (cs k).1 (cs k).2.1 4))), (3, .int (lastI (dgB (tK (cs k)) (tO (cs k))) q)), (4, .int (nI (cnt (dgB (tK (cs k)) (tO (cs k))) 16))), (5, .int 1), (6, .int (nI q)), (7, .int (nI j)), (8, .int (nI (cnt (fun u9 => tb (tO (cs k)) (lcN j u9)) x))), (9, .int (nI x))]) hx hb dL_holds_208 hl (by decide) rfl (fun ls hl => ?_)
                      refine lv_iload hx hb dL_holds_210 (lv_at hl 6 rfl) ?_
                      refine lv_if_eq (tgt := 224) hx hb dL_holds_212 (by decide) (fun c_212 => ?_) (fun c_212 => ?_)
                      · exact absurd c_212 (by decide)
                      · skip
                        refine lv_iload hx hb dL_holds_215 (lv_at hl 0 rfl) ?_
                        refine lv_if_lt (tgt := 224) hx hb dL_holds_217 (by decide) (fun c_217 => ?_) (fun c_217 => ?_)
                        · skip
                          have c_217 : (bN (tO (cs k)) (lcN j x)) < 0 := (nI_ltI (a := bN (tO (cs k)) (lcN j x)) (b := 0) (by omega) (by omega)).mp c_217
                          exact absurd c_217 (by omega)
                        · skip
                          have c_217 : ¬ ((bN (tO (cs k)) (lcN j x)) < 0) := fun h => c_217 ((nI_ltI (a := bN (tO (cs k)) (lcN j x)) (b := 0) (by omega) (by omega)).mpr h)
                          refine lv_iconst (v := 1) hx hb dL_holds_220 (by decide) ?_
                          refine lv_goto (tgt := 225) hx hb dL_holds_221 (by decide) ?_
                          refine lv_istore (lv' := [(5, .int 1), (10, .int (nI (bN (tO (cs k)) (lcN j x)))), (0, .ref (ad 0)), (1, .int (nI k)), (2, .int (nI (smN (cs k).1 (cs k).2.1 4))), (3, .int (lastI (dgB (tK (cs k)) (tO (cs k))) q)), (4, .int (nI (cnt (dgB (tK (cs k)) (tO (cs k))) 16))), (6, .int (nI q)), (7, .int (nI j)), (8, .int (nI (cnt (fun u9 => tb (tO (cs k)) (lcN j u9)) x))), (9, .int (nI x))]) hx hb dL_holds_225 hl (by decide) rfl (fun ls hl => ?_)
                          refine lv_iload hx hb dL_holds_227 (lv_at hl 9 rfl) ?_
                          refine lv_iload hx hb dL_holds_229 (lv_at hl 1 rfl) ?_
                          refine lv_iadd hx hb dL_holds_231 ?_
                          refine g_topi (x' := nI ((cnt (fun u9 => tb (tO (cs k)) (lcN j u9)) x) + (bN (tO (cs k)) (lcN j x)))) (nI_add (cnt (fun u9 => tb (tO (cs k)) (lcN j u9)) x) (bN (tO (cs k)) (lcN j x))) ?_
                          refine lv_istore (lv' := [(8, .int (nI ((cnt (fun u9 => tb (tO (cs k)) (lcN j u9)) x) + (bN (tO (cs k)) (lcN j x))))), (5, .int 1), (10, .int (nI (bN (tO (cs k)) (lcN j x)))), (0, .ref (ad 0)), (1, .int (nI k)), (2, .int (nI (smN (cs k).1 (cs k).2.1 4))), (3, .int (lastI (dgB (tK (cs k)) (tO (cs k))) q)), (4, .int (nI (cnt (dgB (tK (cs k)) (tO (cs k))) 16))), (6, .int (nI q)), (7, .int (nI j)), (9, .int (nI x))]) hx hb dL_holds_232 hl (by decide) rfl (fun ls hl => ?_)
                          refine lv_iinc (v := nI (x + 1)) (lv' := [(9, .int (nI (x + 1))), (8, .int (nI ((cnt (fun u9 => tb (tO (cs k)) (lcN j u9)) x) + (bN (tO (cs k)) (lcN j x))))), (5, .int 1), (10, .int (nI (bN (tO (cs k)) (lcN j x)))), (0, .ref (ad 0)), (1, .int (nI k)), (2, .int (nI (smN (cs k).1 (cs k).2.1 4))), (3, .int (lastI (dgB (tK (cs k)) (tO (cs k))) q)), (4, .int (nI (cnt (dgB (tK (cs k)) (tO (cs k))) 16))), (6, .int (nI q)), (7, .int (nI j))]) hx hb dL_holds_234 hl (k := 10) rfl (nI_add x 1) (by decide) rfl (fun ls hl => ?_)
                          refine lv_goto (tgt := 170) hx hb dL_holds_237 (by decide) ?_
                          have hl := lv_sub hl (l' := _) [4, 5, 6, 7, 8, 2, 9, 10, 1, 0] rfl
                          exact ih_170 (x + 1) (by show _ ≤ _; omega) (by show _ < _; omega) _ _ _ G hl
            · skip
              have c_91 : ¬ (7 ≤ i) := fun h => c_91 ((nI_leI (a := 7) (b := i) (by omega) (by omega)).mpr h)
              refine lv_iload hx hb dL_holds_94 (lv_at hl 5 rfl) ?_
              refine lv_if_eq (tgt := 131) hx hb dL_holds_96 (by decide) (fun c_96 => ?_) (fun c_96 => ?_)
              · exact absurd c_96 (by decide)
              · skip
                refine lv_aload_n hx hb dL_holds_99 rfl (lv_at hl 0 rfl) ?_
                refine lv_iload_n hx hb dL_holds_100 rfl (lv_at hl 1 rfl) ?_
                refine lv_iload hx hb dL_holds_101 (lv_at hl 6 rfl) ?_
                refine l_callV (As := [.int (nI k), .int (nI i)]) (rest := []) (cs' := cs) (hs' := hs) (r := .int (rvI (sdW (cs k).1 (cs k).2.1) (onW (cs k).1 (cs k).2.1) i)) C0 G (l_read l D cy ad tv cs (hs) k i (by omega) (by omega)) k_X4_read ml_L_84 dL_holds_103 rfl rfl hl.1 (Nat.le_of_ble_eq_true rfl) ⟨Nat.le_of_ble_eq_true rfl, Nat.le_of_ble_eq_true rfl⟩ ⟨Nat.le_of_ble_eq_true rfl, Nat.le_of_ble_eq_true rfl⟩ (fun H locs G => ?_)
                refine lv_iconst (v := (-1)) hx hb dL_holds_106 (by decide) ?_
                refine lv_icmp_eq (tgt := 127) hx hb dL_holds_107 (by decide) (fun c_107 => ?_) (fun c_107 => ?_)
                · skip
                  refine lv_iconst (v := 1) hx hb dL_holds_127 (by decide) ?_
                  refine lv_goto (tgt := 132) hx hb dL_holds_128 (by decide) ?_
                  refine lv_istore (lv' := [(5, .int 1), (0, .ref (ad 0)), (1, .int (nI k)), (2, .int (nI (smN (cs k).1 (cs k).2.1 4))), (3, .int (-1)), (4, .int (nI (cnt (dgB (tK (cs k)) (tO (cs k))) 16))), (6, .int (nI i))]) hx hb dL_holds_132 hl (by decide) rfl (fun ls hl => ?_)
                  refine lv_iinc (v := nI (i + 1)) (lv' := [(6, .int (nI (i + 1))), (5, .int 1), (0, .ref (ad 0)), (1, .int (nI k)), (2, .int (nI (smN (cs k).1 (cs k).2.1 4))), (3, .int (-1)), (4, .int (nI (cnt (dgB (tK (cs k)) (tO (cs k))) 16)))]) hx hb dL_holds_134 hl (k := 6) rfl (nI_add i 1) (by decide) rfl (fun ls hl => ?_)
                  refine lv_goto (tgt := 87) hx hb dL_holds_137 (by decide) ?_
                  have hl := lv_sub hl (l' := _) [2, 3, 4, 5, 6, 1, 0] rfl
                  exact ih_87 (i + 1) (by show _ ≤ _; omega) (by show _ < _; omega) _ _ _ G hl
                · skip
                  refine lv_aload_n hx hb dL_holds_110 rfl (lv_at hl 0 rfl) ?_
                  refine lv_iload_n hx hb dL_holds_111 rfl (lv_at hl 1 rfl) ?_
                  refine lv_iload hx hb dL_holds_112 (lv_at hl 6 rfl) ?_
                  refine l_callV (As := [.int (nI k), .int (nI i)]) (rest := []) (cs' := cs) (hs' := hs) (r := .int (rvI (tK (cs k)) (tO (cs k)) i)) C0 G (l_value l D cy ad tv cs (hs) k i (by omega) (by omega)) k_X4_value ml_L_87 dL_holds_114 rfl rfl hl.1 (Nat.le_of_ble_eq_true rfl) ⟨Nat.le_of_ble_eq_true rfl, Nat.le_of_ble_eq_true rfl⟩ ⟨Nat.le_of_ble_eq_true rfl, Nat.le_of_ble_eq_true rfl⟩ (fun H locs G => ?_)
                  refine lv_aload_n hx hb dL_holds_117 rfl (lv_at hl 0 rfl) ?_
                  refine lv_iload_n hx hb dL_holds_118 rfl (lv_at hl 1 rfl) ?_
                  refine lv_iload hx hb dL_holds_119 (lv_at hl 6 rfl) ?_
                  refine l_callV (As := [.int (nI k), .int (nI i)]) (rest := [.int (rvI (tK (cs k)) (tO (cs k)) i)]) (cs' := cs) (hs' := hs) (r := .int (rvI (sdW (cs k).1 (cs k).2.1) (onW (cs k).1 (cs k).2.1) i)) C0 G (l_read l D cy ad tv cs (hs) k i (by omega) (by omega)) k_X4_read ml_L_84 dL_holds_121 rfl rfl hl.1 (Nat.le_of_ble_eq_true rfl) ⟨Nat.le_of_ble_eq_true rfl, Nat.le_of_ble_eq_true rfl⟩ ⟨Nat.le_of_ble_eq_true rfl, Nat.le_of_ble_eq_true rfl⟩ (fun H locs G => ?_)
                  refine lv_icmp_ne (tgt := 131) hx hb dL_holds_124 (by decide) (fun c_124 => ?_) (fun c_124 => ?_)
                  · skip
                    exact absurd (rv_same (by omega) c_107) c_124
                  · skip
                    refine lv_iconst (v := 1) hx hb dL_holds_127 (by decide) ?_
                    refine lv_goto (tgt := 132) hx hb dL_holds_128 (by decide) ?_
                    refine lv_istore (lv' := [(5, .int 1), (0, .ref (ad 0)), (1, .int (nI k)), (2, .int (nI (smN (cs k).1 (cs k).2.1 4))), (3, .int (-1)), (4, .int (nI (cnt (dgB (tK (cs k)) (tO (cs k))) 16))), (6, .int (nI i))]) hx hb dL_holds_132 hl (by decide) rfl (fun ls hl => ?_)
                    refine lv_iinc (v := nI (i + 1)) (lv' := [(6, .int (nI (i + 1))), (5, .int 1), (0, .ref (ad 0)), (1, .int (nI k)), (2, .int (nI (smN (cs k).1 (cs k).2.1 4))), (3, .int (-1)), (4, .int (nI (cnt (dgB (tK (cs k)) (tO (cs k))) 16)))]) hx hb dL_holds_134 hl (k := 6) rfl (nI_add i 1) (by decide) rfl (fun ls hl => ?_)
                    refine lv_goto (tgt := 87) hx hb dL_holds_137 (by decide) ?_
                    have hl := lv_sub hl (l' := _) [2, 3, 4, 5, 6, 1, 0] rfl
                    exact ih_87 (i + 1) (by show _ ≤ _; omega) (by show _ < _; omega) _ _ _ G hl
          · skip
            have c_65 : ¬ (4 ≤ i) := fun h => c_65 ((nI_leI (a := 4) (b := i) (by omega) (by omega)).mpr h)
            refine lv_iload_n hx hb dL_holds_68 rfl (lv_at hl 2 rfl) ?_
            refine lv_aload_n hx hb dL_holds_69 rfl (lv_at hl 0 rfl) ?_
            refine lv_iload_n hx hb dL_holds_70 rfl (lv_at hl 1 rfl) ?_
            refine lv_iload hx hb dL_holds_71 (lv_at hl 6 rfl) ?_
            refine l_callV (As := [.int (nI k), .int (nI i)]) (rest := [.int (nI (smN (cs k).1 (cs k).2.1 i))]) (cs' := cs) (hs' := hs) (r := .int (nI (pc (kdW (cs k).1 (cs k).2.1 i)))) C0 G (l_count l D cy ad tv cs (hs) k i (by omega) (by omega)) k_X4_count ml_L_36 dL_holds_73 rfl rfl hl.1 (Nat.le_of_ble_eq_true rfl) ⟨Nat.le_of_ble_eq_true rfl, Nat.le_of_ble_eq_true rfl⟩ ⟨Nat.le_of_ble_eq_true rfl, Nat.le_of_ble_eq_true rfl⟩ (fun H locs G => ?_)
            refine lv_iadd hx hb dL_holds_76 ?_
            refine g_topi (x' := nI ((smN (cs k).1 (cs k).2.1 i) + (pc (kdW (cs k).1 (cs k).2.1 i)))) (nI_add (smN (cs k).1 (cs k).2.1 i) (pc (kdW (cs k).1 (cs k).2.1 i))) ?_
            refine lv_istore_n (lv' := [(2, .int (nI ((smN (cs k).1 (cs k).2.1 i) + (pc (kdW (cs k).1 (cs k).2.1 i))))), (0, .ref (ad 0)), (1, .int (nI k)), (3, .int (-1)), (4, .int (nI (cnt (dgB (tK (cs k)) (tO (cs k))) 16))), (5, .int 1), (6, .int (nI i))]) hx hb dL_holds_77 rfl hl (by decide) rfl (fun ls hl => ?_)
            refine lv_iinc (v := nI (i + 1)) (lv' := [(6, .int (nI (i + 1))), (2, .int (nI ((smN (cs k).1 (cs k).2.1 i) + (pc (kdW (cs k).1 (cs k).2.1 i))))), (0, .ref (ad 0)), (1, .int (nI k)), (3, .int (-1)), (4, .int (nI (cnt (dgB (tK (cs k)) (tO (cs k))) 16))), (5, .int 1)]) hx hb dL_holds_78 hl (k := 6) rfl (nI_add i 1) (by decide) rfl (fun ls hl => ?_)
            refine lv_goto (tgt := 62) hx hb dL_holds_81 (by decide) ?_
            have hl := lv_sub hl (l' := _) [2, 3, 1, 4, 5, 6, 0] rfl
            exact ih_62 (i + 1) (by show _ ≤ _; omega) (by show _ < _; omega) _ _ _ G hl
