/-! what 'isSeen' rests on: raw numbers as eight bits -/
def by8 (p : Nat → Bool) : Nat → Nat
  | 0 => 0
  | c + 1 => 2 * by8 p c + (if p c then 1 else 0)
theorem by8_cong {p q : Nat → Bool} : ∀ {n : Nat}, (∀ c, c < n → p c = q c) → by8 p n = by8 q n
  | 0, _ => rfl
  | n + 1, h => by
    show 2 * by8 p n + _ = 2 * by8 q n + _
    rw [by8_cong (n := n) (fun c hc => h c (Nat.lt_succ_of_lt hc)), h n (Nat.lt_succ_self n)]
theorem rw_by (f b : Int64) (v row : Nat) : ∀ n, rwN f b v row n = by8 (shB1 f b v row) n
  | 0 => rfl
  | n + 1 => by
    show 2 * rwN f b v row n + _ = 2 * by8 _ n + _
    rw [rw_by f b v row n]
theorem rw_0 {f b : Int64} {r : Nat} : rwN f b 0 r 8 = by8 (fun u => tb f (8 * r + u)) 8 := by
  rw [rw_by]
  exact by8_cong (fun c hc => by simp [shB1, hoB, sbB, scN])
theorem rw_2 {f b : Int64} {r : Nat} : rwN f b 2 r 8 = by8 (fun u => tb b (8 * r + (7 - u))) 8 := by
  rw [rw_by]
  exact by8_cong (fun c hc => by simp [shB1, hoB, sbB, scN])
theorem rw_1 {f b : Int64} {r : Nat} (hr : r < 8) : rwN f b 1 (7 - r) 8 = by8 (fun u => tb f (8 * r + (7 - u))) 8 := by
  rw [rw_by]
  exact by8_cong (fun c hc => by simp [shB1, hoB, sbB, scN, show 7 - (7 - r) = r by omega])
theorem rw_3 {f b : Int64} {r : Nat} (hr : r < 8) : rwN f b 3 (7 - r) 8 = by8 (fun u => tb b (8 * r + u)) 8 := by
  rw [rw_by]
  exact by8_cong (fun c hc => by simp [shB1, hoB, sbB, scN, show 7 - (7 - r) = r by omega])
def b8 (a b c d e f g h : Bool) : Nat := by8 (fun i => match i with | 0 => a | 1 => b | 2 => c | 3 => d | 4 => e | 5 => f | 6 => g | _ => h) 8
theorem by_b8 (p : Nat → Bool) : by8 p 8 = b8 (p 0) (p 1) (p 2) (p 3) (p 4) (p 5) (p 6) (p 7) := rfl
theorem b8_rev : ∀ a b c d e f g h : Bool, rvR (b8 a b c d e f g h) 8 = b8 h g f e d c b a := by decide +kernel
theorem b8_not : ∀ a b c d e f g h : Bool, b8 a b c d e f g h + b8 (!a) (!b) (!c) (!d) (!e) (!f) (!g) (!h) = 255 := by decide +kernel
theorem b8_lt : ∀ a b c d e f g h : Bool, b8 a b c d e f g h < 256 := by decide +kernel
theorem by8_lt (p : Nat → Bool) : by8 p 8 < 256 := b8_lt _ _ _ _ _ _ _ _
theorem rv_rev (p : Nat → Bool) : rvR (by8 p 8) 8 = by8 (fun u => p (7 - u)) 8 := b8_rev _ _ _ _ _ _ _ _
theorem by8_not (p : Nat → Bool) : by8 p 8 + by8 (fun u => !p u) 8 = 255 := b8_not _ _ _ _ _ _ _ _
theorem rv_rev2 (p : Nat → Bool) : rvR (by8 (fun u => p (7 - u)) 8) 8 = by8 p 8 := by
  rw [rv_rev]
  exact by8_cong (fun c hc => by show p (7 - (7 - c)) = p c; rw [show 7 - (7 - c) = c by omega])
theorem al_sd {f b : Int64} {r : Nat} (h : allB (fun u => decide (kdN f b (8 * r + u) < 2)) 8 = true) : ∀ u, u < 8 → tb b (8 * r + u) = !tb f (8 * r + u) := by
  intro u hu
  have h1 := allB_iff.mp h u hu
  simp only [kdN_sd, tb_sd] at h1
  cases hf : tb f (8 * r + u) <;> cases hb : tb b (8 * r + u) <;> rw [hf, hb] at h1 <;> first | rfl | exact absurd h1 (by decide)
theorem se_1 {f b : Int64} {r : Nat} (h : allB (fun u => decide (kdN f b (8 * r + u) < 2)) 8 = true) : by8 (fun u => tb f (8 * r + u)) 8 + by8 (fun u => tb b (8 * r + u)) 8 = 255 := by
  rw [by8_cong (p := fun u => tb b (8 * r + u)) (q := fun u => !tb f (8 * r + u)) (fun c hc => al_sd h c hc)]
  exact by8_not _
theorem se_2 {f b : Int64} {r : Nat} (h : allB (fun u => decide (kdN f b (8 * r + u) < 2)) 8 = true) : by8 (fun u => tb f (8 * r + (7 - u))) 8 + by8 (fun u => tb b (8 * r + (7 - u))) 8 = 255 := by
  rw [by8_cong (p := fun u => tb b (8 * r + (7 - u))) (q := fun u => !tb f (8 * r + (7 - u))) (fun c hc => al_sd h (7 - c) (by omega))]
  exact by8_not _
set_option maxHeartbeats 4000000 in
set_option maxRecDepth 100000 in
theorem h_isSeen (l : Launch) (D : va_G) (cy : Nat → ClassId) (ad : Nat → Nat) (tv : Nat) (cs : Nat → Cd) (hs : List (Nat → Cd)) (k : Nat) (r : Nat) (hk : k < 3) (hr : r < 8) (hv : Vk cs) : GL l D cy ad tv yL_isSeen cL_isSeen 16 (some .boolean) 7 [.ref (ad 0), .int (nI k), .int (nI r)] cs hs (.int 1) cs (hs.take 2) := by
  refine l_intro (by decide +kernel) (lv := [(0, .ref (ad 0)), (1, .int (nI k)), (2, .int (nI r))]) rfl (Nat.le_of_ble_eq_true rfl) ?_
  intro p e s m below meth c A C0 G ls hl
  have hx := C0.1
  have hb := C0.2.1
  have hown := C0.2.2.2.2.2.1
  have hts := C0.2.2.2.2.2.2.1
  have hvk := hv k hk
  have hb1 := by8_lt (fun u9 => tb (cs k).1 (8 * r + u9))
  have hb2 := by8_lt (fun u9 => tb (cs k).2.1 (8 * r + u9))
  have hb3 := by8_lt (fun u9 => tb (cs k).1 (8 * r + (7 - u9)))
  have hb4 := by8_lt (fun u9 => tb (cs k).2.1 (8 * r + (7 - u9)))
  refine lv_iconst (v := 1) hx hb dL_isSeen_0 (by decide) ?_
  refine lv_istore_n (lv' := [(3, .int 1), (0, .ref (ad 0)), (1, .int (nI k)), (2, .int (nI r))]) hx hb dL_isSeen_1 rfl hl (by decide) rfl (fun ls hl => ?_)
  refine lv_iconst (v := 0) hx hb dL_isSeen_2 (by decide) ?_
  refine lv_istore (lv' := [(4, .int 0), (3, .int 1), (0, .ref (ad 0)), (1, .int (nI k)), (2, .int (nI r))]) hx hb dL_isSeen_3 hl (by decide) rfl (fun ls hl => ?_)
  have hl := lv_sub hl (l' := [(0, .ref (ad 0)), (1, .int (nI k)), (2, .int (nI r)), (3, .int 1), (4, .int 0)]) [2, 3, 4, 1, 0] rfl
  refine l_loop (σ := Nat) (fun i => 8 - i) (fun i => [(0, .ref (ad 0)), (1, .int (nI k)), (2, .int (nI r)), (3, .int (bI (allB (fun u9 => decide (kdN (cs k).1 (cs k).2.1 (8 * r + u9) < 2)) i))), (4, .int (nI i))]) (fun i => i ≤ 8) ?_ 0 (by show _ ≤ _; omega) G hl
  intro i hi_5 ih_5 H locs ls G hl
  have hkd := kdN_lt (cs k).1 (cs k).2.1 (8 * r + i)
  have hl : lv_has ls 16 [(0, .ref (ad 0)), (1, .int (nI k)), (2, .int (nI r)), (3, .int (bI (allB (fun u9 => decide (kdN (cs k).1 (cs k).2.1 (8 * r + u9) < 2)) i))), (4, .int (nI i))] := hl
  refine lv_iload hx hb dL_isSeen_5 (lv_at hl 4 rfl) ?_
  refine lv_bipush (v := 8) hx hb dL_isSeen_7 (by decide) ?_
  refine lv_icmp_ge (tgt := 40) hx hb dL_isSeen_9 (by decide) (fun c_9 => ?_) (fun c_9 => ?_)
  · skip
    have c_9 : 8 ≤ i := (nI_leI (a := 8) (b := i) (by omega) (by omega)).mp c_9
    obtain rfl : i = 8 := by omega
    have hl : lv_has ls 16 [(0, .ref (ad 0)), (1, .int (nI k)), (2, .int (nI r)), (3, .int (bI (allB (fun u9 => decide (kdN (cs k).1 (cs k).2.1 (8 * r + u9) < 2)) 8))), (4, .int (nI 8))] := hl
    refine lv_aload_n hx hb dL_isSeen_40 rfl (lv_at hl 0 rfl) ?_
    refine lv_iload_n hx hb dL_isSeen_41 rfl (lv_at hl 1 rfl) ?_
    refine l_callV (As := [.int (nI k)]) (rest := []) (cs' := cs) (hs' := hs) (r := .int (nI ((cs k).2.2))) C0 G (l_view l D cy ad tv cs (hs) k (by omega)) k_X4_view ml_L_19 dL_isSeen_42 rfl rfl hl.1 (Nat.le_of_ble_eq_true rfl) ⟨Nat.le_of_ble_eq_true rfl, Nat.le_of_ble_eq_true rfl⟩ ⟨Nat.le_of_ble_eq_true rfl, Nat.le_of_ble_eq_true rfl⟩ (fun H locs G => ?_)
    refine lv_istore (lv' := [(4, .int (nI ((cs k).2.2))), (0, .ref (ad 0)), (1, .int (nI k)), (2, .int (nI r)), (3, .int (bI (allB (fun u9 => decide (kdN (cs k).1 (cs k).2.1 (8 * r + u9) < 2)) 8)))]) hx hb dL_isSeen_45 hl (by decide) rfl (fun ls hl => ?_)
    refine lv_aload_n hx hb dL_isSeen_47 rfl (lv_at hl 1 rfl) ?_
    refine l_callV (As := []) (rest := []) (cs' := cs) (hs' := hs) (r := .long (dgC cs)) C0 G (l_digest l D cy ad tv cs (hs) hv) k_X4_digest ml_L_104 dL_isSeen_48 rfl rfl hl.1 (Nat.le_of_ble_eq_true rfl) ⟨Nat.le_of_ble_eq_true rfl, Nat.le_of_ble_eq_true rfl⟩ ⟨Nat.le_of_ble_eq_true rfl, Nat.le_of_ble_eq_true rfl⟩ (fun H locs G => ?_)
    refine lv_lstore (lv' := [(5, .long (dgC cs)), (4, .int (nI ((cs k).2.2))), (0, .ref (ad 0)), (1, .int (nI k)), (2, .int (nI r)), (3, .int (bI (allB (fun u9 => decide (kdN (cs k).1 (cs k).2.1 (8 * r + u9) < 2)) 8)))]) hx hb dL_isSeen_51 hl (by decide) rfl (fun ls hl => ?_)
    refine lv_aload_n hx hb dL_isSeen_53 rfl (lv_at hl 2 rfl) ?_
    refine lv_iload_n hx hb dL_isSeen_54 rfl (lv_at hl 3 rfl) ?_
    refine lv_iconst (v := 0) hx hb dL_isSeen_55 (by decide) ?_
    refine l_callV (As := [.int (nI k), .int 0]) (rest := []) (cs' := va_up cs k ((cs k).1, (cs k).2.1, 0)) (hs' := ps cs (hs)) (r := .int (nI ((cs k).2.2))) C0 G (l_turn l D cy ad tv cs (hs) k 0 (by omega) (by omega)) k_X4_turn ml_L_54 dL_isSeen_56 rfl rfl hl.1 (Nat.le_of_ble_eq_true rfl) ⟨Nat.le_of_ble_eq_true rfl, Nat.le_of_ble_eq_true rfl⟩ ⟨Nat.le_of_ble_eq_true rfl, Nat.le_of_ble_eq_true rfl⟩ (fun H locs G => ?_)
    obtain ⟨c1, hc1⟩ : ∃ z : Nat → Cd, z = va_up cs k ((cs k).1, (cs k).2.1, 0) := ⟨_, rfl⟩
    have G : gL D cy ad tv c1 (ps cs (hs)) A s _ _ := l_eq hc1.symm rfl G
    have ec1 : c1 k = ((cs k).1, (cs k).2.1, 0) := by rw [hc1]; exact va_up_e _ _ _
    refine lv_istore (lv' := [(7, .int (nI ((cs k).2.2))), (5, .long (dgC cs)), (4, .int (nI ((cs k).2.2))), (0, .ref (ad 0)), (1, .int (nI k)), (2, .int (nI r)), (3, .int (bI (allB (fun u9 => decide (kdN (cs k).1 (cs k).2.1 (8 * r + u9) < 2)) 8)))]) hx hb dL_isSeen_59 hl (by decide) rfl (fun ls hl => ?_)
    refine lv_aload_n hx hb dL_isSeen_61 rfl (lv_at hl 3 rfl) ?_
    refine lv_iload_n hx hb dL_isSeen_62 rfl (lv_at hl 4 rfl) ?_
    refine lv_iload_n hx hb dL_isSeen_63 rfl (lv_at hl 5 rfl) ?_
    refine l_callV (As := [.int (nI k), .int (nI r)]) (rest := []) (cs' := c1) (hs' := ps cs (hs)) (r := .int (nI (rwN (c1 k).1 (c1 k).2.1 (c1 k).2.2 r 8))) C0 G (l_raw l D cy ad tv c1 (ps cs (hs)) k r (by omega) (by omega) (by rw [ec1]; exact (by decide : (0 : Nat) < 4))) k_X4_raw ml_L_72 dL_isSeen_64 rfl rfl hl.1 (Nat.le_of_ble_eq_true rfl) ⟨Nat.le_of_ble_eq_true rfl, Nat.le_of_ble_eq_true rfl⟩ ⟨Nat.le_of_ble_eq_true rfl, Nat.le_of_ble_eq_true rfl⟩ (fun H locs G => ?_)
    refine g_topi (x' := nI (by8 (fun u9 => tb (cs k).1 (8 * r + u9)) 8)) (congrArg nI (by rw [ec1]; exact rw_0)) ?_
    refine lv_istore (lv' := [(8, .int (nI (by8 (fun u9 => tb (cs k).1 (8 * r + u9)) 8))), (7, .int (nI ((cs k).2.2))), (5, .long (dgC cs)), (4, .int (nI ((cs k).2.2))), (0, .ref (ad 0)), (1, .int (nI k)), (2, .int (nI r)), (3, .int (bI (allB (fun u9 => decide (kdN (cs k).1 (cs k).2.1 (8 * r + u9) < 2)) 8)))]) hx hb dL_isSeen_67 hl (by decide) rfl (fun ls hl => ?_)
    refine lv_aload_n hx hb dL_isSeen_69 rfl (lv_at hl 4 rfl) ?_
    refine lv_iload_n hx hb dL_isSeen_70 rfl (lv_at hl 5 rfl) ?_
    refine lv_iconst (v := 2) hx hb dL_isSeen_71 (by decide) ?_
    refine l_callV (As := [.int (nI k), .int 2]) (rest := []) (cs' := va_up c1 k ((c1 k).1, (c1 k).2.1, 2)) (hs' := ps c1 (ps cs (hs))) (r := .int (nI ((c1 k).2.2))) C0 G (l_turn l D cy ad tv c1 (ps cs (hs)) k 2 (by omega) (by omega)) k_X4_turn ml_L_54 dL_isSeen_72 rfl rfl hl.1 (Nat.le_of_ble_eq_true rfl) ⟨Nat.le_of_ble_eq_true rfl, Nat.le_of_ble_eq_true rfl⟩ ⟨Nat.le_of_ble_eq_true rfl, Nat.le_of_ble_eq_true rfl⟩ (fun H locs G => ?_)
    obtain ⟨c2, hc2⟩ : ∃ z : Nat → Cd, z = va_up c1 k ((c1 k).1, (c1 k).2.1, 2) := ⟨_, rfl⟩
    have G : gL D cy ad tv c2 (ps c1 (ps cs (hs))) A s _ _ := l_eq hc2.symm rfl G
    have ec2 : c2 k = ((c1 k).1, (c1 k).2.1, 2) := by rw [hc2]; exact va_up_e _ _ _
    simp only [ec1] at ec2
    refine g_topi (x' := 0) (by rw [ec1]; rfl) ?_
    refine lv_istore (lv' := [(9, .int 0), (8, .int (nI (by8 (fun u9 => tb (cs k).1 (8 * r + u9)) 8))), (7, .int (nI ((cs k).2.2))), (5, .long (dgC cs)), (4, .int (nI ((cs k).2.2))), (0, .ref (ad 0)), (1, .int (nI k)), (2, .int (nI r)), (3, .int (bI (allB (fun u9 => decide (kdN (cs k).1 (cs k).2.1 (8 * r + u9) < 2)) 8)))]) hx hb dL_isSeen_75 hl (by decide) rfl (fun ls hl => ?_)
    refine lv_aload_n hx hb dL_isSeen_77 rfl (lv_at hl 5 rfl) ?_
    refine lv_iload_n hx hb dL_isSeen_78 rfl (lv_at hl 6 rfl) ?_
    refine lv_iload_n hx hb dL_isSeen_79 rfl (lv_at hl 7 rfl) ?_
    refine l_callV (As := [.int (nI k), .int (nI r)]) (rest := []) (cs' := c2) (hs' := ps c1 (ps cs (hs))) (r := .int (nI (rwN (c2 k).1 (c2 k).2.1 (c2 k).2.2 r 8))) C0 G (l_raw l D cy ad tv c2 (ps c1 (ps cs (hs))) k r (by omega) (by omega) (by rw [ec2]; exact (by decide : (2 : Nat) < 4))) k_X4_raw ml_L_72 dL_isSeen_80 rfl rfl hl.1 (Nat.le_of_ble_eq_true rfl) ⟨Nat.le_of_ble_eq_true rfl, Nat.le_of_ble_eq_true rfl⟩ ⟨Nat.le_of_ble_eq_true rfl, Nat.le_of_ble_eq_true rfl⟩ (fun H locs G => ?_)
    refine g_topi (x' := nI (by8 (fun u9 => tb (cs k).2.1 (8 * r + (7 - u9))) 8)) (congrArg nI (by rw [ec2]; exact rw_2)) ?_
    refine lv_istore (lv' := [(10, .int (nI (by8 (fun u9 => tb (cs k).2.1 (8 * r + (7 - u9))) 8))), (9, .int 0), (8, .int (nI (by8 (fun u9 => tb (cs k).1 (8 * r + u9)) 8))), (7, .int (nI ((cs k).2.2))), (5, .long (dgC cs)), (4, .int (nI ((cs k).2.2))), (0, .ref (ad 0)), (1, .int (nI k)), (2, .int (nI r)), (3, .int (bI (allB (fun u9 => decide (kdN (cs k).1 (cs k).2.1 (8 * r + u9) < 2)) 8)))]) hx hb dL_isSeen_83 hl (by decide) rfl (fun ls hl => ?_)
    refine lv_aload_n hx hb dL_isSeen_85 rfl (lv_at hl 6 rfl) ?_
    refine lv_iload_n hx hb dL_isSeen_86 rfl (lv_at hl 7 rfl) ?_
    refine lv_iconst (v := 1) hx hb dL_isSeen_87 (by decide) ?_
    refine l_callV (As := [.int (nI k), .int 1]) (rest := []) (cs' := va_up c2 k ((c2 k).1, (c2 k).2.1, 1)) (hs' := ps c2 (ps c1 (ps cs (hs)))) (r := .int (nI ((c2 k).2.2))) C0 G (l_turn l D cy ad tv c2 (ps c1 (ps cs (hs))) k 1 (by omega) (by omega)) k_X4_turn ml_L_54 dL_isSeen_88 rfl rfl hl.1 (Nat.le_of_ble_eq_true rfl) ⟨Nat.le_of_ble_eq_true rfl, Nat.le_of_ble_eq_true rfl⟩ ⟨Nat.le_of_ble_eq_true rfl, Nat.le_of_ble_eq_true rfl⟩ (fun H locs G => ?_)
    obtain ⟨c3, hc3⟩ : ∃ z : Nat → Cd, z = va_up c2 k ((c2 k).1, (c2 k).2.1, 1) := ⟨_, rfl⟩
    have G : gL D cy ad tv c3 (ps c2 (ps c1 (ps cs (hs)))) A s _ _ := l_eq hc3.symm rfl G
    have ec3 : c3 k = ((c2 k).1, (c2 k).2.1, 1) := by rw [hc3]; exact va_up_e _ _ _
    simp only [ec2] at ec3
    refine g_topi (x' := 2) (by rw [ec2]; rfl) ?_
    refine lv_istore (lv' := [(11, .int 2), (10, .int (nI (by8 (fun u9 => tb (cs k).2.1 (8 * r + (7 - u9))) 8))), (9, .int 0), (8, .int (nI (by8 (fun u9 => tb (cs k).1 (8 * r + u9)) 8))), (7, .int (nI ((cs k).2.2))), (5, .long (dgC cs)), (4, .int (nI ((cs k).2.2))), (0, .ref (ad 0)), (1, .int (nI k)), (2, .int (nI r)), (3, .int (bI (allB (fun u9 => decide (kdN (cs k).1 (cs k).2.1 (8 * r + u9) < 2)) 8)))]) hx hb dL_isSeen_91 hl (by decide) rfl (fun ls hl => ?_)
    refine lv_aload_n hx hb dL_isSeen_93 rfl (lv_at hl 7 rfl) ?_
    refine lv_iload_n hx hb dL_isSeen_94 rfl (lv_at hl 8 rfl) ?_
    refine lv_bipush (v := 7) hx hb dL_isSeen_95 (by decide) ?_
    refine lv_iload_n hx hb dL_isSeen_97 rfl (lv_at hl 9 rfl) ?_
    refine lv_isub hx hb dL_isSeen_98 ?_
    refine g_topi (x' := nI (7 - r)) (pk_sub (a := 7) (b := r) (by omega)) ?_
    refine l_callV (As := [.int (nI k), .int (nI (7 - r))]) (rest := []) (cs' := c3) (hs' := ps c2 (ps c1 (ps cs (hs)))) (r := .int (nI (rwN (c3 k).1 (c3 k).2.1 (c3 k).2.2 (7 - r) 8))) C0 G (l_raw l D cy ad tv c3 (ps c2 (ps c1 (ps cs (hs)))) k (7 - r) (by omega) (by omega) (by rw [ec3]; exact (by decide : (1 : Nat) < 4))) k_X4_raw ml_L_72 dL_isSeen_99 rfl rfl hl.1 (Nat.le_of_ble_eq_true rfl) ⟨Nat.le_of_ble_eq_true rfl, Nat.le_of_ble_eq_true rfl⟩ ⟨Nat.le_of_ble_eq_true rfl, Nat.le_of_ble_eq_true rfl⟩ (fun H locs G => ?_)
    refine g_topi (x' := nI (by8 (fun u9 => tb (cs k).1 (8 * r + (7 - u9))) 8)) (congrArg nI (by rw [ec3]; exact rw_1 hr)) ?_
    refine lv_istore (lv' := [(12, .int (nI (by8 (fun u9 => tb (cs k).1 (8 * r + (7 - u9))) 8))), (11, .int 2), (10, .int (nI (by8 (fun u9 => tb (cs k).2.1 (8 * r + (7 - u9))) 8))), (9, .int 0), (8, .int (nI (by8 (fun u9 => tb (cs k).1 (8 * r + u9)) 8))), (7, .int (nI ((cs k).2.2))), (5, .long (dgC cs)), (4, .int (nI ((cs k).2.2))), (0, .ref (ad 0)), (1, .int (nI k)), (2, .int (nI r)), (3, .int (bI (allB (fun u9 => decide (kdN (cs k).1 (cs k).2.1 (8 * r + u9) < 2)) 8)))]) hx hb dL_isSeen_102 hl (by decide) rfl (fun ls hl => ?_)
    refine lv_aload_n hx hb dL_isSeen_104 rfl (lv_at hl 8 rfl) ?_
    refine lv_iload_n hx hb dL_isSeen_105 rfl (lv_at hl 9 rfl) ?_
    refine lv_iconst (v := 3) hx hb dL_isSeen_106 (by decide) ?_
    refine l_callV (As := [.int (nI k), .int 3]) (rest := []) (cs' := va_up c3 k ((c3 k).1, (c3 k).2.1, 3)) (hs' := ps c3 (ps c2 (ps c1 (ps cs (hs))))) (r := .int (nI ((c3 k).2.2))) C0 G (l_turn l D cy ad tv c3 (ps c2 (ps c1 (ps cs (hs)))) k 3 (by omega) (by omega)) k_X4_turn ml_L_54 dL_isSeen_107 rfl rfl hl.1 (Nat.le_of_ble_eq_true rfl) ⟨Nat.le_of_ble_eq_true rfl, Nat.le_of_ble_eq_true rfl⟩ ⟨Nat.le_of_ble_eq_true rfl, Nat.le_of_ble_eq_true rfl⟩ (fun H locs G => ?_)
    obtain ⟨c4, hc4⟩ : ∃ z : Nat → Cd, z = va_up c3 k ((c3 k).1, (c3 k).2.1, 3) := ⟨_, rfl⟩
    have G : gL D cy ad tv c4 (ps c3 (ps c2 (ps c1 (ps cs (hs))))) A s _ _ := l_eq hc4.symm rfl G
    have ec4 : c4 k = ((c3 k).1, (c3 k).2.1, 3) := by rw [hc4]; exact va_up_e _ _ _
    simp only [ec3] at ec4
    refine g_topi (x' := 1) (by rw [ec3]; rfl) ?_
    refine lv_istore (lv' := [(13, .int 1), (12, .int (nI (by8 (fun u9 => tb (cs k).1 (8 * r + (7 - u9))) 8))), (11, .int 2), (10, .int (nI (by8 (fun u9 => tb (cs k).2.1 (8 * r + (7 - u9))) 8))), (9, .int 0), (8, .int (nI (by8 (fun u9 => tb (cs k).1 (8 * r + u9)) 8))), (7, .int (nI ((cs k).2.2))), (5, .long (dgC cs)), (4, .int (nI ((cs k).2.2))), (0, .ref (ad 0)), (1, .int (nI k)), (2, .int (nI r)), (3, .int (bI (allB (fun u9 => decide (kdN (cs k).1 (cs k).2.1 (8 * r + u9) < 2)) 8)))]) hx hb dL_isSeen_110 hl (by decide) rfl (fun ls hl => ?_)
    refine lv_aload_n hx hb dL_isSeen_112 rfl (lv_at hl 9 rfl) ?_
    refine lv_iload_n hx hb dL_isSeen_113 rfl (lv_at hl 10 rfl) ?_
    refine lv_bipush (v := 7) hx hb dL_isSeen_114 (by decide) ?_
    refine lv_iload_n hx hb dL_isSeen_116 rfl (lv_at hl 11 rfl) ?_
    refine lv_isub hx hb dL_isSeen_117 ?_
    refine g_topi (x' := nI (7 - r)) (pk_sub (a := 7) (b := r) (by omega)) ?_
    refine l_callV (As := [.int (nI k), .int (nI (7 - r))]) (rest := []) (cs' := c4) (hs' := ps c3 (ps c2 (ps c1 (ps cs (hs))))) (r := .int (nI (rwN (c4 k).1 (c4 k).2.1 (c4 k).2.2 (7 - r) 8))) C0 G (l_raw l D cy ad tv c4 (ps c3 (ps c2 (ps c1 (ps cs (hs))))) k (7 - r) (by omega) (by omega) (by rw [ec4]; exact (by decide : (3 : Nat) < 4))) k_X4_raw ml_L_72 dL_isSeen_118 rfl rfl hl.1 (Nat.le_of_ble_eq_true rfl) ⟨Nat.le_of_ble_eq_true rfl, Nat.le_of_ble_eq_true rfl⟩ ⟨Nat.le_of_ble_eq_true rfl, Nat.le_of_ble_eq_true rfl⟩ (fun H locs G => ?_)
    refine g_topi (x' := nI (by8 (fun u9 => tb (cs k).2.1 (8 * r + u9)) 8)) (congrArg nI (by rw [ec4]; exact rw_3 hr)) ?_
    refine lv_istore (lv' := [(14, .int (nI (by8 (fun u9 => tb (cs k).2.1 (8 * r + u9)) 8))), (13, .int 1), (12, .int (nI (by8 (fun u9 => tb (cs k).1 (8 * r + (7 - u9))) 8))), (11, .int 2), (10, .int (nI (by8 (fun u9 => tb (cs k).2.1 (8 * r + (7 - u9))) 8))), (9, .int 0), (8, .int (nI (by8 (fun u9 => tb (cs k).1 (8 * r + u9)) 8))), (7, .int (nI ((cs k).2.2))), (5, .long (dgC cs)), (4, .int (nI ((cs k).2.2))), (0, .ref (ad 0)), (1, .int (nI k)), (2, .int (nI r)), (3, .int (bI (allB (fun u9 => decide (kdN (cs k).1 (cs k).2.1 (8 * r + u9) < 2)) 8)))]) hx hb dL_isSeen_121 hl (by decide) rfl (fun ls hl => ?_)
    refine lv_iload hx hb dL_isSeen_123 (lv_at hl 7 rfl) ?_
    refine lv_iload hx hb dL_isSeen_125 (lv_at hl 9 rfl) ?_
    refine lv_icmp_ne (tgt := 193) hx hb dL_isSeen_127 (by decide) (fun c_127 => ?_) (fun c_127 => ?_)
    · skip
      have c_127 : ¬ (((cs k).2.2) = ((cs k).2.2)) := fun h => c_127 ((nI_eq (a := (cs k).2.2) (b := (cs k).2.2) (by omega) (by omega)).mpr h)
      exact absurd rfl c_127
    · skip
      have c_127 : ((cs k).2.2) = ((cs k).2.2) := (nI_eq (a := (cs k).2.2) (b := (cs k).2.2) (by omega) (by omega)).mp c_127
      refine lv_iload hx hb dL_isSeen_130 (lv_at hl 5 rfl) ?_
      refine lv_if_ne (tgt := 193) hx hb dL_isSeen_132 (by decide) (fun c_132 => ?_) (fun c_132 => ?_)
      · exact absurd c_132 (by decide)
      · skip
        refine lv_iload hx hb dL_isSeen_135 (lv_at hl 3 rfl) ?_
        refine lv_iconst (v := 2) hx hb dL_isSeen_137 (by decide) ?_
        refine lv_icmp_ne (tgt := 193) hx hb dL_isSeen_138 (by decide) (fun c_138 => ?_) (fun c_138 => ?_)
        · exact absurd c_138 (by decide)
        · skip
          refine lv_iload hx hb dL_isSeen_141 (lv_at hl 1 rfl) ?_
          refine lv_iconst (v := 1) hx hb dL_isSeen_143 (by decide) ?_
          refine lv_icmp_ne (tgt := 193) hx hb dL_isSeen_144 (by decide) (fun c_144 => ?_) (fun c_144 => ?_)
          · exact absurd c_144 (by decide)
          · skip
            refine lv_iload_n hx hb dL_isSeen_147 rfl (lv_at hl 13 rfl) ?_
            refine lv_if_eq (tgt := 179) hx hb dL_isSeen_148 (by decide) (fun c_148 => ?_) (fun c_148 => ?_)
            · skip
              have c_148 : (allB (fun u9 => decide (kdN (cs k).1 (cs k).2.1 (8 * r + u9) < 2)) 8) = false := bI_f c_148
              refine lv_iload hx hb dL_isSeen_179 (lv_at hl 2 rfl) ?_
              refine lv_iload hx hb dL_isSeen_181 (lv_at hl 6 rfl) ?_
              refine l_callS (As := [.int (nI (by8 (fun u9 => tb (cs k).1 (8 * r + u9)) 8))]) (rest := [.int (nI (by8 (fun u9 => tb (cs k).1 (8 * r + (7 - u9))) 8))]) (cs' := c4) (hs' := ps c3 (ps c2 (ps c1 (ps cs (hs))))) (r := .int (nI (rvR (by8 (fun u9 => tb (cs k).1 (8 * r + u9)) 8) 8))) C0 G (GL.pure (fun W1 => c_L_reversed l D cy W1 (by8 (fun u9 => tb (cs k).1 (8 * r + u9)) 8) (by8_lt _))) k_L_reversed ml_L_108 dL_isSeen_183 rfl rfl hl.1 (Nat.le_of_ble_eq_true rfl) ⟨Nat.le_of_ble_eq_true rfl, Nat.le_of_ble_eq_true rfl⟩ ⟨Nat.le_of_ble_eq_true rfl, Nat.le_of_ble_eq_true rfl⟩ (fun H locs G => ?_)
              refine g_topi (x' := nI (by8 (fun u9 => tb (cs k).1 (8 * r + (7 - u9))) 8)) (congrArg nI (rv_rev (fun u9 => tb (cs k).1 (8 * r + u9)))) ?_
              refine lv_icmp_ne (tgt := 193) hx hb dL_isSeen_186 (by decide) (fun c_186 => ?_) (fun c_186 => ?_)
              · skip
                have c_186 : ¬ ((by8 (fun u9 => tb (cs k).1 (8 * r + (7 - u9))) 8) = (by8 (fun u9 => tb (cs k).1 (8 * r + (7 - u9))) 8)) := fun h => c_186 ((nI_eq (a := by8 (fun u9 => tb (cs k).1 (8 * r + (7 - u9))) 8) (b := by8 (fun u9 => tb (cs k).1 (8 * r + (7 - u9))) 8) (by omega) (by omega)).mpr h)
                exact absurd rfl c_186
              · skip
                have c_186 : (by8 (fun u9 => tb (cs k).1 (8 * r + (7 - u9))) 8) = (by8 (fun u9 => tb (cs k).1 (8 * r + (7 - u9))) 8) := (nI_eq (a := by8 (fun u9 => tb (cs k).1 (8 * r + (7 - u9))) 8) (b := by8 (fun u9 => tb (cs k).1 (8 * r + (7 - u9))) 8) (by omega) (by omega)).mp c_186
                refine lv_iconst (v := 1) hx hb dL_isSeen_189 (by decide) ?_
                refine lv_goto (tgt := 194) hx hb dL_isSeen_190 (by decide) ?_
                refine lv_istore (lv' := [(15, .int 1), (14, .int (nI (by8 (fun u9 => tb (cs k).2.1 (8 * r + u9)) 8))), (13, .int 1), (12, .int (nI (by8 (fun u9 => tb (cs k).1 (8 * r + (7 - u9))) 8))), (11, .int 2), (10, .int (nI (by8 (fun u9 => tb (cs k).2.1 (8 * r + (7 - u9))) 8))), (9, .int 0), (8, .int (nI (by8 (fun u9 => tb (cs k).1 (8 * r + u9)) 8))), (7, .int (nI ((cs k).2.2))), (5, .long (dgC cs)), (4, .int (nI ((cs k).2.2))), (0, .ref (ad 0)), (1, .int (nI k)), (2, .int (nI r)), (3, .int (bI (allB (fun u9 => decide (kdN (cs k).1 (cs k).2.1 (8 * r + u9) < 2)) 8)))]) hx hb dL_isSeen_194 hl (by decide) rfl (fun ls hl => ?_)
                refine lv_iload hx hb dL_isSeen_196 (lv_at hl 0 rfl) ?_
                refine lv_if_eq (tgt := 243) hx hb dL_isSeen_198 (by decide) (fun c_198 => ?_) (fun c_198 => ?_)
                · exact absurd c_198 (by decide)
                · skip
                  have hlt : (hs.take 2).length ≤ 2 := by rw [List.length_take]; omega
                  have G : gL D cy ad tv c4 (c3 :: c2 :: c1 :: cs :: hs.take 2) A s _ _ := l_eq rfl (ps_4 cs c1 c2 c3 hs) G
                  refine lv_aload_n hx hb dL_isSeen_201 rfl (lv_at hl 11 rfl) ?_
                  refine l_callV (As := []) (rest := []) (cs' := c3) (hs' := c2 :: c1 :: cs :: hs.take 2) (r := .int (nI ((c2 :: c1 :: cs :: hs.take 2).length))) C0 G (l_undo l D cy ad tv c4 (c2 :: c1 :: cs :: hs.take 2) c3) k_X4_undo ml_L_111 dL_isSeen_202 rfl rfl hl.1 (Nat.le_of_ble_eq_true rfl) ⟨Nat.le_of_ble_eq_true rfl, Nat.le_of_ble_eq_true rfl⟩ ⟨Nat.le_of_ble_eq_true rfl, Nat.le_of_ble_eq_true rfl⟩ (fun H locs G => ?_)
                  refine g_topi (x' := nI ((hs.take 2).length + 3)) rfl ?_
                  refine lv_if_lt (tgt := 243) hx hb dL_isSeen_205 (by decide) (fun c_205 => ?_) (fun c_205 => ?_)
                  · skip
                    have c_205 : ((hs.take 2).length + 3) < 0 := (nI_ltI (a := (hs.take 2).length + 3) (b := 0) (by omega) (by omega)).mp c_205
                    exact absurd c_205 (by omega)
                  · skip
                    have c_205 : ¬ (((hs.take 2).length + 3) < 0) := fun h => c_205 ((nI_ltI (a := (hs.take 2).length + 3) (b := 0) (by omega) (by omega)).mpr h)
                    refine lv_aload_n hx hb dL_isSeen_208 rfl (lv_at hl 11 rfl) ?_
                    refine l_callV (As := []) (rest := []) (cs' := c2) (hs' := c1 :: cs :: hs.take 2) (r := .int (nI ((c1 :: cs :: hs.take 2).length))) C0 G (l_undo l D cy ad tv c3 (c1 :: cs :: hs.take 2) c2) k_X4_undo ml_L_111 dL_isSeen_209 rfl rfl hl.1 (Nat.le_of_ble_eq_true rfl) ⟨Nat.le_of_ble_eq_true rfl, Nat.le_of_ble_eq_true rfl⟩ ⟨Nat.le_of_ble_eq_true rfl, Nat.le_of_ble_eq_true rfl⟩ (fun H locs G => ?_)
                    refine g_topi (x' := nI ((hs.take 2).length + 2)) rfl ?_
                    refine lv_if_lt (tgt := 243) hx hb dL_isSeen_212 (by decide) (fun c_212 => ?_) (fun c_212 => ?_)
                    · skip
                      have c_212 : ((hs.take 2).length + 2) < 0 := (nI_ltI (a := (hs.take 2).length + 2) (b := 0) (by omega) (by omega)).mp c_212
                      exact absurd c_212 (by omega)
                    · skip
                      have c_212 : ¬ (((hs.take 2).length + 2) < 0) := fun h => c_212 ((nI_ltI (a := (hs.take 2).length + 2) (b := 0) (by omega) (by omega)).mpr h)
                      refine lv_aload_n hx hb dL_isSeen_215 rfl (lv_at hl 11 rfl) ?_
                      refine l_callV (As := []) (rest := []) (cs' := c1) (hs' := cs :: hs.take 2) (r := .int (nI ((cs :: hs.take 2).length))) C0 G (l_undo l D cy ad tv c2 (cs :: hs.take 2) c1) k_X4_undo ml_L_111 dL_isSeen_216 rfl rfl hl.1 (Nat.le_of_ble_eq_true rfl) ⟨Nat.le_of_ble_eq_true rfl, Nat.le_of_ble_eq_true rfl⟩ ⟨Nat.le_of_ble_eq_true rfl, Nat.le_of_ble_eq_true rfl⟩ (fun H locs G => ?_)
                      refine g_topi (x' := nI ((hs.take 2).length + 1)) rfl ?_
                      refine lv_if_lt (tgt := 243) hx hb dL_isSeen_219 (by decide) (fun c_219 => ?_) (fun c_219 => ?_)
                      · skip
                        have c_219 : ((hs.take 2).length + 1) < 0 := (nI_ltI (a := (hs.take 2).length + 1) (b := 0) (by omega) (by omega)).mp c_219
                        exact absurd c_219 (by omega)
                      · skip
                        have c_219 : ¬ (((hs.take 2).length + 1) < 0) := fun h => c_219 ((nI_ltI (a := (hs.take 2).length + 1) (b := 0) (by omega) (by omega)).mpr h)
                        refine lv_aload_n hx hb dL_isSeen_222 rfl (lv_at hl 11 rfl) ?_
                        refine l_callV (As := []) (rest := []) (cs' := cs) (hs' := hs.take 2) (r := .int (nI ((hs.take 2).length))) C0 G (l_undo l D cy ad tv c1 (hs.take 2) cs) k_X4_undo ml_L_111 dL_isSeen_223 rfl rfl hl.1 (Nat.le_of_ble_eq_true rfl) ⟨Nat.le_of_ble_eq_true rfl, Nat.le_of_ble_eq_true rfl⟩ ⟨Nat.le_of_ble_eq_true rfl, Nat.le_of_ble_eq_true rfl⟩ (fun H locs G => ?_)
                        refine lv_if_lt (tgt := 243) hx hb dL_isSeen_226 (by decide) (fun c_226 => ?_) (fun c_226 => ?_)
                        · skip
                          have c_226 : ((hs.take 2).length) < 0 := (nI_ltI (a := (hs.take 2).length) (b := 0) (by omega) (by omega)).mp c_226
                          exact absurd c_226 (by omega)
                        · skip
                          have c_226 : ¬ (((hs.take 2).length) < 0) := fun h => c_226 ((nI_ltI (a := (hs.take 2).length) (b := 0) (by omega) (by omega)).mpr h)
                          refine lv_aload_n hx hb dL_isSeen_229 rfl (lv_at hl 11 rfl) ?_
                          refine l_callV (As := []) (rest := []) (cs' := cs) (hs' := hs.take 2) (r := .long (dgC cs)) C0 G (l_digest l D cy ad tv cs (hs.take 2) hv) k_X4_digest ml_L_104 dL_isSeen_230 rfl rfl hl.1 (Nat.le_of_ble_eq_true rfl) ⟨Nat.le_of_ble_eq_true rfl, Nat.le_of_ble_eq_true rfl⟩ ⟨Nat.le_of_ble_eq_true rfl, Nat.le_of_ble_eq_true rfl⟩ (fun H locs G => ?_)
                          refine lv_lload hx hb dL_isSeen_233 (lv_at hl 9 rfl) ?_
                          refine W.lcmp hx hb dL_isSeen_235 ?_
                          refine lv_if_ne (tgt := 243) hx hb dL_isSeen_236 (by decide) (fun c_236 => ?_) (fun c_236 => ?_)
                          · skip
                            have c_236 : ¬ (dgC cs) = (dgC cs) := fun h => c_236 (lgc_eq.mpr h)
                            exact absurd rfl c_236
                          · skip
                            have c_236 : (dgC cs) = (dgC cs) := lgc_eq.mp c_236
                            refine lv_iconst (v := 1) hx hb dL_isSeen_239 (by decide) ?_
                            refine lv_goto (tgt := 244) hx hb dL_isSeen_240 (by decide) ?_
                            exact l_zret C0 G rfl dL_isSeen_244
            · skip
              have c_148 : (allB (fun u9 => decide (kdN (cs k).1 (cs k).2.1 (8 * r + u9) < 2)) 8) = true := bI_t c_148
              refine lv_iload hx hb dL_isSeen_151 (lv_at hl 6 rfl) ?_
              refine lv_iload hx hb dL_isSeen_153 (lv_at hl 4 rfl) ?_
              refine l_callS (As := [.int (nI (by8 (fun u9 => tb (cs k).2.1 (8 * r + (7 - u9))) 8))]) (rest := [.int (nI (by8 (fun u9 => tb (cs k).1 (8 * r + u9)) 8))]) (cs' := c4) (hs' := ps c3 (ps c2 (ps c1 (ps cs (hs))))) (r := .int (nI (rvR (by8 (fun u9 => tb (cs k).2.1 (8 * r + (7 - u9))) 8) 8))) C0 G (GL.pure (fun W1 => c_L_reversed l D cy W1 (by8 (fun u9 => tb (cs k).2.1 (8 * r + (7 - u9))) 8) (by8_lt _))) k_L_reversed ml_L_108 dL_isSeen_155 rfl rfl hl.1 (Nat.le_of_ble_eq_true rfl) ⟨Nat.le_of_ble_eq_true rfl, Nat.le_of_ble_eq_true rfl⟩ ⟨Nat.le_of_ble_eq_true rfl, Nat.le_of_ble_eq_true rfl⟩ (fun H locs G => ?_)
              refine g_topi (x' := nI (by8 (fun u9 => tb (cs k).2.1 (8 * r + u9)) 8)) (congrArg nI (rv_rev2 (fun u9 => tb (cs k).2.1 (8 * r + u9)))) ?_
              refine lv_iadd hx hb dL_isSeen_158 ?_
              refine g_topi (x' := nI ((by8 (fun u9 => tb (cs k).1 (8 * r + u9)) 8) + (by8 (fun u9 => tb (cs k).2.1 (8 * r + u9)) 8))) (nI_add (by8 (fun u9 => tb (cs k).1 (8 * r + u9)) 8) (by8 (fun u9 => tb (cs k).2.1 (8 * r + u9)) 8)) ?_
              refine lv_sipush (v := 255) hx hb dL_isSeen_159 (by decide) ?_
              refine lv_icmp_ne (tgt := 193) hx hb dL_isSeen_162 (by decide) (fun c_162 => ?_) (fun c_162 => ?_)
              · skip
                have c_162 : ¬ (((by8 (fun u9 => tb (cs k).1 (8 * r + u9)) 8) + (by8 (fun u9 => tb (cs k).2.1 (8 * r + u9)) 8)) = 255) := fun h => c_162 ((nI_eq (a := (by8 (fun u9 => tb (cs k).1 (8 * r + u9)) 8) + (by8 (fun u9 => tb (cs k).2.1 (8 * r + u9)) 8)) (b := 255) (by omega) (by omega)).mpr h)
                exact absurd (se_1 c_148) c_162
              · skip
                have c_162 : ((by8 (fun u9 => tb (cs k).1 (8 * r + u9)) 8) + (by8 (fun u9 => tb (cs k).2.1 (8 * r + u9)) 8)) = 255 := (nI_eq (a := (by8 (fun u9 => tb (cs k).1 (8 * r + u9)) 8) + (by8 (fun u9 => tb (cs k).2.1 (8 * r + u9)) 8)) (b := 255) (by omega) (by omega)).mp c_162
                refine lv_iload hx hb dL_isSeen_165 (lv_at hl 2 rfl) ?_
                refine lv_iload hx hb dL_isSeen_167 (lv_at hl 0 rfl) ?_
                refine l_callS (As := [.int (nI (by8 (fun u9 => tb (cs k).2.1 (8 * r + u9)) 8))]) (rest := [.int (nI (by8 (fun u9 => tb (cs k).1 (8 * r + (7 - u9))) 8))]) (cs' := c4) (hs' := ps c3 (ps c2 (ps c1 (ps cs (hs))))) (r := .int (nI (rvR (by8 (fun u9 => tb (cs k).2.1 (8 * r + u9)) 8) 8))) C0 G (GL.pure (fun W1 => c_L_reversed l D cy W1 (by8 (fun u9 => tb (cs k).2.1 (8 * r + u9)) 8) (by8_lt _))) k_L_reversed ml_L_108 dL_isSeen_169 rfl rfl hl.1 (Nat.le_of_ble_eq_true rfl) ⟨Nat.le_of_ble_eq_true rfl, Nat.le_of_ble_eq_true rfl⟩ ⟨Nat.le_of_ble_eq_true rfl, Nat.le_of_ble_eq_true rfl⟩ (fun H locs G => ?_)
                refine g_topi (x' := nI (by8 (fun u9 => tb (cs k).2.1 (8 * r + (7 - u9))) 8)) (congrArg nI (rv_rev (fun u9 => tb (cs k).2.1 (8 * r + u9)))) ?_
                refine lv_iadd hx hb dL_isSeen_172 ?_
                refine g_topi (x' := nI ((by8 (fun u9 => tb (cs k).1 (8 * r + (7 - u9))) 8) + (by8 (fun u9 => tb (cs k).2.1 (8 * r + (7 - u9))) 8))) (nI_add (by8 (fun u9 => tb (cs k).1 (8 * r + (7 - u9))) 8) (by8 (fun u9 => tb (cs k).2.1 (8 * r + (7 - u9))) 8)) ?_
                refine lv_sipush (v := 255) hx hb dL_isSeen_173 (by decide) ?_
                refine lv_icmp_ne (tgt := 193) hx hb dL_isSeen_176 (by decide) (fun c_176 => ?_) (fun c_176 => ?_)
                · skip
                  have c_176 : ¬ (((by8 (fun u9 => tb (cs k).1 (8 * r + (7 - u9))) 8) + (by8 (fun u9 => tb (cs k).2.1 (8 * r + (7 - u9))) 8)) = 255) := fun h => c_176 ((nI_eq (a := (by8 (fun u9 => tb (cs k).1 (8 * r + (7 - u9))) 8) + (by8 (fun u9 => tb (cs k).2.1 (8 * r + (7 - u9))) 8)) (b := 255) (by omega) (by omega)).mpr h)
                  exact absurd (se_2 c_148) c_176
                · skip
                  have c_176 : ((by8 (fun u9 => tb (cs k).1 (8 * r + (7 - u9))) 8) + (by8 (fun u9 => tb (cs k).2.1 (8 * r + (7 - u9))) 8)) = 255 := (nI_eq (a := (by8 (fun u9 => tb (cs k).1 (8 * r + (7 - u9))) 8) + (by8 (fun u9 => tb (cs k).2.1 (8 * r + (7 - u9))) 8)) (b := 255) (by omega) (by omega)).mp c_176
                  refine lv_iload hx hb dL_isSeen_179 (lv_at hl 2 rfl) ?_
                  refine lv_iload hx hb dL_isSeen_181 (lv_at hl 6 rfl) ?_
                  refine l_callS (As := [.int (nI (by8 (fun u9 => tb (cs k).1 (8 * r + u9)) 8))]) (rest := [.int (nI (by8 (fun u9 => tb (cs k).1 (8 * r + (7 - u9))) 8))]) (cs' := c4) (hs' := ps c3 (ps c2 (ps c1 (ps cs (hs))))) (r := .int (nI (rvR (by8 (fun u9 => tb (cs k).1 (8 * r + u9)) 8) 8))) C0 G (GL.pure (fun W1 => c_L_reversed l D cy W1 (by8 (fun u9 => tb (cs k).1 (8 * r + u9)) 8) (by8_lt _))) k_L_reversed ml_L_108 dL_isSeen_183 rfl rfl hl.1 (Nat.le_of_ble_eq_true rfl) ⟨Nat.le_of_ble_eq_true rfl, Nat.le_of_ble_eq_true rfl⟩ ⟨Nat.le_of_ble_eq_true rfl, Nat.le_of_ble_eq_true rfl⟩ (fun H locs G => ?_)
                  refine g_topi (x' := nI (by8 (fun u9 => tb (cs k).1 (8 * r + (7 - u9))) 8)) (congrArg nI (rv_rev (fun u9 => tb (cs k).1 (8 * r + u9)))) ?_
                  refine lv_icmp_ne (tgt := 193) hx hb dL_isSeen_186 (by decide) (fun c_186 => ?_) (fun c_186 => ?_)
                  · skip
                    have c_186 : ¬ ((by8 (fun u9 => tb (cs k).1 (8 * r + (7 - u9))) 8) = (by8 (fun u9 => tb (cs k).1 (8 * r + (7 - u9))) 8)) := fun h => c_186 ((nI_eq (a := by8 (fun u9 => tb (cs k).1 (8 * r + (7 - u9))) 8) (b := by8 (fun u9 => tb (cs k).1 (8 * r + (7 - u9))) 8) (by omega) (by omega)).mpr h)
                    exact absurd rfl c_186
                  · skip
                    have c_186 : (by8 (fun u9 => tb (cs k).1 (8 * r + (7 - u9))) 8) = (by8 (fun u9 => tb (cs k).1 (8 * r + (7 - u9))) 8) := (nI_eq (a := by8 (fun u9 => tb (cs k).1 (8 * r + (7 - u9))) 8) (b := by8 (fun u9 => tb (cs k).1 (8 * r + (7 - u9))) 8) (by omega) (by omega)).mp c_186
                    refine lv_iconst (v := 1) hx hb dL_isSeen_189 (by decide) ?_
                    refine lv_goto (tgt := 194) hx hb dL_isSeen_190 (by decide) ?_
                    refine lv_istore (lv' := [(15, .int 1), (14, .int (nI (by8 (fun u9 => tb (cs k).2.1 (8 * r + u9)) 8))), (13, .int 1), (12, .int (nI (by8 (fun u9 => tb (cs k).1 (8 * r + (7 - u9))) 8))), (11, .int 2), (10, .int (nI (by8 (fun u9 => tb (cs k).2.1 (8 * r + (7 - u9))) 8))), (9, .int 0), (8, .int (nI (by8 (fun u9 => tb (cs k).1 (8 * r + u9)) 8))), (7, .int (nI ((cs k).2.2))), (5, .long (dgC cs)), (4, .int (nI ((cs k).2.2))), (0, .ref (ad 0)), (1, .int (nI k)), (2, .int (nI r)), (3, .int (bI (allB (fun u9 => decide (kdN (cs k).1 (cs k).2.1 (8 * r + u9) < 2)) 8)))]) hx hb dL_isSeen_194 hl (by decide) rfl (fun ls hl => ?_)
                    refine lv_iload hx hb dL_isSeen_196 (lv_at hl 0 rfl) ?_
                    refine lv_if_eq (tgt := 243) hx hb dL_isSeen_198 (by decide) (fun c_198 => ?_) (fun c_198 => ?_)
                    · exact absurd c_198 (by decide)
                    · skip
                      have hlt : (hs.take 2).length ≤ 2 := by rw [List.length_take]; omega
                      have G : gL D cy ad tv c4 (c3 :: c2 :: c1 :: cs :: hs.take 2) A s _ _ := l_eq rfl (ps_4 cs c1 c2 c3 hs) G
                      refine lv_aload_n hx hb dL_isSeen_201 rfl (lv_at hl 11 rfl) ?_
                      refine l_callV (As := []) (rest := []) (cs' := c3) (hs' := c2 :: c1 :: cs :: hs.take 2) (r := .int (nI ((c2 :: c1 :: cs :: hs.take 2).length))) C0 G (l_undo l D cy ad tv c4 (c2 :: c1 :: cs :: hs.take 2) c3) k_X4_undo ml_L_111 dL_isSeen_202 rfl rfl hl.1 (Nat.le_of_ble_eq_true rfl) ⟨Nat.le_of_ble_eq_true rfl, Nat.le_of_ble_eq_true rfl⟩ ⟨Nat.le_of_ble_eq_true rfl, Nat.le_of_ble_eq_true rfl⟩ (fun H locs G => ?_)
                      refine g_topi (x' := nI ((hs.take 2).length + 3)) rfl ?_
                      refine lv_if_lt (tgt := 243) hx hb dL_isSeen_205 (by decide) (fun c_205 => ?_) (fun c_205 => ?_)
                      · skip
                        have c_205 : ((hs.take 2).length + 3) < 0 := (nI_ltI (a := (hs.take 2).length + 3) (b := 0) (by omega) (by omega)).mp c_205
                        exact absurd c_205 (by omega)
                      · skip
                        have c_205 : ¬ (((hs.take 2).length + 3) < 0) := fun h => c_205 ((nI_ltI (a := (hs.take 2).length + 3) (b := 0) (by omega) (by omega)).mpr h)
                        refine lv_aload_n hx hb dL_isSeen_208 rfl (lv_at hl 11 rfl) ?_
                        refine l_callV (As := []) (rest := []) (cs' := c2) (hs' := c1 :: cs :: hs.take 2) (r := .int (nI ((c1 :: cs :: hs.take 2).length))) C0 G (l_undo l D cy ad tv c3 (c1 :: cs :: hs.take 2) c2) k_X4_undo ml_L_111 dL_isSeen_209 rfl rfl hl.1 (Nat.le_of_ble_eq_true rfl) ⟨Nat.le_of_ble_eq_true rfl, Nat.le_of_ble_eq_true rfl⟩ ⟨Nat.le_of_ble_eq_true rfl, Nat.le_of_ble_eq_true rfl⟩ (fun H locs G => ?_)
                        refine g_topi (x' := nI ((hs.take 2).length + 2)) rfl ?_
                        refine lv_if_lt (tgt := 243) hx hb dL_isSeen_212 (by decide) (fun c_212 => ?_) (fun c_212 => ?_)
                        · skip
                          have c_212 : ((hs.take 2).length + 2) < 0 := (nI_ltI (a := (hs.take 2).length + 2) (b := 0) (by omega) (by omega)).mp c_212
                          exact absurd c_212 (by omega)
                        · skip
                          have c_212 : ¬ (((hs.take 2).length + 2) < 0) := fun h => c_212 ((nI_ltI (a := (hs.take 2).length + 2) (b := 0) (by omega) (by omega)).mpr h)
                          refine lv_aload_n hx hb dL_isSeen_215 rfl (lv_at hl 11 rfl) ?_
                          refine l_callV (As := []) (rest := []) (cs' := c1) (hs' := cs :: hs.take 2) (r := .int (nI ((cs :: hs.take 2).length))) C0 G (l_undo l D cy ad tv c2 (cs :: hs.take 2) c1) k_X4_undo ml_L_111 dL_isSeen_216 rfl rfl hl.1 (Nat.le_of_ble_eq_true rfl) ⟨Nat.le_of_ble_eq_true rfl, Nat.le_of_ble_eq_true rfl⟩ ⟨Nat.le_of_ble_eq_true rfl, Nat.le_of_ble_eq_true rfl⟩ (fun H locs G => ?_)
                          refine g_topi (x' := nI ((hs.take 2).length + 1)) rfl ?_
                          refine lv_if_lt (tgt := 243) hx hb dL_isSeen_219 (by decide) (fun c_219 => ?_) (fun c_219 => ?_)
                          · skip
                            have c_219 : ((hs.take 2).length + 1) < 0 := (nI_ltI (a := (hs.take 2).length + 1) (b := 0) (by omega) (by omega)).mp c_219
                            exact absurd c_219 (by omega)
                          · skip
                            have c_219 : ¬ (((hs.take 2).length + 1) < 0) := fun h => c_219 ((nI_ltI (a := (hs.take 2).length + 1) (b := 0) (by omega) (by omega)).mpr h)
                            refine lv_aload_n hx hb dL_isSeen_222 rfl (lv_at hl 11 rfl) ?_
                            refine l_callV (As := []) (rest := []) (cs' := cs) (hs' := hs.take 2) (r := .int (nI ((hs.take 2).length))) C0 G (l_undo l D cy ad tv c1 (hs.take 2) cs) k_X4_undo ml_L_111 dL_isSeen_223 rfl rfl hl.1 (Nat.le_of_ble_eq_true rfl) ⟨Nat.le_of_ble_eq_true rfl, Nat.le_of_ble_eq_true rfl⟩ ⟨Nat.le_of_ble_eq_true rfl, Nat.le_of_ble_eq_true rfl⟩ (fun H locs G => ?_)
                            refine lv_if_lt (tgt := 243) hx hb dL_isSeen_226 (by decide) (fun c_226 => ?_) (fun c_226 => ?_)
                            · skip
                              have c_226 : ((hs.take 2).length) < 0 := (nI_ltI (a := (hs.take 2).length) (b := 0) (by omega) (by omega)).mp c_226
                              exact absurd c_226 (by omega)
                            · skip
                              have c_226 : ¬ (((hs.take 2).length) < 0) := fun h => c_226 ((nI_ltI (a := (hs.take 2).length) (b := 0) (by omega) (by omega)).mpr h)
                              refine lv_aload_n hx hb dL_isSeen_229 rfl (lv_at hl 11 rfl) ?_
                              refine l_callV (As := []) (rest := []) (cs' := cs) (hs' := hs.take 2) (r := .long (dgC cs)) C0 G (l_digest l D cy ad tv cs (hs.take 2) hv) k_X4_digest ml_L_104 dL_isSeen_230 rfl rfl hl.1 (Nat.le_of_ble_eq_true rfl) ⟨Nat.le_of_ble_eq_true rfl, Nat.le_of_ble_eq_true rfl⟩ ⟨Nat.le_of_ble_eq_true rfl, Nat.le_of_ble_eq_true rfl⟩ (fun H locs G => ?_)
                              refine lv_lload hx hb dL_isSeen_233 (lv_at hl 9 rfl) ?_
                              refine W.lcmp hx hb dL_isSeen_235 ?_
                              refine lv_if_ne (tgt := 243) hx hb dL_isSeen_236 (by decide) (fun c_236 => ?_) (fun c_236 => ?_)
                              · skip
                                have c_236 : ¬ (dgC cs) = (dgC cs) := fun h => c_236 (lgc_eq.mpr h)
                                exact absurd rfl c_236
                              · skip
                                have c_236 : (dgC cs) = (dgC cs) := lgc_eq.mp c_236
                                refine lv_iconst (v := 1) hx hb dL_isSeen_239 (by decide) ?_
                                refine lv_goto (tgt := 244) hx hb dL_isSeen_240 (by decide) ?_
                                exact l_zret C0 G rfl dL_isSeen_244
  · skip
    have c_9 : ¬ (8 ≤ i) := fun h => c_9 ((nI_leI (a := 8) (b := i) (by omega) (by omega)).mpr h)
    refine lv_iload_n hx hb dL_isSeen_12 rfl (lv_at hl 3 rfl) ?_
    refine lv_if_eq (tgt := 32) hx hb dL_isSeen_13 (by decide) (fun c_13 => ?_) (fun c_13 => ?_)
    · skip
      have c_13 : (allB (fun u9 => decide (kdN (cs k).1 (cs k).2.1 (8 * r + u9) < 2)) i) = false := bI_f c_13
      refine lv_iconst (v := 0) hx hb dL_isSeen_32 (by decide) ?_
      refine lv_istore_n (lv' := [(3, .int 0), (0, .ref (ad 0)), (1, .int (nI k)), (2, .int (nI r)), (4, .int (nI i))]) hx hb dL_isSeen_33 rfl hl (by decide) rfl (fun ls hl => ?_)
      refine lv_iinc (v := nI (i + 1)) (lv' := [(4, .int (nI (i + 1))), (3, .int 0), (0, .ref (ad 0)), (1, .int (nI k)), (2, .int (nI r))]) hx hb dL_isSeen_34 hl (k := 4) rfl (nI_add i 1) (by decide) rfl (fun ls hl => ?_)
      refine lv_goto (tgt := 5) hx hb dL_isSeen_37 (by decide) ?_
      have hl := lv_sub hl (l' := _) [2, 3, 4, 1, 0] rfl
      exact ih_5 (i + 1) (by show _ ≤ _; omega) (by show _ < _; omega) _ _ _ G (by rw [show (allB (fun u9 => decide (kdN (cs k).1 (cs k).2.1 (8 * r + u9) < 2)) (i + 1)) = false from by rw [show allB (fun u9 => decide (kdN (cs k).1 (cs k).2.1 (8 * r + u9) < 2)) (i + 1) = (allB (fun u9 => decide (kdN (cs k).1 (cs k).2.1 (8 * r + u9) < 2)) i && decide (kdN (cs k).1 (cs k).2.1 (8 * r + i) < 2)) from rfl, c_13, Bool.false_and]]; exact hl)
    · skip
      have c_13 : (allB (fun u9 => decide (kdN (cs k).1 (cs k).2.1 (8 * r + u9) < 2)) i) = true := bI_t c_13
      refine lv_aload_n hx hb dL_isSeen_16 rfl (lv_at hl 0 rfl) ?_
      refine lv_iload_n hx hb dL_isSeen_17 rfl (lv_at hl 1 rfl) ?_
      refine lv_iload_n hx hb dL_isSeen_18 rfl (lv_at hl 2 rfl) ?_
      refine lv_iload hx hb dL_isSeen_19 (lv_at hl 4 rfl) ?_
      refine l_callV (As := [.int (nI k), .int (nI r), .int (nI i)]) (rest := []) (cs' := cs) (hs' := hs) (r := .int (nI (kdN (cs k).1 (cs k).2.1 (8 * r + i)))) C0 G (l_kind l D cy ad tv cs (hs) k r i (by omega) (by omega) (by omega)) k_X4_kind ml_L_13 dL_isSeen_21 rfl rfl hl.1 (Nat.le_of_ble_eq_true rfl) ⟨Nat.le_of_ble_eq_true rfl, Nat.le_of_ble_eq_true rfl⟩ ⟨Nat.le_of_ble_eq_true rfl, Nat.le_of_ble_eq_true rfl⟩ (fun H locs G => ?_)
      refine lv_iconst (v := 2) hx hb dL_isSeen_24 (by decide) ?_
      refine lv_icmp_ge (tgt := 32) hx hb dL_isSeen_25 (by decide) (fun c_25 => ?_) (fun c_25 => ?_)
      · skip
        have c_25 : 2 ≤ (kdN (cs k).1 (cs k).2.1 (8 * r + i)) := (nI_leI (a := 2) (b := kdN (cs k).1 (cs k).2.1 (8 * r + i)) (by omega) (by omega)).mp c_25
        refine lv_iconst (v := 0) hx hb dL_isSeen_32 (by decide) ?_
        refine lv_istore_n (lv' := [(3, .int 0), (0, .ref (ad 0)), (1, .int (nI k)), (2, .int (nI r)), (4, .int (nI i))]) hx hb dL_isSeen_33 rfl hl (by decide) rfl (fun ls hl => ?_)
        refine lv_iinc (v := nI (i + 1)) (lv' := [(4, .int (nI (i + 1))), (3, .int 0), (0, .ref (ad 0)), (1, .int (nI k)), (2, .int (nI r))]) hx hb dL_isSeen_34 hl (k := 4) rfl (nI_add i 1) (by decide) rfl (fun ls hl => ?_)
        refine lv_goto (tgt := 5) hx hb dL_isSeen_37 (by decide) ?_
        have hl := lv_sub hl (l' := _) [2, 3, 4, 1, 0] rfl
        exact ih_5 (i + 1) (by show _ ≤ _; omega) (by show _ < _; omega) _ _ _ G (by rw [show (allB (fun u9 => decide (kdN (cs k).1 (cs k).2.1 (8 * r + u9) < 2)) (i + 1)) = false from by rw [show allB (fun u9 => decide (kdN (cs k).1 (cs k).2.1 (8 * r + u9) < 2)) (i + 1) = (allB (fun u9 => decide (kdN (cs k).1 (cs k).2.1 (8 * r + u9) < 2)) i && decide (kdN (cs k).1 (cs k).2.1 (8 * r + i) < 2)) from rfl, decide_eq_false (by omega), Bool.and_false]]; exact hl)
      · skip
        have c_25 : ¬ (2 ≤ (kdN (cs k).1 (cs k).2.1 (8 * r + i))) := fun h => c_25 ((nI_leI (a := 2) (b := kdN (cs k).1 (cs k).2.1 (8 * r + i)) (by omega) (by omega)).mpr h)
        refine lv_iconst (v := 1) hx hb dL_isSeen_28 (by decide) ?_
        refine lv_goto (tgt := 33) hx hb dL_isSeen_29 (by decide) ?_
        refine lv_istore_n (lv' := [(3, .int 1), (0, .ref (ad 0)), (1, .int (nI k)), (2, .int (nI r)), (4, .int (nI i))]) hx hb dL_isSeen_33 rfl hl (by decide) rfl (fun ls hl => ?_)
        refine lv_iinc (v := nI (i + 1)) (lv' := [(4, .int (nI (i + 1))), (3, .int 1), (0, .ref (ad 0)), (1, .int (nI k)), (2, .int (nI r))]) hx hb dL_isSeen_34 hl (k := 4) rfl (nI_add i 1) (by decide) rfl (fun ls hl => ?_)
        refine lv_goto (tgt := 5) hx hb dL_isSeen_37 (by decide) ?_
        have hl := lv_sub hl (l' := _) [2, 3, 4, 1, 0] rfl
        exact ih_5 (i + 1) (by show _ ≤ _; omega) (by show _ < _; omega) _ _ _ G (by rw [show (allB (fun u9 => decide (kdN (cs k).1 (cs k).2.1 (8 * r + u9) < 2)) (i + 1)) = true from by rw [show allB (fun u9 => decide (kdN (cs k).1 (cs k).2.1 (8 * r + u9) < 2)) (i + 1) = (allB (fun u9 => decide (kdN (cs k).1 (cs k).2.1 (8 * r + u9) < 2)) i && decide (kdN (cs k).1 (cs k).2.1 (8 * r + i) < 2)) from rfl, c_13, decide_eq_true (by omega), Bool.and_self]]; exact hl)
