section GEE
variable {p : Program} {l : Launch} {e : Env} {R : Room} {s : State} {m : MethodId} {args : Array Value} {below : List Frame} {meth : Method} {c : Code} {H : Heap} {locs : List Loc} {cells slots : Nat} {Q : State → Prop}
variable {cc : ByteArray} {nL : Nat} {ret : Option FieldType} {own : String} {D : va_G} {ts : gY} {A : Nat → Prop} {W1 W2 : va_W} {pc : Nat} {ls : Array Slot} {rest st0 : List Value} {index q0 n a : Nat} {cA : ClassId}
theorem g_getsF (C0 : gC p s m args meth c cc nL ret own D ts A) (G : gW D W1 A s H locs) (hl : Cond.fieldLink own index "jdk/internal/util/Preconditions" "SIOOBE_FORMATTER" "Ljava/util/function/BiFunction;" ∈ gTs) (hdg : decode cc pc = .ok (.getstatic index, 3))
    (k0 : W p l e R s m args below meth c H locs cells slots Q (F0 m (pc + 3) ls (.null :: rest))) (k1 : ∀ t : Nat, W p l e R s m args below meth c H locs cells slots Q (F0 m (pc + 3) ls (.ref t :: rest))) : W p l e R s m args below meth c H locs cells slots Q (F0 m pc ls rest) := by
  rcases C0.2.2.2.2.2.2.2.2.2.1.2.2.2 with h | ⟨t, h⟩
  · exact va_gets C0.1 C0.2.1 h G.2.2 C0.2.2.2.2.2.1 (C0.2.2.2.2.2.2.1 _ hl) (fun _ h => h) hdg k0
  · exact va_gets C0.1 C0.2.1 h G.2.2 C0.2.2.2.2.2.1 (C0.2.2.2.2.2.2.1 _ hl) (fun _ h => h) hdg (k1 t)
theorem g_bald {f : Nat → Int32} {i : Int32} (C0 : gC p s m args meth c cc nL ret own D ts A) (G : gW D W1 A s H locs) (ha : W1[q0]? = some (a, .inl (cA, n, .inl f))) (t0 : Nat) (ht : ts[t0]? = some (cA, .byte)) (hin : vp_in i n) (hdg : decode cc pc = .ok (.baload, 1))
    (kk : W p l e R s m args below meth c H locs cells slots Q (F0 m (pc + 1) ls (.int (f i.toNatClampNeg) :: rest))) : W p l e R s m args below meth c H locs cells slots Q (F0 m pc ls (.int i :: .ref a :: rest)) := by
  obtain ⟨hx, hb, hml, hr, hlk, hown, hts, hK, hT, hS, hA⟩ := id C0
  exact va_bald hx hb hK G.1 q0 t0 ha ht hin hdg kk
theorem g_bast {f : Nat → Int32} {i x : Int32} (C0 : gC p s m args meth c cc nL ret own D ts A) (G : gW D W1 A s H locs) (ha : W1[q0]? = some (a, .inl (cA, n, .inl f))) (t0 : Nat) (ht : ts[t0]? = some (cA, .byte)) (hin : vp_in i n) (hw : W1.set q0 (a, .inl (cA, n, .inl (upd f i.toNatClampNeg (vp_nar .byte x)))) = W2) (hdg : decode cc pc = .ok (.bastore, 1))
    (kk : ∀ (H1 : Heap) (locs1 : List Loc), gW D W2 A s H1 locs1 → W p l e R s m args below meth c H1 locs1 cells slots Q (F0 m (pc + 1) ls rest)) : W p l e R s m args below meth c H locs cells slots Q (F0 m pc ls (.int x :: .int i :: .ref a :: rest)) := by
  obtain ⟨hx, hb, hml, hr, hlk, hown, hts, hK, hT, hS, hA⟩ := id C0
  subst hw
  exact va_bast hx hb hK G.1 G.2.1 G.2.2 q0 t0 ha ht hin hdg (fun H1 locs1 h1 h2 h3 => kk H1 locs1 ⟨h1, h2, h3⟩)
theorem g_min {x1 x2 : Nat} (C0 : gC p s m args meth c cc nL ret own D ts A) (h1 : x1 < 2147483648) (h2 : x2 < 2147483648) (hl : Cond.methodLink own index yJ9_min_7cf53 ∈ gTs) (hsz : ls.size = nL) (hcat : (rest.map fun v => v.category).sum ≤ 8)
    (hR : 1 ≤ R.frames ∧ 21 ≤ R.locals) (hf : cells ≤ R.cells ∧ slots ≤ R.slots) (hdg : decode cc pc = .ok (.invokestatic index, 3))
    (kk : W p l e R s m args below meth c H locs cells slots Q (F0 m (pc + 3) ls (.int (nI (if x1 ≤ x2 then x1 else x2)) :: rest))) : W p l e R s m args below meth c H locs cells slots Q (F0 m pc ls (.int (nI x2) :: .int (nI x1) :: rest)) := by
  obtain ⟨hx, hb, hml, hr, hlk, hown, hts, hK, hT, hS, hA⟩ := id C0
  have k := k_J9_min_7cf53
  refine va_mmin hx hb (hml.trans hsz.symm) hown (hts _ hl) (hts _ k.1.1) (hts _ k.1.2.1) (hts _ k.1.2.2) hR.1 (by omega) hf.1 hf.2 hdg ?_
  have e : (if nI x2 < nI x1 then nI x2 else nI x1) = nI (if x1 ≤ x2 then x1 else x2) := by
    by_cases h : x1 ≤ x2
    · rw [if_pos h, if_neg (fun h3 => absurd ((nI_ltI (by omega) (by omega)).mp h3) (by omega))]
    · rw [if_neg h, if_pos ((nI_ltI (by omega) (by omega)).mpr (by omega))]
  rw [e]
  exact kk
theorem g_max {x1 x2 : Nat} (C0 : gC p s m args meth c cc nL ret own D ts A) (h1 : x1 < 2147483648) (h2 : x2 < 2147483648) (hl : Cond.methodLink own index yJ9_max_7cf53 ∈ gTs) (hsz : ls.size = nL) (hcat : (rest.map fun v => v.category).sum ≤ 8)
    (hR : 1 ≤ R.frames ∧ 21 ≤ R.locals) (hf : cells ≤ R.cells ∧ slots ≤ R.slots) (hdg : decode cc pc = .ok (.invokestatic index, 3))
    (kk : W p l e R s m args below meth c H locs cells slots Q (F0 m (pc + 3) ls (.int (nI (if x2 ≤ x1 then x1 else x2)) :: rest))) : W p l e R s m args below meth c H locs cells slots Q (F0 m pc ls (.int (nI x2) :: .int (nI x1) :: rest)) := by
  obtain ⟨hx, hb, hml, hr, hlk, hown, hts, hK, hT, hS, hA⟩ := id C0
  have k := k_J9_max_7cf53
  refine va_mmax hx hb (hml.trans hsz.symm) hown (hts _ hl) (hts _ k.1.1) (hts _ k.1.2.1) (hts _ k.1.2.2) hR.1 (by omega) hf.1 hf.2 hdg ?_
  have e : (if nI x1 < nI x2 then nI x2 else nI x1) = nI (if x2 ≤ x1 then x1 else x2) := by
    by_cases h : x2 ≤ x1
    · rw [if_pos h, if_neg (fun h3 => absurd ((nI_ltI (by omega) (by omega)).mp h3) (by omega))]
    · rw [if_neg h, if_pos ((nI_ltI (by omega) (by omega)).mpr (by omega))]
  rw [e]
  exact kk
end GEE
theorem and255 : ∀ n, n < 128 → nI n &&& 255 = nI n := by decide +kernel
theorem i2c_s : ∀ n, n < 128 → ((nI n).toUInt32 % 65536).toInt32 = nI n := by decide +kernel
theorem i2b_s : ∀ n, n < 128 → (nI n).toInt8.toInt32 = nI n := by decide +kernel
theorem nar_s : ∀ n, n < 128 → vp_nar .byte (nI n) = nI n := by decide +kernel
theorem i_sub_le {a b : Nat} (ha : a < 2147483648) (hb : b < 2147483648) : nI a - nI b ≤ 0 ↔ a ≤ b := by
  rw [Int32.le_iff_toInt_le, Int32.toInt_sub, nI_toInt (by omega), nI_toInt (by omega)]
  show ((a : Int) - (b : Int)).bmod (2 ^ 32) ≤ 0 ↔ _
  rw [Int.bmod_def]
  split <;> omega
theorem ft_J4 : gFT TJ4 4 tyJ4 := ⟨tyJ4_ok, nmJ4⟩
set_option maxHeartbeats 4000000 in
set_option maxRecDepth 100000 in
theorem c_J3_checkIndex_8e157 (l : Launch) (D : va_G) (cy : Nat → ClassId) (W1 : va_W) (a1 : Nat) (b1 : Nat) (fm : Nat) (h1 : a1 < b1) (h2 : b1 < 2147483648) : GE l D (gts cy) yJ3_checkIndex_8e157 cJ3_checkIndex_8e157 3 (some .int) 0 0 0 [.int (nI a1), .int (nI b1), .ref fm] (W1) (gF (some (.int (nI a1))) (W1)) := by
  refine g_intro (by decide +kernel) (lv := [(0, .int (nI a1)), (1, .int (nI b1)), (2, .ref fm)]) rfl (Nat.le_of_ble_eq_true rfl) ?_
  intro p e s m below meth c C0 G ls hl
  have hx := C0.1
  have hb := C0.2.1
  have hown := C0.2.2.2.2.2.1
  have hts := C0.2.2.2.2.2.2.1
  refine lv_iload_n hx hb dJ3_checkIndex_8e157_0 rfl (lv_at hl 0 rfl) ?_
  refine lv_if_lt (tgt := 9) hx hb dJ3_checkIndex_8e157_1 (by decide) (fun c_1 => ?_) (fun c_1 => ?_)
  · skip
    have c_1 : a1 < 0 := (nI_ltI (a := a1) (b := 0) (by omega) (by omega)).mp c_1
    exact absurd c_1 (by omega)
  · skip
    have c_1 : ¬ (a1 < 0) := fun h => c_1 ((nI_ltI (a := a1) (b := 0) (by omega) (by omega)).mpr h)
    refine lv_iload_n hx hb dJ3_checkIndex_8e157_4 rfl (lv_at hl 0 rfl) ?_
    refine lv_iload_n hx hb dJ3_checkIndex_8e157_5 rfl (lv_at hl 1 rfl) ?_
    refine lv_icmp_lt (tgt := 16) hx hb dJ3_checkIndex_8e157_6 (by decide) (fun c_6 => ?_) (fun c_6 => ?_)
    · skip
      have c_6 : a1 < b1 := (nI_ltI (a := a1) (b := b1) (by omega) (by omega)).mp c_6
      refine lv_iload_n hx hb dJ3_checkIndex_8e157_16 rfl (lv_at hl 0 rfl) ?_
      exact g_iret C0 G ⟨by first | rfl | (exfalso; omega) | (simp only [c_1, c_6, Bool.false_eq_true, ↓reduceIte, eq_self, decide_true, decide_false, not_true_eq_false, not_false_eq_true, Bool.true_and, Bool.false_and, Bool.and_true, Bool.and_false]; done) | (simp [c_1, c_6]; done) | (simp [c_1, c_6]; rfl) | (simp [c_1, c_6]; omega), by first | rfl | (exfalso; omega) | (simp only [c_1, c_6, Bool.false_eq_true, ↓reduceIte, eq_self, decide_true, decide_false, not_true_eq_false, not_false_eq_true, Bool.true_and, Bool.false_and, Bool.and_true, Bool.and_false]; done) | (simp [c_1, c_6]; done) | (simp [c_1, c_6]; rfl) | (simp [c_1, c_6]; omega)⟩ dJ3_checkIndex_8e157_17
    · skip
      have c_6 : ¬ (a1 < b1) := fun h => c_6 ((nI_ltI (a := a1) (b := b1) (by omega) (by omega)).mpr h)
      exact absurd h1 c_6

set_option maxHeartbeats 4000000 in
set_option maxRecDepth 100000 in
theorem c_J3_checkIndex_8e157_n (l : Launch) (D : va_G) (cy : Nat → ClassId) (W1 : va_W) (a1 : Nat) (b1 : Nat) (h1 : a1 < b1) (h2 : b1 < 2147483648) : GE l D (gts cy) yJ3_checkIndex_8e157 cJ3_checkIndex_8e157 3 (some .int) 0 0 0 [.int (nI a1), .int (nI b1), .null] (W1) (gF (some (.int (nI a1))) (W1)) := by
  refine g_intro (by decide +kernel) (lv := [(0, .int (nI a1)), (1, .int (nI b1)), (2, .null)]) rfl (Nat.le_of_ble_eq_true rfl) ?_
  intro p e s m below meth c C0 G ls hl
  have hx := C0.1
  have hb := C0.2.1
  have hown := C0.2.2.2.2.2.1
  have hts := C0.2.2.2.2.2.2.1
  refine lv_iload_n hx hb dJ3_checkIndex_8e157_0 rfl (lv_at hl 0 rfl) ?_
  refine lv_if_lt (tgt := 9) hx hb dJ3_checkIndex_8e157_1 (by decide) (fun c_1 => ?_) (fun c_1 => ?_)
  · skip
    have c_1 : a1 < 0 := (nI_ltI (a := a1) (b := 0) (by omega) (by omega)).mp c_1
    exact absurd c_1 (by omega)
  · skip
    have c_1 : ¬ (a1 < 0) := fun h => c_1 ((nI_ltI (a := a1) (b := 0) (by omega) (by omega)).mpr h)
    refine lv_iload_n hx hb dJ3_checkIndex_8e157_4 rfl (lv_at hl 0 rfl) ?_
    refine lv_iload_n hx hb dJ3_checkIndex_8e157_5 rfl (lv_at hl 1 rfl) ?_
    refine lv_icmp_lt (tgt := 16) hx hb dJ3_checkIndex_8e157_6 (by decide) (fun c_6 => ?_) (fun c_6 => ?_)
    · skip
      have c_6 : a1 < b1 := (nI_ltI (a := a1) (b := b1) (by omega) (by omega)).mp c_6
      refine lv_iload_n hx hb dJ3_checkIndex_8e157_16 rfl (lv_at hl 0 rfl) ?_
      exact g_iret C0 G ⟨by first | rfl | (exfalso; omega) | (simp only [c_1, c_6, Bool.false_eq_true, ↓reduceIte, eq_self, decide_true, decide_false, not_true_eq_false, not_false_eq_true, Bool.true_and, Bool.false_and, Bool.and_true, Bool.and_false]; done) | (simp [c_1, c_6]; done) | (simp [c_1, c_6]; rfl) | (simp [c_1, c_6]; omega), by first | rfl | (exfalso; omega) | (simp only [c_1, c_6, Bool.false_eq_true, ↓reduceIte, eq_self, decide_true, decide_false, not_true_eq_false, not_false_eq_true, Bool.true_and, Bool.false_and, Bool.and_true, Bool.and_false]; done) | (simp [c_1, c_6]; done) | (simp [c_1, c_6]; rfl) | (simp [c_1, c_6]; omega)⟩ dJ3_checkIndex_8e157_17
    · skip
      have c_6 : ¬ (a1 < b1) := fun h => c_6 ((nI_ltI (a := a1) (b := b1) (by omega) (by omega)).mpr h)
      exact absurd h1 c_6

set_option maxHeartbeats 4000000 in
set_option maxRecDepth 100000 in
theorem c_J0_checkIndex_df160 (l : Launch) (D : va_G) (cy : Nat → ClassId) (W1 : va_W) (a1 : Nat) (b1 : Nat) (h1 : a1 < b1) (h2 : b1 < 2147483648) : GE l D (gts cy) yJ0_checkIndex_df160 cJ0_checkIndex_df160 2 none 1 0 0 [.int (nI a1), .int (nI b1)] (W1) (gF none (W1)) := by
  refine g_intro (by decide +kernel) (lv := [(0, .int (nI a1)), (1, .int (nI b1))]) rfl (Nat.le_of_ble_eq_true rfl) ?_
  intro p e s m below meth c C0 G ls hl
  have hx := C0.1
  have hb := C0.2.1
  have hown := C0.2.2.2.2.2.1
  have hts := C0.2.2.2.2.2.2.1
  refine lv_iload_n hx hb dJ0_checkIndex_df160_0 rfl (lv_at hl 0 rfl) ?_
  refine lv_iload_n hx hb dJ0_checkIndex_df160_1 rfl (lv_at hl 1 rfl) ?_
  refine g_getsF C0 G fl_J0_1053 dJ0_checkIndex_df160_2 ?_ (fun t9 => ?_)
  · skip
    refine g_callS (As := [.int (nI a1), .int (nI b1), .null]) (rest := []) C0 G (c_J3_checkIndex_8e157_n l D cy (W1 := W1) (a1 := a1) (b1 := b1) (by omega) (by omega)) k_J3_checkIndex_8e157 ml_J0_1059 dJ0_checkIndex_df160_5 rfl rfl hl.1 (Nat.le_of_ble_eq_true rfl) ⟨Nat.le_of_ble_eq_true rfl, Nat.le_of_ble_eq_true rfl⟩ ⟨Nat.le_of_ble_eq_true rfl, Nat.le_of_ble_eq_true rfl⟩ (fun r W2 H locs hp G => ?_)
    obtain ⟨rfl, hw⟩ := hp
    have G := g_wc hw G
    refine W.eq (g2 := F0 m 8 ls [.int (nI a1)]) rfl ?_
    refine lv_pop hx hb dJ0_checkIndex_df160_8 rfl ?_
    exact g_vret C0 G ⟨by first | rfl | (exfalso; omega) | (simp only [Bool.false_eq_true, ↓reduceIte, eq_self, decide_true, decide_false, not_true_eq_false, not_false_eq_true, Bool.true_and, Bool.false_and, Bool.and_true, Bool.and_false]; done) | (simp []; done) | (simp []; rfl) | (simp []; omega), by first | rfl | (exfalso; omega) | (simp only [Bool.false_eq_true, ↓reduceIte, eq_self, decide_true, decide_false, not_true_eq_false, not_false_eq_true, Bool.true_and, Bool.false_and, Bool.and_true, Bool.and_false]; done) | (simp []; done) | (simp []; rfl) | (simp []; omega)⟩ dJ0_checkIndex_df160_9
  · skip
    refine g_callS (As := [.int (nI a1), .int (nI b1), .ref t9]) (rest := []) C0 G (c_J3_checkIndex_8e157 l D cy (W1 := W1) (a1 := a1) (b1 := b1) (fm := t9) (by omega) (by omega)) k_J3_checkIndex_8e157 ml_J0_1059 dJ0_checkIndex_df160_5 rfl rfl hl.1 (Nat.le_of_ble_eq_true rfl) ⟨Nat.le_of_ble_eq_true rfl, Nat.le_of_ble_eq_true rfl⟩ ⟨Nat.le_of_ble_eq_true rfl, Nat.le_of_ble_eq_true rfl⟩ (fun r W2 H locs hp G => ?_)
    obtain ⟨rfl, hw⟩ := hp
    have G := g_wc hw G
    refine W.eq (g2 := F0 m 8 ls [.int (nI a1)]) rfl ?_
    refine lv_pop hx hb dJ0_checkIndex_df160_8 rfl ?_
    exact g_vret C0 G ⟨by first | rfl | (exfalso; omega) | (simp only [Bool.false_eq_true, ↓reduceIte, eq_self, decide_true, decide_false, not_true_eq_false, not_false_eq_true, Bool.true_and, Bool.false_and, Bool.and_true, Bool.and_false]; done) | (simp []; done) | (simp []; rfl) | (simp []; omega), by first | rfl | (exfalso; omega) | (simp only [Bool.false_eq_true, ↓reduceIte, eq_self, decide_true, decide_false, not_true_eq_false, not_false_eq_true, Bool.true_and, Bool.false_and, Bool.and_true, Bool.and_false]; done) | (simp []; done) | (simp []; rfl) | (simp []; omega)⟩ dJ0_checkIndex_df160_9

set_option maxHeartbeats 4000000 in
set_option maxRecDepth 100000 in
theorem c_J5_isLatin1_aae02 (l : Launch) (D : va_G) (cy : Nat → ClassId) (ad : Nat → Nat) (fr : Nat → Int64) (bk : Nat → Int64) (vw : Nat → Nat) (tk : Int64) (to : Int64) (fk : Int64) (fo : Int64) (kp : Nat) (sp : Nat) (lt : Nat) (ib : Bool) (rw : Nat) (cl : Nat) (nu : Nat) (tv : Nat) (tm : Nat) (ta : Nat → Int32) (ml : Int32) (tn : Nat) (R : va_W)   : GE l D (gts cy) yJ5_isLatin1_aae02 cJ5_isLatin1_aae02 1 (some .boolean) 0 0 0 [.ref (ad 7)] (wC ad cy fr bk vw tk to fk fo kp sp lt ib rw cl nu tv tm ta ml tn R) (gF (some (.int (bI true))) (wC ad cy fr bk vw tk to fk fo kp sp lt ib rw cl nu tv tm ta ml tn R)) := by
  refine g_intro (by decide +kernel) (lv := [(0, .ref (ad 7))]) rfl (Nat.le_of_ble_eq_true rfl) ?_
  intro p e s m below meth c C0 G ls hl
  have hx := C0.1
  have hb := C0.2.1
  have hown := C0.2.2.2.2.2.1
  have hts := C0.2.2.2.2.2.2.1
  refine g_getsC C0 G fl_J5_18 dJ5_isLatin1_aae02_0 ?_
  refine lv_if_eq (tgt := 17) hx hb dJ5_isLatin1_aae02_3 (by decide) (fun c_3 => ?_) (fun c_3 => ?_)
  · exact absurd c_3 (by decide)
  · skip
    refine lv_aload_n hx hb dJ5_isLatin1_aae02_6 rfl (lv_at hl 0 rfl) ?_
    refine g_get (q0 := 7) (v := .int 0) C0 G in_J4 rfl rfl 1 (by decide) fl_J5_22 (fun _ h => h) rfl dJ5_isLatin1_aae02_7 ?_
    refine lv_if_ne (tgt := 17) hx hb dJ5_isLatin1_aae02_10 (by decide) (fun c_10 => ?_) (fun c_10 => ?_)
    · exact absurd c_10 (by decide)
    · skip
      refine lv_iconst (v := 1) hx hb dJ5_isLatin1_aae02_13 (by decide) ?_
      refine lv_goto (tgt := 18) hx hb dJ5_isLatin1_aae02_14 (by decide) ?_
      exact g_zret C0 G rfl ⟨by first | rfl | (exfalso; omega) | (simp only [Bool.false_eq_true, ↓reduceIte, eq_self, decide_true, decide_false, not_true_eq_false, not_false_eq_true, Bool.true_and, Bool.false_and, Bool.and_true, Bool.and_false]; done) | (simp []; done) | (simp []; rfl) | (simp []; omega), by first | rfl | (exfalso; omega) | (simp only [Bool.false_eq_true, ↓reduceIte, eq_self, decide_true, decide_false, not_true_eq_false, not_false_eq_true, Bool.true_and, Bool.false_and, Bool.and_true, Bool.and_false]; done) | (simp []; done) | (simp []; rfl) | (simp []; omega)⟩ dJ5_isLatin1_aae02_18

set_option maxHeartbeats 4000000 in
set_option maxRecDepth 100000 in
theorem c_J5_length_8abf5 (l : Launch) (D : va_G) (cy : Nat → ClassId) (ad : Nat → Nat) (fr : Nat → Int64) (bk : Nat → Int64) (vw : Nat → Nat) (tk : Int64) (to : Int64) (fk : Int64) (fo : Int64) (kp : Nat) (sp : Nat) (lt : Nat) (ib : Bool) (rw : Nat) (cl : Nat) (nu : Nat) (tv : Nat) (tm : Nat) (ta : Nat → Int32) (ml : Int32) (tn : Nat) (R : va_W)   : GE l D (gts cy) yJ5_length_8abf5 cJ5_length_8abf5 1 (some .int) 0 0 0 [.ref (ad 7)] (wC ad cy fr bk vw tk to fk fo kp sp lt ib rw cl nu tv tm ta ml tn R) (gF (some (.int (nI tn))) (wC ad cy fr bk vw tk to fk fo kp sp lt ib rw cl nu tv tm ta ml tn R)) := by
  refine g_intro (by decide +kernel) (lv := [(0, .ref (ad 7))]) rfl (Nat.le_of_ble_eq_true rfl) ?_
  intro p e s m below meth c C0 G ls hl
  have hx := C0.1
  have hb := C0.2.1
  have hown := C0.2.2.2.2.2.1
  have hts := C0.2.2.2.2.2.2.1
  refine lv_aload_n hx hb dJ5_length_8abf5_0 rfl (lv_at hl 0 rfl) ?_
  refine g_get (q0 := 7) (v := .int (nI tn)) C0 G in_J4 rfl rfl 3 (by decide) fl_J5_79 (fun _ h => h) rfl dJ5_length_8abf5_1 ?_
  exact g_iret C0 G ⟨by first | rfl | (exfalso; omega) | (simp only [Bool.false_eq_true, ↓reduceIte, eq_self, decide_true, decide_false, not_true_eq_false, not_false_eq_true, Bool.true_and, Bool.false_and, Bool.and_true, Bool.and_false]; done) | (simp []; done) | (simp []; rfl) | (simp []; omega), by first | rfl | (exfalso; omega) | (simp only [Bool.false_eq_true, ↓reduceIte, eq_self, decide_true, decide_false, not_true_eq_false, not_false_eq_true, Bool.true_and, Bool.false_and, Bool.and_true, Bool.and_false]; done) | (simp []; done) | (simp []; rfl) | (simp []; omega)⟩ dJ5_length_8abf5_4

set_option maxHeartbeats 4000000 in
set_option maxRecDepth 100000 in
theorem c_J4_length_8abf5 (l : Launch) (D : va_G) (cy : Nat → ClassId) (ad : Nat → Nat) (fr : Nat → Int64) (bk : Nat → Int64) (vw : Nat → Nat) (tk : Int64) (to : Int64) (fk : Int64) (fo : Int64) (kp : Nat) (sp : Nat) (lt : Nat) (ib : Bool) (rw : Nat) (cl : Nat) (nu : Nat) (tv : Nat) (tm : Nat) (ta : Nat → Int32) (ml : Int32) (tn : Nat) (R : va_W)   : GE l D (gts cy) yJ4_length_8abf5 cJ4_length_8abf5 1 (some .int) 1 0 0 [.ref (ad 7)] (wC ad cy fr bk vw tk to fk fo kp sp lt ib rw cl nu tv tm ta ml tn R) (gF (some (.int (nI tn))) (wC ad cy fr bk vw tk to fk fo kp sp lt ib rw cl nu tv tm ta ml tn R)) := by
  refine g_intro (by decide +kernel) (lv := [(0, .ref (ad 7))]) rfl (Nat.le_of_ble_eq_true rfl) ?_
  intro p e s m below meth c C0 G ls hl
  have hx := C0.1
  have hb := C0.2.1
  have hown := C0.2.2.2.2.2.1
  have hts := C0.2.2.2.2.2.2.1
  refine lv_aload_n hx hb dJ4_length_8abf5_0 rfl (lv_at hl 0 rfl) ?_
  refine g_callU (As := []) (rest := []) (q0 := 7) C0 G (c_J5_length_8abf5 l D cy (ad := ad) (fr := fr) (bk := bk) (vw := vw) (tk := tk) (to := to) (fk := fk) (fo := fo) (kp := kp) (sp := sp) (lt := lt) (ib := ib) (rw := rw) (cl := cl) (nu := nu) (tv := tv) (tm := tm) (ta := ta) (ml := ml) (tn := tn) (R := R)  ) ku_J5_length_8abf5 ml_J4_343 rfl rfl dJ4_length_8abf5_1 rfl rfl hl.1 (Nat.le_of_ble_eq_true rfl) ⟨Nat.le_of_ble_eq_true rfl, Nat.le_of_ble_eq_true rfl⟩ ⟨Nat.le_of_ble_eq_true rfl, Nat.le_of_ble_eq_true rfl⟩ (fun r W2 H locs hp G => ?_)
  obtain ⟨rfl, hw⟩ := hp
  have G := g_wc hw G
  refine W.eq (g2 := F0 m 4 ls [.int (nI tn)]) rfl ?_
  exact g_iret C0 G ⟨by first | rfl | (exfalso; omega) | (simp only [Bool.false_eq_true, ↓reduceIte, eq_self, decide_true, decide_false, not_true_eq_false, not_false_eq_true, Bool.true_and, Bool.false_and, Bool.and_true, Bool.and_false]; done) | (simp []; done) | (simp []; rfl) | (simp []; omega), by first | rfl | (exfalso; omega) | (simp only [Bool.false_eq_true, ↓reduceIte, eq_self, decide_true, decide_false, not_true_eq_false, not_false_eq_true, Bool.true_and, Bool.false_and, Bool.and_true, Bool.and_false]; done) | (simp []; done) | (simp []; rfl) | (simp []; omega)⟩ dJ4_length_8abf5_4

set_option maxHeartbeats 4000000 in
set_option maxRecDepth 100000 in
theorem c_J5_charAt_5068e (l : Launch) (D : va_G) (cy : Nat → ClassId) (ad : Nat → Nat) (fr : Nat → Int64) (bk : Nat → Int64) (vw : Nat → Nat) (tk : Int64) (to : Int64) (fk : Int64) (fo : Int64) (kp : Nat) (sp : Nat) (lt : Nat) (ib : Bool) (rw : Nat) (cl : Nat) (nu : Nat) (tv : Nat) (tm : Nat) (ta : Nat → Int32) (ml : Int32) (tn : Nat) (R : va_W) (a1 : Nat) (ch : Nat) (h1 : a1 < tn) (h2 : tn ≤ tm) (h3 : tm < 2147483648) (ht : ta a1 = nI ch) (hch : ch < 128) : GE l D (gts cy) yJ5_charAt_5068e cJ5_charAt_5068e 5 (some .char) 2 0 0 [.ref (ad 7), .int (nI a1)] (wC ad cy fr bk vw tk to fk fo kp sp lt ib rw cl nu tv tm ta ml tn R) (gF (some (.int (nI ch))) (wC ad cy fr bk vw tk to fk fo kp sp lt ib rw cl nu tv tm ta ml tn R)) := by
  refine g_intro (by decide +kernel) (lv := [(0, .ref (ad 7)), (1, .int (nI a1))]) rfl (Nat.le_of_ble_eq_true rfl) ?_
  intro p e s m below meth c C0 G ls hl
  have hx := C0.1
  have hb := C0.2.1
  have hown := C0.2.2.2.2.2.1
  have hts := C0.2.2.2.2.2.2.1
  refine lv_aload_n hx hb dJ5_charAt_5068e_0 rfl (lv_at hl 0 rfl) ?_
  refine g_get (q0 := 7) (v := .int 0) C0 G in_J4 rfl rfl 1 (by decide) fl_J5_22 (fun _ h => h) rfl dJ5_charAt_5068e_1 ?_
  refine lv_istore_n (lv' := [(2, .int 0), (0, .ref (ad 7)), (1, .int (nI a1))]) hx hb dJ5_charAt_5068e_4 rfl hl (by decide) rfl (fun ls hl => ?_)
  refine lv_aload_n hx hb dJ5_charAt_5068e_5 rfl (lv_at hl 1 rfl) ?_
  refine g_get (q0 := 7) (v := .ref tv) C0 G in_J4 rfl rfl 0 (by decide) fl_J5_15 (fun _ h => h) rfl dJ5_charAt_5068e_6 ?_
  refine lv_astore_n (lv' := [(3, .ref tv), (2, .int 0), (0, .ref (ad 7)), (1, .int (nI a1))]) hx hb dJ5_charAt_5068e_9 rfl hl (by decide) rfl (fun ls hl => ?_)
  refine lv_aload_n hx hb dJ5_charAt_5068e_10 rfl (lv_at hl 2 rfl) ?_
  refine g_get (q0 := 7) (v := .int (nI tn)) C0 G in_J4 rfl rfl 3 (by decide) fl_J5_79 (fun _ h => h) rfl dJ5_charAt_5068e_11 ?_
  refine lv_aload_n hx hb dJ5_charAt_5068e_14 rfl (lv_at hl 0 rfl) ?_
  refine g_alen (q0 := 8) (v := nI tm) C0 G rfl 0 rfl rfl dJ5_charAt_5068e_15 ?_
  refine lv_iload_n hx hb dJ5_charAt_5068e_16 rfl (lv_at hl 1 rfl) ?_
  refine lv_ishr hx hb dJ5_charAt_5068e_17 ?_
  refine g_topi (x' := nI (tm / 2 ^ 0)) (shrN (a := tm) (n := 0) (by omega) (by omega)) ?_
  refine g_min (x1 := tn) (x2 := tm / 2 ^ 0) C0 (by omega) (by omega) ml_J5_138 hl.1 (Nat.le_of_ble_eq_true rfl) ⟨Nat.le_of_ble_eq_true rfl, Nat.le_of_ble_eq_true rfl⟩ ⟨Nat.le_of_ble_eq_true rfl, Nat.le_of_ble_eq_true rfl⟩ dJ5_charAt_5068e_18 ?_
  refine g_topi (x' := nI tn) (congrArg nI (if_pos (by omega))) ?_
  refine lv_istore (lv' := [(4, .int (nI tn)), (3, .ref tv), (2, .int 0), (0, .ref (ad 7)), (1, .int (nI a1))]) hx hb dJ5_charAt_5068e_21 hl (by decide) rfl (fun ls hl => ?_)
  refine lv_iload_n hx hb dJ5_charAt_5068e_23 rfl (lv_at hl 4 rfl) ?_
  refine lv_iload hx hb dJ5_charAt_5068e_24 (lv_at hl 0 rfl) ?_
  refine g_callS (As := [.int (nI a1), .int (nI tn)]) (rest := []) C0 G (c_J0_checkIndex_df160 l D cy (W1 := wC ad cy fr bk vw tk to fk fo kp sp lt ib rw cl nu tv tm ta ml tn R) (a1 := a1) (b1 := tn) (by omega) (by omega)) k_J0_checkIndex_df160 ml_J5_144 dJ5_charAt_5068e_26 rfl rfl hl.1 (Nat.le_of_ble_eq_true rfl) ⟨Nat.le_of_ble_eq_true rfl, Nat.le_of_ble_eq_true rfl⟩ ⟨Nat.le_of_ble_eq_true rfl, Nat.le_of_ble_eq_true rfl⟩ (fun r W2 H locs hp G => ?_)
  obtain ⟨rfl, hw⟩ := hp
  have G := g_wc hw G
  refine W.eq (g2 := F0 m 29 ls []) rfl ?_
  refine lv_iload_n hx hb dJ5_charAt_5068e_29 rfl (lv_at hl 2 rfl) ?_
  refine lv_if_ne (tgt := 42) hx hb dJ5_charAt_5068e_30 (by decide) (fun c_30 => ?_) (fun c_30 => ?_)
  · exact absurd c_30 (by decide)
  · skip
    refine lv_aload_n hx hb dJ5_charAt_5068e_33 rfl (lv_at hl 1 rfl) ?_
    refine lv_iload_n hx hb dJ5_charAt_5068e_34 rfl (lv_at hl 4 rfl) ?_
    refine g_bald (q0 := 8) (n := tm) C0 G rfl 0 rfl (vp_in_nI (n := a1) (by omega) (by omega)) dJ5_charAt_5068e_35 ?_
    refine g_topi (x' := ta a1) (congrArg ta (nI_clamp (n := a1) (by omega))) ?_
    refine g_topi (x' := nI ch) ht ?_
    refine lv_sipush (v := 255) hx hb dJ5_charAt_5068e_36 (by decide) ?_
    refine lv_iand hx hb dJ5_charAt_5068e_39 ?_
    refine g_topi (x' := nI ch) (and255 ch hch) ?_
    refine lv_i2c hx hb dJ5_charAt_5068e_40 rfl ?_
    refine g_topi (x' := nI ch) (i2c_s ch hch) ?_
    exact g_zret C0 G ((pk_charN (by omega)).1) ⟨by first | rfl | (exfalso; omega) | (simp only [Bool.false_eq_true, ↓reduceIte, eq_self, decide_true, decide_false, not_true_eq_false, not_false_eq_true, Bool.true_and, Bool.false_and, Bool.and_true, Bool.and_false]; done) | (simp []; done) | (simp []; rfl) | (simp []; omega), by first | rfl | (exfalso; omega) | (simp only [Bool.false_eq_true, ↓reduceIte, eq_self, decide_true, decide_false, not_true_eq_false, not_false_eq_true, Bool.true_and, Bool.false_and, Bool.and_true, Bool.and_false]; done) | (simp []; done) | (simp []; rfl) | (simp []; omega)⟩ dJ5_charAt_5068e_41

set_option maxHeartbeats 4000000 in
set_option maxRecDepth 100000 in
theorem c_J4_charAt_5068e (l : Launch) (D : va_G) (cy : Nat → ClassId) (ad : Nat → Nat) (fr : Nat → Int64) (bk : Nat → Int64) (vw : Nat → Nat) (tk : Int64) (to : Int64) (fk : Int64) (fo : Int64) (kp : Nat) (sp : Nat) (lt : Nat) (ib : Bool) (rw : Nat) (cl : Nat) (nu : Nat) (tv : Nat) (tm : Nat) (ta : Nat → Int32) (ml : Int32) (tn : Nat) (R : va_W) (a1 : Nat) (ch : Nat) (h1 : a1 < tn) (h2 : tn ≤ tm) (h3 : tm < 2147483648) (ht : ta a1 = nI ch) (hch : ch < 128) : GE l D (gts cy) yJ4_charAt_5068e cJ4_charAt_5068e 2 (some .char) 3 0 0 [.ref (ad 7), .int (nI a1)] (wC ad cy fr bk vw tk to fk fo kp sp lt ib rw cl nu tv tm ta ml tn R) (gF (some (.int (nI ch))) (wC ad cy fr bk vw tk to fk fo kp sp lt ib rw cl nu tv tm ta ml tn R)) := by
  refine g_intro (by decide +kernel) (lv := [(0, .ref (ad 7)), (1, .int (nI a1))]) rfl (Nat.le_of_ble_eq_true rfl) ?_
  intro p e s m below meth c C0 G ls hl
  have hx := C0.1
  have hb := C0.2.1
  have hown := C0.2.2.2.2.2.1
  have hts := C0.2.2.2.2.2.2.1
  refine lv_aload_n hx hb dJ4_charAt_5068e_0 rfl (lv_at hl 0 rfl) ?_
  refine lv_iload_n hx hb dJ4_charAt_5068e_1 rfl (lv_at hl 1 rfl) ?_
  refine g_callU (As := [.int (nI a1)]) (rest := []) (q0 := 7) C0 G (c_J5_charAt_5068e l D cy (ad := ad) (fr := fr) (bk := bk) (vw := vw) (tk := tk) (to := to) (fk := fk) (fo := fo) (kp := kp) (sp := sp) (lt := lt) (ib := ib) (rw := rw) (cl := cl) (nu := nu) (tv := tv) (tm := tm) (ta := ta) (ml := ml) (tn := tn) (R := R) (a1 := a1) (ch := ch) (by omega) (by omega) (by omega) ht hch) ku_J5_charAt_5068e ml_J4_329 rfl rfl dJ4_charAt_5068e_2 rfl rfl hl.1 (Nat.le_of_ble_eq_true rfl) ⟨Nat.le_of_ble_eq_true rfl, Nat.le_of_ble_eq_true rfl⟩ ⟨Nat.le_of_ble_eq_true rfl, Nat.le_of_ble_eq_true rfl⟩ (fun r W2 H locs hp G => ?_)
  obtain ⟨rfl, hw⟩ := hp
  have G := g_wc hw G
  refine W.eq (g2 := F0 m 5 ls [.int (nI ch)]) rfl ?_
  exact g_zret C0 G ((pk_charN (by omega)).1) ⟨by first | rfl | (exfalso; omega) | (simp only [Bool.false_eq_true, ↓reduceIte, eq_self, decide_true, decide_false, not_true_eq_false, not_false_eq_true, Bool.true_and, Bool.false_and, Bool.and_true, Bool.and_false]; done) | (simp []; done) | (simp []; rfl) | (simp []; omega), by first | rfl | (exfalso; omega) | (simp only [Bool.false_eq_true, ↓reduceIte, eq_self, decide_true, decide_false, not_true_eq_false, not_false_eq_true, Bool.true_and, Bool.false_and, Bool.and_true, Bool.and_false]; done) | (simp []; done) | (simp []; rfl) | (simp []; omega)⟩ dJ4_charAt_5068e_5

set_option maxHeartbeats 4000000 in
set_option maxRecDepth 100000 in
theorem c_J5_ensureCapacityInternal_d00df (l : Launch) (D : va_G) (cy : Nat → ClassId) (ad : Nat → Nat) (fr : Nat → Int64) (bk : Nat → Int64) (vw : Nat → Nat) (tk : Int64) (to : Int64) (fk : Int64) (fo : Int64) (kp : Nat) (sp : Nat) (lt : Nat) (ib : Bool) (rw : Nat) (cl : Nat) (nu : Nat) (tv : Nat) (tm : Nat) (ta : Nat → Int32) (ml : Int32) (tn : Nat) (R : va_W) (a1 : Nat) (h1 : a1 ≤ tm) (h2 : tm < 2147483648) : GE l D (gts cy) yJ5_ensureCapacityInternal_d00df cJ5_ensureCapacityInternal_d00df 3 none 0 0 0 [.ref (ad 7), .int (nI a1)] (wC ad cy fr bk vw tk to fk fo kp sp lt ib rw cl nu tv tm ta ml tn R) (gF none (wC ad cy fr bk vw tk to fk fo kp sp lt ib rw cl nu tv tm ta ml tn R)) := by
  refine g_intro (by decide +kernel) (lv := [(0, .ref (ad 7)), (1, .int (nI a1))]) rfl (Nat.le_of_ble_eq_true rfl) ?_
  intro p e s m below meth c C0 G ls hl
  have hx := C0.1
  have hb := C0.2.1
  have hown := C0.2.2.2.2.2.1
  have hts := C0.2.2.2.2.2.2.1
  refine lv_aload_n hx hb dJ5_ensureCapacityInternal_d00df_0 rfl (lv_at hl 0 rfl) ?_
  refine g_get (q0 := 7) (v := .ref tv) C0 G in_J4 rfl rfl 0 (by decide) fl_J5_15 (fun _ h => h) rfl dJ5_ensureCapacityInternal_d00df_1 ?_
  refine g_alen (q0 := 8) (v := nI tm) C0 G rfl 0 rfl rfl dJ5_ensureCapacityInternal_d00df_4 ?_
  refine lv_aload_n hx hb dJ5_ensureCapacityInternal_d00df_5 rfl (lv_at hl 0 rfl) ?_
  refine g_get (q0 := 7) (v := .int 0) C0 G in_J4 rfl rfl 1 (by decide) fl_J5_22 (fun _ h => h) rfl dJ5_ensureCapacityInternal_d00df_6 ?_
  refine lv_ishr hx hb dJ5_ensureCapacityInternal_d00df_9 ?_
  refine g_topi (x' := nI (tm / 2 ^ 0)) (shrN (a := tm) (n := 0) (by omega) (by omega)) ?_
  refine g_topi (x' := nI tm) (congrArg nI (by omega)) ?_
  refine lv_istore_n (lv' := [(2, .int (nI tm)), (0, .ref (ad 7)), (1, .int (nI a1))]) hx hb dJ5_ensureCapacityInternal_d00df_10 rfl hl (by decide) rfl (fun ls hl => ?_)
  refine lv_iload_n hx hb dJ5_ensureCapacityInternal_d00df_11 rfl (lv_at hl 2 rfl) ?_
  refine lv_iload_n hx hb dJ5_ensureCapacityInternal_d00df_12 rfl (lv_at hl 0 rfl) ?_
  refine lv_isub hx hb dJ5_ensureCapacityInternal_d00df_13 ?_
  refine g_topi (x' := nI a1 - nI tm) rfl ?_
  refine lv_if_le (tgt := 38) hx hb dJ5_ensureCapacityInternal_d00df_14 (by decide) (fun c_14 => ?_) (fun c_14 => ?_)
  · skip
    exact g_vret C0 G ⟨by first | rfl | (exfalso; omega) | (simp only [c_14, Bool.false_eq_true, ↓reduceIte, eq_self, decide_true, decide_false, not_true_eq_false, not_false_eq_true, Bool.true_and, Bool.false_and, Bool.and_true, Bool.and_false]; done) | (simp [c_14]; done) | (simp [c_14]; rfl) | (simp [c_14]; omega), by first | rfl | (exfalso; omega) | (simp only [c_14, Bool.false_eq_true, ↓reduceIte, eq_self, decide_true, decide_false, not_true_eq_false, not_false_eq_true, Bool.true_and, Bool.false_and, Bool.and_true, Bool.and_false]; done) | (simp [c_14]; done) | (simp [c_14]; rfl) | (simp [c_14]; omega)⟩ dJ5_ensureCapacityInternal_d00df_38
  · skip
    exact absurd ((i_sub_le (by omega) (by omega)).mpr h1) c_14

set_option maxHeartbeats 4000000 in
set_option maxRecDepth 100000 in
theorem c_J5_setLength_d00df (l : Launch) (D : va_G) (cy : Nat → ClassId) (ad : Nat → Nat) (fr : Nat → Int64) (bk : Nat → Int64) (vw : Nat → Nat) (tk : Int64) (to : Int64) (fk : Int64) (fo : Int64) (kp : Nat) (sp : Nat) (lt : Nat) (ib : Bool) (rw : Nat) (cl : Nat) (nu : Nat) (tv : Nat) (tm : Nat) (ta : Nat → Int32) (ml : Int32) (tn : Nat) (R : va_W) (a1 : Nat) (h1 : a1 ≤ tn) (h2 : tn ≤ tm) (h3 : tm < 2147483648) : GE l D (gts cy) yJ5_setLength_d00df cJ5_setLength_d00df 2 none 1 0 0 [.ref (ad 7), .int (nI a1)] (wC ad cy fr bk vw tk to fk fo kp sp lt ib rw cl nu tv tm ta ml tn R) (gF none (wC ad cy fr bk vw tk to fk fo kp sp lt ib rw cl nu tv tm ta (if tn ≤ a1 then ml else 1) a1 R)) := by
  refine g_intro (by decide +kernel) (lv := [(0, .ref (ad 7)), (1, .int (nI a1))]) rfl (Nat.le_of_ble_eq_true rfl) ?_
  intro p e s m below meth c C0 G ls hl
  have hx := C0.1
  have hb := C0.2.1
  have hown := C0.2.2.2.2.2.1
  have hts := C0.2.2.2.2.2.2.1
  refine lv_iload_n hx hb dJ5_setLength_d00df_0 rfl (lv_at hl 1 rfl) ?_
  refine lv_if_ge (tgt := 13) hx hb dJ5_setLength_d00df_1 (by decide) (fun c_1 => ?_) (fun c_1 => ?_)
  · skip
    have c_1 : 0 ≤ a1 := (nI_leI (a := 0) (b := a1) (by omega) (by omega)).mp c_1
    refine lv_aload_n hx hb dJ5_setLength_d00df_13 rfl (lv_at hl 0 rfl) ?_
    refine lv_iload_n hx hb dJ5_setLength_d00df_14 rfl (lv_at hl 1 rfl) ?_
    refine g_callP (As := [.int (nI a1)]) (rest := []) (q0 := 7) C0 G (c_J5_ensureCapacityInternal_d00df l D cy (ad := ad) (fr := fr) (bk := bk) (vw := vw) (tk := tk) (to := to) (fk := fk) (fo := fo) (kp := kp) (sp := sp) (lt := lt) (ib := ib) (rw := rw) (cl := cl) (nu := nu) (tv := tv) (tm := tm) (ta := ta) (ml := ml) (tn := tn) (R := R) (a1 := a1) (by omega) (by omega)) kp_J5_ensureCapacityInternal_d00df kw_J5_isLatin1_aae02.1.2.1 rfl ml_J5_100 rfl rfl dJ5_setLength_d00df_15 rfl rfl hl.1 (Nat.le_of_ble_eq_true rfl) ⟨Nat.le_of_ble_eq_true rfl, Nat.le_of_ble_eq_true rfl⟩ ⟨Nat.le_of_ble_eq_true rfl, Nat.le_of_ble_eq_true rfl⟩ (fun r W2 H locs hp G => ?_)
    obtain ⟨rfl, hw⟩ := hp
    have G := g_wc hw G
    refine W.eq (g2 := F0 m 18 ls []) rfl ?_
    refine lv_aload_n hx hb dJ5_setLength_d00df_18 rfl (lv_at hl 0 rfl) ?_
    refine g_get (q0 := 7) (v := .int (nI tn)) C0 G in_J4 rfl rfl 3 (by decide) fl_J5_79 (fun _ h => h) rfl dJ5_setLength_d00df_19 ?_
    refine lv_iload_n hx hb dJ5_setLength_d00df_22 rfl (lv_at hl 1 rfl) ?_
    refine lv_icmp_ge (tgt := 63) hx hb dJ5_setLength_d00df_23 (by decide) (fun c_23 => ?_) (fun c_23 => ?_)
    · skip
      have c_23 : a1 ≤ tn := (nI_leI (a := a1) (b := tn) (by omega) (by omega)).mp c_23
      refine lv_aload_n hx hb dJ5_setLength_d00df_63 rfl (lv_at hl 0 rfl) ?_
      refine g_get (q0 := 7) (v := .int (nI tn)) C0 G in_J4 rfl rfl 3 (by decide) fl_J5_79 (fun _ h => h) rfl dJ5_setLength_d00df_64 ?_
      refine lv_iload_n hx hb dJ5_setLength_d00df_67 rfl (lv_at hl 1 rfl) ?_
      refine lv_icmp_le (tgt := 76) hx hb dJ5_setLength_d00df_68 (by decide) (fun c_68 => ?_) (fun c_68 => ?_)
      · skip
        have c_68 : tn ≤ a1 := (nI_leI (a := tn) (b := a1) (by omega) (by omega)).mp c_68
        refine lv_aload_n hx hb dJ5_setLength_d00df_76 rfl (lv_at hl 0 rfl) ?_
        refine lv_iload_n hx hb dJ5_setLength_d00df_77 rfl (lv_at hl 1 rfl) ?_
        refine g_put (q0 := 7) (W2 := wC ad cy fr bk vw tk to fk fo kp sp lt ib rw cl nu tv tm ta ml a1 R) C0 G ft_J4 in_J4 rfl rfl 3 (by decide) fl_J5_79 (fun _ h => h) rfl rfl rfl (Nat.le_of_ble_eq_true rfl) rfl dJ5_setLength_d00df_78 (fun H locs G => ?_)
        exact g_vret C0 G ⟨by first | rfl | (exfalso; omega) | (simp only [c_1, c_23, c_68, Bool.false_eq_true, ↓reduceIte, eq_self, decide_true, decide_false, not_true_eq_false, not_false_eq_true, Bool.true_and, Bool.false_and, Bool.and_true, Bool.and_false]; done) | (simp [c_1, c_23, c_68]; done) | (simp [c_1, c_23, c_68]; rfl) | (simp [c_1, c_23, c_68]; omega), by first | rfl | (exfalso; omega) | (simp only [c_1, c_23, c_68, Bool.false_eq_true, ↓reduceIte, eq_self, decide_true, decide_false, not_true_eq_false, not_false_eq_true, Bool.true_and, Bool.false_and, Bool.and_true, Bool.and_false]; done) | (simp [c_1, c_23, c_68]; done) | (simp [c_1, c_23, c_68]; rfl) | (simp [c_1, c_23, c_68]; omega)⟩ dJ5_setLength_d00df_81
      · skip
        have c_68 : ¬ (tn ≤ a1) := fun h => c_68 ((nI_leI (a := tn) (b := a1) (by omega) (by omega)).mpr h)
        refine lv_aload_n hx hb dJ5_setLength_d00df_71 rfl (lv_at hl 0 rfl) ?_
        refine lv_iconst (v := 1) hx hb dJ5_setLength_d00df_72 (by decide) ?_
        refine g_put (q0 := 7) (W2 := wC ad cy fr bk vw tk to fk fo kp sp lt ib rw cl nu tv tm ta 1 tn R) C0 G ft_J4 in_J4 rfl rfl 2 (by decide) fl_J5_73 (fun _ h => h) rfl rfl rfl (Nat.le_of_ble_eq_true rfl) rfl dJ5_setLength_d00df_73 (fun H locs G => ?_)
        refine lv_aload_n hx hb dJ5_setLength_d00df_76 rfl (lv_at hl 0 rfl) ?_
        refine lv_iload_n hx hb dJ5_setLength_d00df_77 rfl (lv_at hl 1 rfl) ?_
        refine g_put (q0 := 7) (W2 := wC ad cy fr bk vw tk to fk fo kp sp lt ib rw cl nu tv tm ta 1 a1 R) C0 G ft_J4 in_J4 rfl rfl 3 (by decide) fl_J5_79 (fun _ h => h) rfl rfl rfl (Nat.le_of_ble_eq_true rfl) rfl dJ5_setLength_d00df_78 (fun H locs G => ?_)
        exact g_vret C0 G ⟨by first | rfl | (exfalso; omega) | (simp only [c_1, c_23, c_68, Bool.false_eq_true, ↓reduceIte, eq_self, decide_true, decide_false, not_true_eq_false, not_false_eq_true, Bool.true_and, Bool.false_and, Bool.and_true, Bool.and_false]; done) | (simp [c_1, c_23, c_68]; done) | (simp [c_1, c_23, c_68]; rfl) | (simp [c_1, c_23, c_68]; omega), by first | rfl | (exfalso; omega) | (simp only [c_1, c_23, c_68, Bool.false_eq_true, ↓reduceIte, eq_self, decide_true, decide_false, not_true_eq_false, not_false_eq_true, Bool.true_and, Bool.false_and, Bool.and_true, Bool.and_false]; done) | (simp [c_1, c_23, c_68]; done) | (simp [c_1, c_23, c_68]; rfl) | (simp [c_1, c_23, c_68]; omega)⟩ dJ5_setLength_d00df_81
    · skip
      have c_23 : ¬ (a1 ≤ tn) := fun h => c_23 ((nI_leI (a := a1) (b := tn) (by omega) (by omega)).mpr h)
      exact absurd h1 c_23
  · skip
    have c_1 : ¬ (0 ≤ a1) := fun h => c_1 ((nI_leI (a := 0) (b := a1) (by omega) (by omega)).mpr h)
    exact absurd (Nat.zero_le _) c_1

set_option maxHeartbeats 4000000 in
set_option maxRecDepth 100000 in
theorem c_J4_setLength_d00df (l : Launch) (D : va_G) (cy : Nat → ClassId) (ad : Nat → Nat) (fr : Nat → Int64) (bk : Nat → Int64) (vw : Nat → Nat) (tk : Int64) (to : Int64) (fk : Int64) (fo : Int64) (kp : Nat) (sp : Nat) (lt : Nat) (ib : Bool) (rw : Nat) (cl : Nat) (nu : Nat) (tv : Nat) (tm : Nat) (ta : Nat → Int32) (ml : Int32) (tn : Nat) (R : va_W) (a1 : Nat) (h1 : a1 ≤ tn) (h2 : tn ≤ tm) (h3 : tm < 2147483648) : GE l D (gts cy) yJ4_setLength_d00df cJ4_setLength_d00df 2 none 2 0 0 [.ref (ad 7), .int (nI a1)] (wC ad cy fr bk vw tk to fk fo kp sp lt ib rw cl nu tv tm ta ml tn R) (gF none (wC ad cy fr bk vw tk to fk fo kp sp lt ib rw cl nu tv tm ta (if tn ≤ a1 then ml else 1) a1 R)) := by
  refine g_intro (by decide +kernel) (lv := [(0, .ref (ad 7)), (1, .int (nI a1))]) rfl (Nat.le_of_ble_eq_true rfl) ?_
  intro p e s m below meth c C0 G ls hl
  have hx := C0.1
  have hb := C0.2.1
  have hown := C0.2.2.2.2.2.1
  have hts := C0.2.2.2.2.2.2.1
  refine lv_aload_n hx hb dJ4_setLength_d00df_0 rfl (lv_at hl 0 rfl) ?_
  refine lv_iload_n hx hb dJ4_setLength_d00df_1 rfl (lv_at hl 1 rfl) ?_
  refine g_callU (As := [.int (nI a1)]) (rest := []) (q0 := 7) C0 G (c_J5_setLength_d00df l D cy (ad := ad) (fr := fr) (bk := bk) (vw := vw) (tk := tk) (to := to) (fk := fk) (fo := fo) (kp := kp) (sp := sp) (lt := lt) (ib := ib) (rw := rw) (cl := cl) (nu := nu) (tv := tv) (tm := tm) (ta := ta) (ml := ml) (tn := tn) (R := R) (a1 := a1) (by omega) (by omega) (by omega)) ku_J5_setLength_d00df ml_J4_333 rfl rfl dJ4_setLength_d00df_2 rfl rfl hl.1 (Nat.le_of_ble_eq_true rfl) ⟨Nat.le_of_ble_eq_true rfl, Nat.le_of_ble_eq_true rfl⟩ ⟨Nat.le_of_ble_eq_true rfl, Nat.le_of_ble_eq_true rfl⟩ (fun r W2 H locs hp G => ?_)
  obtain ⟨rfl, hw⟩ := hp
  have G := g_wc hw G
  refine W.eq (g2 := F0 m 5 ls []) rfl ?_
  exact g_vret C0 G ⟨by first | rfl | (exfalso; omega) | (simp only [Bool.false_eq_true, ↓reduceIte, eq_self, decide_true, decide_false, not_true_eq_false, not_false_eq_true, Bool.true_and, Bool.false_and, Bool.and_true, Bool.and_false]; done) | (simp []; done) | (simp []; rfl) | (simp []; omega), by first | rfl | (exfalso; omega) | (simp only [Bool.false_eq_true, ↓reduceIte, eq_self, decide_true, decide_false, not_true_eq_false, not_false_eq_true, Bool.true_and, Bool.false_and, Bool.and_true, Bool.and_false]; done) | (simp []; done) | (simp []; rfl) | (simp []; omega)⟩ dJ4_setLength_d00df_5

set_option maxHeartbeats 4000000 in
set_option maxRecDepth 100000 in
theorem c_J1_canEncode_fc78d (l : Launch) (D : va_G) (cy : Nat → ClassId) (W1 : va_W) (ch : Nat) (h1 : ch < 128) : GE l D (gts cy) yJ1_canEncode_fc78d cJ1_canEncode_fc78d 1 (some .boolean) 0 0 0 [.int (nI ch)] (W1) (gF (some (.int (bI true))) (W1)) := by
  refine g_intro (by decide +kernel) (lv := [(0, .int (nI ch))]) rfl (Nat.le_of_ble_eq_true rfl) ?_
  intro p e s m below meth c C0 G ls hl
  have hx := C0.1
  have hb := C0.2.1
  have hown := C0.2.2.2.2.2.1
  have hts := C0.2.2.2.2.2.2.1
  refine lv_iload_n hx hb dJ1_canEncode_fc78d_0 rfl (lv_at hl 0 rfl) ?_
  refine lv_sipush (v := 255) hx hb dJ1_canEncode_fc78d_1 (by decide) ?_
  refine lv_icmp_gt (tgt := 11) hx hb dJ1_canEncode_fc78d_4 (by decide) (fun c_4 => ?_) (fun c_4 => ?_)
  · skip
    have c_4 : 255 < ch := (nI_ltI (a := 255) (b := ch) (by omega) (by omega)).mp c_4
    exact absurd c_4 (by omega)
  · skip
    have c_4 : ¬ (255 < ch) := fun h => c_4 ((nI_ltI (a := 255) (b := ch) (by omega) (by omega)).mpr h)
    refine lv_iconst (v := 1) hx hb dJ1_canEncode_fc78d_7 (by decide) ?_
    refine lv_goto (tgt := 12) hx hb dJ1_canEncode_fc78d_8 (by decide) ?_
    exact g_zret C0 G rfl ⟨by first | rfl | (exfalso; omega) | (simp only [c_4, Bool.false_eq_true, ↓reduceIte, eq_self, decide_true, decide_false, not_true_eq_false, not_false_eq_true, Bool.true_and, Bool.false_and, Bool.and_true, Bool.and_false]; done) | (simp [c_4]; done) | (simp [c_4]; rfl) | (simp [c_4]; omega), by first | rfl | (exfalso; omega) | (simp only [c_4, Bool.false_eq_true, ↓reduceIte, eq_self, decide_true, decide_false, not_true_eq_false, not_false_eq_true, Bool.true_and, Bool.false_and, Bool.and_true, Bool.and_false]; done) | (simp [c_4]; done) | (simp [c_4]; rfl) | (simp [c_4]; omega)⟩ dJ1_canEncode_fc78d_12

set_option maxHeartbeats 4000000 in
set_option maxRecDepth 100000 in
theorem c_J5_append_3fe6f_f (l : Launch) (D : va_G) (cy : Nat → ClassId) (ad : Nat → Nat) (fr : Nat → Int64) (bk : Nat → Int64) (vw : Nat → Nat) (tk : Int64) (to : Int64) (fk : Int64) (fo : Int64) (kp : Nat) (sp : Nat) (lt : Nat) (ib : Bool) (rw : Nat) (cl : Nat) (nu : Nat) (tv : Nat) (tm : Nat) (ta : Nat → Int32) (ml : Int32) (tn : Nat) (R : va_W) (ch : Nat) (h1 : ch < 128) (h2 : tn + 1 ≤ tm) (h3 : tm < 2147483648) : GE l D (gts cy) yJ5_append_3fe6f cJ5_append_3fe6f 2 (some (.object "java/lang/AbstractStringBuilder")) 1 0 0 [.ref (ad 7), .int (nI ch)] (wC ad cy fr bk vw tk to fk fo kp sp lt ib rw cl nu tv tm ta ml tn R) (gF (some (.ref (ad 7))) (wC ad cy fr bk vw tk to fk fo kp sp lt ib rw cl nu tv tm (upd ta tn (nI ch)) ml (tn + 1) R)) := by
  refine g_intro (by decide +kernel) (lv := [(0, .ref (ad 7)), (1, .int (nI ch))]) rfl (Nat.le_of_ble_eq_true rfl) ?_
  intro p e s m below meth c C0 G ls hl
  have hx := C0.1
  have hb := C0.2.1
  have hown := C0.2.2.2.2.2.1
  have hts := C0.2.2.2.2.2.2.1
  refine lv_aload_n hx hb dJ5_append_3fe6f_0 rfl (lv_at hl 0 rfl) ?_
  refine lv_aload_n hx hb dJ5_append_3fe6f_1 rfl (lv_at hl 0 rfl) ?_
  refine g_get (q0 := 7) (v := .int (nI tn)) C0 G in_J4 rfl rfl 3 (by decide) fl_J5_79 (fun _ h => h) rfl dJ5_append_3fe6f_2 ?_
  refine lv_iconst (v := 1) hx hb dJ5_append_3fe6f_5 (by decide) ?_
  refine lv_iadd hx hb dJ5_append_3fe6f_6 ?_
  refine g_topi (x' := nI (tn + 1)) (nI_add tn 1) ?_
  refine g_callP (As := [.int (nI (tn + 1))]) (rest := []) (q0 := 7) C0 G (c_J5_ensureCapacityInternal_d00df l D cy (ad := ad) (fr := fr) (bk := bk) (vw := vw) (tk := tk) (to := to) (fk := fk) (fo := fo) (kp := kp) (sp := sp) (lt := lt) (ib := ib) (rw := rw) (cl := cl) (nu := nu) (tv := tv) (tm := tm) (ta := ta) (ml := ml) (tn := tn) (R := R) (a1 := tn + 1) (by omega) (by omega)) kp_J5_ensureCapacityInternal_d00df kw_J5_isLatin1_aae02.1.2.1 rfl ml_J5_100 rfl rfl dJ5_append_3fe6f_7 rfl rfl hl.1 (Nat.le_of_ble_eq_true rfl) ⟨Nat.le_of_ble_eq_true rfl, Nat.le_of_ble_eq_true rfl⟩ ⟨Nat.le_of_ble_eq_true rfl, Nat.le_of_ble_eq_true rfl⟩ (fun r W2 H locs hp G => ?_)
  obtain ⟨rfl, hw⟩ := hp
  have G := g_wc hw G
  refine W.eq (g2 := F0 m 10 ls []) rfl ?_
  refine lv_aload_n hx hb dJ5_append_3fe6f_10 rfl (lv_at hl 0 rfl) ?_
  refine g_callW (As := []) (rest := []) (q0 := 7) C0 G (c_J5_isLatin1_aae02 l D cy (ad := ad) (fr := fr) (bk := bk) (vw := vw) (tk := tk) (to := to) (fk := fk) (fo := fo) (kp := kp) (sp := sp) (lt := lt) (ib := ib) (rw := rw) (cl := cl) (nu := nu) (tv := tv) (tm := tm) (ta := ta) (ml := ml) (tn := tn) (R := R)  ) kw_J5_isLatin1_aae02 ml_J5_83 rfl rfl dJ5_append_3fe6f_11 rfl rfl hl.1 (Nat.le_of_ble_eq_true rfl) ⟨Nat.le_of_ble_eq_true rfl, Nat.le_of_ble_eq_true rfl⟩ ⟨Nat.le_of_ble_eq_true rfl, Nat.le_of_ble_eq_true rfl⟩ (fun r W2 H locs hp G => ?_)
  obtain ⟨rfl, hw⟩ := hp
  have G := g_wc hw G
  refine W.eq (g2 := F0 m 14 ls [.int (bI true)]) rfl ?_
  refine lv_if_eq (tgt := 45) hx hb dJ5_append_3fe6f_14 (by decide) (fun c_14 => ?_) (fun c_14 => ?_)
  · skip
    have c_14 : true = false := bI_f c_14
    cases c_14
  · skip
    have c_14 : true = true := bI_t c_14
    refine lv_iload_n hx hb dJ5_append_3fe6f_17 rfl (lv_at hl 1 rfl) ?_
    refine g_callS (As := [.int (nI ch)]) (rest := []) C0 G (c_J1_canEncode_fc78d l D cy (W1 := wC ad cy fr bk vw tk to fk fo kp sp lt ib rw cl nu tv tm ta ml tn R) (ch := ch) (by omega)) k_J1_canEncode_fc78d ml_J5_191 dJ5_append_3fe6f_18 rfl rfl hl.1 (Nat.le_of_ble_eq_true rfl) ⟨Nat.le_of_ble_eq_true rfl, Nat.le_of_ble_eq_true rfl⟩ ⟨Nat.le_of_ble_eq_true rfl, Nat.le_of_ble_eq_true rfl⟩ (fun r W2 H locs hp G => ?_)
    obtain ⟨rfl, hw⟩ := hp
    have G := g_wc hw G
    refine W.eq (g2 := F0 m 21 ls [.int (bI true)]) rfl ?_
    refine lv_if_eq (tgt := 45) hx hb dJ5_append_3fe6f_21 (by decide) (fun c_21 => ?_) (fun c_21 => ?_)
    · skip
      have c_21 : true = false := bI_f c_21
      cases c_21
    · skip
      have c_21 : true = true := bI_t c_21
      refine lv_aload_n hx hb dJ5_append_3fe6f_24 rfl (lv_at hl 0 rfl) ?_
      refine g_get (q0 := 7) (v := .ref tv) C0 G in_J4 rfl rfl 0 (by decide) fl_J5_15 (fun _ h => h) rfl dJ5_append_3fe6f_25 ?_
      refine lv_aload_n hx hb dJ5_append_3fe6f_28 rfl (lv_at hl 0 rfl) ?_
      refine lv_dup hx hb dJ5_append_3fe6f_29 rfl ?_
      refine g_get (q0 := 7) (v := .int (nI tn)) C0 G in_J4 rfl rfl 3 (by decide) fl_J5_79 (fun _ h => h) rfl dJ5_append_3fe6f_30 ?_
      refine lv_dup_x1 hx hb dJ5_append_3fe6f_33 rfl rfl ?_
      refine lv_iconst (v := 1) hx hb dJ5_append_3fe6f_34 (by decide) ?_
      refine lv_iadd hx hb dJ5_append_3fe6f_35 ?_
      refine g_topi (x' := nI (tn + 1)) (nI_add tn 1) ?_
      refine g_put (q0 := 7) (W2 := wC ad cy fr bk vw tk to fk fo kp sp lt ib rw cl nu tv tm ta ml (tn + 1) R) C0 G ft_J4 in_J4 rfl rfl 3 (by decide) fl_J5_79 (fun _ h => h) rfl rfl rfl (Nat.le_of_ble_eq_true rfl) rfl dJ5_append_3fe6f_36 (fun H locs G => ?_)
      refine lv_iload_n hx hb dJ5_append_3fe6f_39 rfl (lv_at hl 1 rfl) ?_
      refine lv_i2b hx hb dJ5_append_3fe6f_40 rfl ?_
      refine g_topi (x' := nI ch) (i2b_s ch h1) ?_
      refine g_bast (q0 := 8) (n := tm) (W2 := wC ad cy fr bk vw tk to fk fo kp sp lt ib rw cl nu tv tm (upd ta tn (nI ch)) ml (tn + 1) R) C0 G rfl 0 rfl (vp_in_nI (n := tn) (by omega) (by omega)) (by rw [nI_clamp (n := tn) (by omega), nar_s ch (by omega)]; rfl) dJ5_append_3fe6f_41 (fun H locs G => ?_)
      refine lv_goto (tgt := 75) hx hb dJ5_append_3fe6f_42 (by decide) ?_
      refine lv_aload_n hx hb dJ5_append_3fe6f_75 rfl (lv_at hl 0 rfl) ?_
      exact g_aret C0 G (Or.inl ⟨_, rfl⟩) ⟨by first | rfl | (exfalso; omega) | (simp only [c_14, c_21, Bool.false_eq_true, ↓reduceIte, eq_self, decide_true, decide_false, not_true_eq_false, not_false_eq_true, Bool.true_and, Bool.false_and, Bool.and_true, Bool.and_false]; done) | (simp [c_14, c_21]; done) | (simp [c_14, c_21]; rfl) | (simp [c_14, c_21]; omega), by first | rfl | (exfalso; omega) | (simp only [c_14, c_21, Bool.false_eq_true, ↓reduceIte, eq_self, decide_true, decide_false, not_true_eq_false, not_false_eq_true, Bool.true_and, Bool.false_and, Bool.and_true, Bool.and_false]; done) | (simp [c_14, c_21]; done) | (simp [c_14, c_21]; rfl) | (simp [c_14, c_21]; omega)⟩ dJ5_append_3fe6f_76

set_option maxHeartbeats 4000000 in
set_option maxRecDepth 100000 in
theorem c_J4_append_cf468_f (l : Launch) (D : va_G) (cy : Nat → ClassId) (ad : Nat → Nat) (fr : Nat → Int64) (bk : Nat → Int64) (vw : Nat → Nat) (tk : Int64) (to : Int64) (fk : Int64) (fo : Int64) (kp : Nat) (sp : Nat) (lt : Nat) (ib : Bool) (rw : Nat) (cl : Nat) (nu : Nat) (tv : Nat) (tm : Nat) (ta : Nat → Int32) (ml : Int32) (tn : Nat) (R : va_W) (ch : Nat) (h1 : ch < 128) (h2 : tn + 1 ≤ tm) (h3 : tm < 2147483648) : GE l D (gts cy) yJ4_append_cf468 cJ4_append_cf468 2 (some (.object "java/lang/StringBuilder")) 2 0 0 [.ref (ad 7), .int (nI ch)] (wC ad cy fr bk vw tk to fk fo kp sp lt ib rw cl nu tv tm ta ml tn R) (gF (some (.ref (ad 7))) (wC ad cy fr bk vw tk to fk fo kp sp lt ib rw cl nu tv tm (upd ta tn (nI ch)) ml (tn + 1) R)) := by
  refine g_intro (by decide +kernel) (lv := [(0, .ref (ad 7)), (1, .int (nI ch))]) rfl (Nat.le_of_ble_eq_true rfl) ?_
  intro p e s m below meth c C0 G ls hl
  have hx := C0.1
  have hb := C0.2.1
  have hown := C0.2.2.2.2.2.1
  have hts := C0.2.2.2.2.2.2.1
  refine lv_aload_n hx hb dJ4_append_cf468_0 rfl (lv_at hl 0 rfl) ?_
  refine lv_iload_n hx hb dJ4_append_cf468_1 rfl (lv_at hl 1 rfl) ?_
  refine g_callU (As := [.int (nI ch)]) (rest := []) (q0 := 7) C0 G (c_J5_append_3fe6f_f l D cy (ad := ad) (fr := fr) (bk := bk) (vw := vw) (tk := tk) (to := to) (fk := fk) (fo := fo) (kp := kp) (sp := sp) (lt := lt) (ib := ib) (rw := rw) (cl := cl) (nu := nu) (tv := tv) (tm := tm) (ta := ta) (ml := ml) (tn := tn) (R := R) (ch := ch) (by omega) (by omega) (by omega)) ku_J5_append_3fe6f ml_J4_50 rfl rfl dJ4_append_cf468_2 rfl rfl hl.1 (Nat.le_of_ble_eq_true rfl) ⟨Nat.le_of_ble_eq_true rfl, Nat.le_of_ble_eq_true rfl⟩ ⟨Nat.le_of_ble_eq_true rfl, Nat.le_of_ble_eq_true rfl⟩ (fun r W2 H locs hp G => ?_)
  obtain ⟨rfl, hw⟩ := hp
  have G := g_wc hw G
  refine W.eq (g2 := F0 m 5 ls [.ref (ad 7)]) rfl ?_
  refine lv_pop hx hb dJ4_append_cf468_5 rfl ?_
  refine lv_aload_n hx hb dJ4_append_cf468_6 rfl (lv_at hl 0 rfl) ?_
  exact g_aret C0 G (Or.inl ⟨_, rfl⟩) ⟨by first | rfl | (exfalso; omega) | (simp only [Bool.false_eq_true, ↓reduceIte, eq_self, decide_true, decide_false, not_true_eq_false, not_false_eq_true, Bool.true_and, Bool.false_and, Bool.and_true, Bool.and_false]; done) | (simp []; done) | (simp []; rfl) | (simp []; omega), by first | rfl | (exfalso; omega) | (simp only [Bool.false_eq_true, ↓reduceIte, eq_self, decide_true, decide_false, not_true_eq_false, not_false_eq_true, Bool.true_and, Bool.false_and, Bool.and_true, Bool.and_false]; done) | (simp []; done) | (simp []; rfl) | (simp []; omega)⟩ dJ4_append_cf468_7
