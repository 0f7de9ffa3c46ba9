theorem ac_byte : Cond.arrayClass .byte ∈ gTs := (gm1 (i := 148) (by decide +kernel) rfl)
section GFF
variable {p : Program} {l : Launch} {e : Env} {R : Room} {s : State} {m : MethodId} {args : Array Value} {below : List Frame} {meth : Method} {c : Code} {H : Heap} {locs : List Loc} {cells slots : Nat} {Q : State → Prop}
variable {cc : ByteArray} {nL : Nat} {ret : Option FieldType} {own : String} {D : va_G} {ts : gY} {A : Nat → Prop} {W1 W2 : va_W} {pc : Nat} {ls : Array Slot} {rest st0 : List Value} {index q0 n a : Nat} {cA : ClassId}
/-- a new array of bytes, the world's last cell -/
theorem g_newB (C0 : gC p s m args meth c cc nL ret own D ts A) (G : gW D W1 A s H locs) (t0 : Nat) (ht : ts[t0]? = some (cA, .byte)) (harr : Cond.arrayClass .byte ∈ gTs) (hn : n < 1000) (hc : cells + 1 ≤ R.cells) (hs : slots + n ≤ R.slots) (hdg : decode cc pc = .ok (.newarray .byte, 2))
    (kk : ∀ (q : Nat) (H1 : Heap), gW D (W1 ++ [(q, .inl (cA, n, .inl (fun _ => 0)))]) A s H1 locs → W p l e R s m args below meth c H1 locs (cells + 1) (slots + n) Q (F0 m (pc + 2) ls (.ref q :: rest))) : W p l e R s m args below meth c H locs cells slots Q (F0 m pc ls (.int (nI n) :: rest)) := by
  obtain ⟨hx, hb, hml, hr, hlk, hown, hts, hK, hT, hS, hA⟩ := id C0
  refine va_newa (atype := .byte) (ty := .byte) (a0 := (n, .inl (fun _ => 0))) hx hb (hts _ harr) rfl hK G.1 G.2.1 G.2.2 hA (fun _ => rfl) (fun h => ?_) (nI_clamp (by omega)) (by show n * 1 ≤ _; omega) hc hs hdg (fun q cB H1 k1 k2 k3 k4 => ?_)
  · rw [Int32.lt_iff_toInt_lt, nI_toInt (by omega)] at h
    have : (0 : Int32).toInt = 0 := by decide
    omega
  · have e1 : s.vm.findClass ("[" ++ (FieldType.byte).toString) = some cA := (hK.2 t0 _ ht).2
    have e2 : s.vm.findClass ("[" ++ (FieldType.byte).toString) = some cB := (k1.2 ts.length (cB, .byte) (by simp)).2
    have e3 : cB = cA := Option.some.inj (e2.symm.trans e1)
    subst e3
    exact kk q H1 ⟨k2, k3, k4⟩
theorem ar_ini : Cond.initialized "java/lang/System" ∈ gTs := (gm1 (i := 22) (by decide +kernel) rfl)
theorem ar_st : Cond.static arraycopyName ∈ gTs := (gm1 (i := 238) (by decide +kernel) rfl)
theorem ar_na : Cond.native arraycopyName ∈ gTs := (gm1 (i := 239) (by decide +kernel) rfl)
theorem ar_nf : nativeFrameWords "java/lang/System" "arraycopy" 5 ≤ 30 := by decide +kernel
/-- System.arraycopy of the first n bytes, from one array to another -/
theorem g_copyB {n0 n1 q1 a0 k : Nat} {f g : Nat → Int32} (C0 : gC p s m args meth c cc nL ret own D ts A) (G : gW D W1 A s H locs) (hl : Cond.methodLink own index arraycopyName ∈ gTs) (t0 : Nat) (ht : ts[t0]? = some (cA, .byte))
    (ha0 : W1[q0]? = some (a0, .inl (cA, n0, .inl f))) (ha1 : W1[q1]? = some (a, .inl (cA, n1, .inl g))) (h4 : k ≤ n0) (h5 : k ≤ n1) (hk : k < 1000) (hfit : ∀ i, i < k → fits .byte (.int (f i)) = true) (hsz : ls.size = nL) (hcat : (rest.map fun v => v.category).sum ≤ 8) (hR : 1 ≤ R.frames ∧ 60 ≤ R.locals)
    (hw : W1.set q1 (a, .inl (cA, n1, .inl (va_cpy f g 0 0 k))) = W2) (hdg : decode cc pc = .ok (.invokestatic index, 3))
    (kk : ∀ (H1 : Heap) (locs1 : List Loc), gW D W2 A s H1 locs1 → W p l e R s m args below meth c H1 locs1 cells slots Q (F0 m (pc + 3) ls rest)) : W p l e R s m args below meth c H locs cells slots Q (F0 m pc ls (.int (nI k) :: .int 0 :: .ref a :: .int 0 :: .ref a0 :: rest)) := by
  obtain ⟨hx, hb, hml, hr, hlk, hown, hts, hK, hT, hS, hA⟩ := id C0
  have e0 : (0 : Int32).toNatClampNeg = 0 := by decide
  have ek : (nI k).toNatClampNeg = k := nI_clamp (by omega)
  have hnn : ¬ nI k < 0 := by
    intro h
    rw [Int32.lt_iff_toInt_lt, nI_toInt (by omega)] at h
    have : (0 : Int32).toInt = 0 := by decide
    omega
  have hnf := ar_nf
  refine va_copyi hx hb (hml.trans hsz.symm) hown (hts _ hl) (hts _ ar_na) (hts _ ar_st) (hts _ ar_ini) hK G.1 G.2.1 G.2.2 q0 q1 t0 t0 ha0 ha1 ht ht rfl (by decide) (by decide) hnn (by rw [e0, ek]; omega) (by rw [e0, ek]; omega) (by rw [e0, ek]; intro i hi; rw [Nat.zero_add]; exact hfit i hi) hR.1 (by omega) hdg (fun H1 locs1 g1 g2 g3 => ?_)
  rw [e0, ek] at g1 g2
  subst hw
  exact kk H1 locs1 ⟨g1, g2, g3⟩
end GFF
set_option maxHeartbeats 4000000 in
set_option maxRecDepth 100000 in
theorem c_J7_copyOf_9075b (l : Launch) (D : va_G) (cy : Nat → ClassId) (W1 : va_W) (q0 a n0 n : Nat) (f : Nat → Int32) (he : W1[q0]? = some (a, .inl (cy 0, n0, .inl f))) (h1 : n0 < n) (h2 : n < 200) (hfit : ∀ i, i < n0 → fits .byte (.int (f i)) = true) :
    GE l D (gts cy) yJ7_copyOf_9075b cJ7_copyOf_9075b 3 (some (.array .byte)) 0 1 200 [.ref a, .int (nI n)] W1 (fun r W2 => ∃ t : Nat, r = some (.ref t) ∧ W2 = W1 ++ [(t, .inl (cy 0, n, .inl (va_cpy f (fun _ => 0) 0 0 n0)))]) := by
  refine g_intro (by decide +kernel) (lv := [(0, .ref a), (1, .int (nI n))]) rfl (Nat.le_of_ble_eq_true rfl) ?_
  intro p e s m below meth c C0 G ls hl
  have hx := C0.1
  have hb := C0.2.1
  refine lv_iload_n hx hb dJ7_copyOf_9075b_0 rfl (lv_at hl 1 rfl) ?_
  refine lv_aload_n hx hb dJ7_copyOf_9075b_1 rfl (lv_at hl 0 rfl) ?_
  refine g_alen (q0 := q0) (v := nI n0) C0 G he 0 rfl rfl dJ7_copyOf_9075b_2 ?_
  refine lv_icmp_ne (tgt := 14) hx hb dJ7_copyOf_9075b_3 (by decide) (fun c_3 => ?_) (fun c_3 => ?_)
  · refine lv_iload_n hx hb dJ7_copyOf_9075b_14 rfl (lv_at hl 1 rfl) ?_
    refine g_newB C0 G 0 rfl ac_byte (by omega) (Nat.le_of_ble_eq_true rfl) (show 0 + n ≤ 200 by omega) dJ7_copyOf_9075b_15 (fun t H G => ?_)
    have hq : q0 < W1.length := (List.getElem?_eq_some_iff.mp he).1
    have he2 : (W1 ++ [(t, Sum.inl (cy 0, n, Sum.inl (fun _ => 0)))])[q0]? = some (a, .inl (cy 0, n0, .inl f)) := by rw [List.getElem?_append_left hq]; exact he
    refine lv_astore_n (lv' := [(2, .ref t), (0, .ref a), (1, .int (nI n))]) hx hb dJ7_copyOf_9075b_17 rfl hl (by decide) rfl (fun ls hl => ?_)
    refine lv_aload_n hx hb dJ7_copyOf_9075b_18 rfl (lv_at hl 1 rfl) ?_
    refine lv_iconst (v := 0) hx hb dJ7_copyOf_9075b_19 (by decide) ?_
    refine lv_aload_n hx hb dJ7_copyOf_9075b_20 rfl (lv_at hl 0 rfl) ?_
    refine lv_iconst (v := 0) hx hb dJ7_copyOf_9075b_21 (by decide) ?_
    refine lv_aload_n hx hb dJ7_copyOf_9075b_22 rfl (lv_at hl 1 rfl) ?_
    refine g_alen (q0 := q0) (v := nI n0) C0 G he2 0 rfl rfl dJ7_copyOf_9075b_23 ?_
    refine lv_iload_n hx hb dJ7_copyOf_9075b_24 rfl (lv_at hl 2 rfl) ?_
    refine g_min (x1 := n0) (x2 := n) C0 (by omega) (by omega) ml_J7_304 hl.1 (Nat.le_of_ble_eq_true rfl) ⟨Nat.le_of_ble_eq_true rfl, Nat.le_of_ble_eq_true rfl⟩ ⟨Nat.le_of_ble_eq_true rfl, show 0 + n ≤ 200 by omega⟩ dJ7_copyOf_9075b_25 ?_
    refine g_topi (x' := nI n0) (congrArg nI (if_pos (by omega))) ?_
    refine g_copyB (q0 := q0) (q1 := W1.length) (n1 := n) (g := fun _ => 0) (W2 := W1 ++ [(t, .inl (cy 0, n, .inl (va_cpy f (fun _ => 0) 0 0 n0)))]) C0 G ml_J7_150 0 rfl he2 (by simp) (Nat.le_refl _) (by omega) (by omega) hfit hl.1 (Nat.le_of_ble_eq_true rfl) ⟨Nat.le_of_ble_eq_true rfl, Nat.le_of_ble_eq_true rfl⟩ (by simp) dJ7_copyOf_9075b_28 (fun H locs G => ?_)
    refine lv_aload_n hx hb dJ7_copyOf_9075b_31 rfl (lv_at hl 0 rfl) ?_
    refine W.widen (k := 1) (n := 200) (Nat.le_of_ble_eq_true rfl) (show 0 + n ≤ 200 by omega) ?_
    exact g_aret C0 G (Or.inr ⟨_, rfl⟩) ⟨t, rfl, rfl⟩ dJ7_copyOf_9075b_32
  · exact absurd ((nI_eq (by omega) (by omega)).mp c_3) (by omega)
/-- a world's part: each of its cells is one of the greater world's, no two the same -/
theorem g_sub {D : va_G} {W1 W2 : va_W} {A : Nat → Prop} {s : State} {H : Heap} {locs : List Loc} {φ : Nat → Nat} (G : gW D W1 A s H locs) (h : ∀ k q, W2[k]? = some q → W1[φ k]? = some q) (hi : ∀ i j, φ i = φ j → i = j) : gW D W2 A s H locs :=
  ⟨fun k q hk => G.1 (φ k) q (h k q hk), ⟨fun i j p q h1 h2 e => hi i j (G.2.1.1 _ _ _ _ (h _ _ h1) (h _ _ h2) e), fun k q hk => G.2.1.2 (φ k) q (h k q hk)⟩, G.2.2⟩
/-- one cell goes, the last takes its place -/
theorem g_swapL {D : va_G} {A : Nat → Prop} {s : State} {H : Heap} {locs : List Loc} {V : va_W} {i : Nat} {x : Nat × va_E} (G : gW D (V ++ [x]) A s H locs) (hi : i < V.length) : gW D (V.set i x) A s H locs := by
  have hn : (V ++ [x])[V.length]? = some x := by simp
  refine g_sub (φ := fun k => if k = i then V.length else if k = V.length then i else k) G (fun k q hk => ?_) (fun a b h => ?_)
  · by_cases e : k = i
    · subst e
      rw [List.getElem?_set_self hi] at hk
      cases hk
      simp only [if_true]; exact hn
    · rw [List.getElem?_set_ne (fun h => e h.symm)] at hk
      have hl := (List.getElem?_eq_some_iff.mp hk).1
      simp only [e, if_false, show ¬ k = V.length by omega]
      rw [List.getElem?_append_left hl]; exact hk
  · revert h
    repeat' split
    all_goals intro h
    all_goals omega
