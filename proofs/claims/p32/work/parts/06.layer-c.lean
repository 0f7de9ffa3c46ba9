/-! worlds in another order, one cell of a world, loops, small numbers -/
theorem g_perm {α : Type} : ∀ (W : List α) (i : Nat) (q : α), W[i]? = some q → (q :: W.eraseIdx i).Perm W
  | [], i, q, h => by simp at h
  | a :: l, 0, q, h => by
    rw [List.getElem?_cons_zero] at h
    cases h
    exact List.Perm.refl _
  | a :: l, i + 1, q, h => by
    rw [List.getElem?_cons_succ] at h
    exact (List.Perm.swap a q _).trans ((g_perm l i q h).cons a)
theorem g_permS {α : Type} : ∀ (W : List α) (i : Nat) (q q' : α), W[i]? = some q → (q' :: W.eraseIdx i).Perm (W.set i q')
  | [], i, q, q', h => by simp at h
  | a :: l, 0, q, q', h => List.Perm.refl _
  | a :: l, i + 1, q, q', h => by
    rw [List.getElem?_cons_succ] at h
    exact (List.Perm.swap a q' _).trans ((g_permS l i q q' h).cons a)
theorem gP_perm {D : va_G} {cl : List vw_C} {W V : va_W} {H : Heap} (hp : W.Perm V) (h : va_P D cl W H) : va_P D cl V H := by
  intro k q hk
  obtain ⟨j, hj⟩ := List.getElem?_of_mem (hp.mem_iff.mpr (List.mem_of_getElem? hk))
  exact h j q hj
theorem gA_perm {W V : va_W} (hp : W.Perm V) {sz q : Nat} (h : va_A W sz q) : va_A V sz q := by
  rcases h with ⟨k, e, h⟩ | h
  · obtain ⟨j, hj⟩ := List.getElem?_of_mem (hp.mem_iff.mp (List.mem_of_getElem? h))
    exact Or.inl ⟨j, e, hj⟩
  · exact Or.inr h
theorem gA_permE {W V : va_W} (hp : W.Perm V) (sz : Nat) : va_A W sz = va_A V sz := funext fun _ => propext ⟨gA_perm hp, gA_perm hp.symm⟩
theorem gD_nd {A : Nat → Prop} {W : va_W} : va_D A W ↔ (W.map (fun q => q.1)).Nodup ∧ ∀ q ∈ W, A q.1 := by
  constructor
  · intro h
    refine ⟨?_, fun q hq => ?_⟩
    · rw [List.nodup_iff_pairwise_ne, List.pairwise_iff_getElem]
      intro i j hi hj hij he
      rw [List.length_map] at hi hj
      rw [List.getElem_map, List.getElem_map] at he
      have := h.1 i j _ _ (List.getElem?_eq_getElem hi) (List.getElem?_eq_getElem hj) he
      omega
    · obtain ⟨j, hj⟩ := List.getElem?_of_mem hq
      exact h.2 j q hj
  · rintro ⟨h1, h2⟩
    refine ⟨fun i j p q hi hj he => ?_, fun k q hk => h2 q (List.mem_of_getElem? hk)⟩
    rw [List.nodup_iff_pairwise_ne, List.pairwise_iff_getElem] at h1
    obtain ⟨hi', hi⟩ := List.getElem?_eq_some_iff.mp hi
    obtain ⟨hj', hj⟩ := List.getElem?_eq_some_iff.mp hj
    rcases Nat.lt_trichotomy i j with h | h | h
    · exact absurd (by rw [List.getElem_map, List.getElem_map, hi, hj]; exact he) (h1 i j (by rw [List.length_map]; exact hi') (by rw [List.length_map]; exact hj') h)
    · exact h
    · exact absurd (by rw [List.getElem_map, List.getElem_map, hi, hj]; exact he.symm) (h1 j i (by rw [List.length_map]; exact hj') (by rw [List.length_map]; exact hi') h)
theorem gD_perm {A : Nat → Prop} {W V : va_W} (hp : W.Perm V) (h : va_D A W) : va_D A V := by
  obtain ⟨h1, h2⟩ := gD_nd.mp h
  exact gD_nd.mpr ⟨(hp.map _).nodup h1, fun q hq => h2 q (hp.mem_iff.mpr hq)⟩
section GV
variable {l : Launch} {D : va_G} {ts : gY} {y : MethodName} {cc : ByteArray} {maxL : Nat} {ret : Option FieldType} {L mc ms : Nat} {av : List Value} {W1 V1 : va_W}
theorem GE.perm {post post' : Option Value → va_W → Prop} (hp : V1.Perm W1) (hpost : ∀ r V2, post r V2 → ∃ W2, post' r W2 ∧ V2.Perm W2) (h : GE l D ts y cc maxL ret L mc ms av V1 post) : GE l D ts y cc maxL ret L mc ms av W1 post' := by
  intro sz p e ha hc hk s m args below hf happ hP hX
  have hA : va_A V1 sz = va_A W1 sz := gA_permE hp sz
  have hP' : va_Pc av (gP D ts V1 sz) args s := by
    obtain ⟨h0, h1, h2, h3, h4, h5, h6⟩ := hP
    exact ⟨h0, h1, gP_perm hp.symm h2, h3, gD_perm hp.symm h4, h5, by rw [hA]; exact h6⟩
  obtain ⟨t, o, a1, a2, a3, ⟨⟨⟨r, V2, b1, b2, b3, b4⟩, b5⟩, b6⟩⟩ := h sz p e ha hc hk s m args below hf happ hP' hX
  obtain ⟨W2, c1, c2⟩ := hpost r V2 b2
  rw [hA] at b4 b5 b6
  exact ⟨t, o, a1, a2, a3, ⟨⟨⟨r, W2, b1, c1, gP_perm c2 b3, gD_perm c2 b4⟩, b5⟩, b6⟩⟩
/-- a contract of one cell, at a cell of a world -/
theorem GE.at {i : Nat} {q q' : Nat × va_E} {r : Option Value} (hi : W1[i]? = some q) (h : ∀ R : va_W, GE l D ts y cc maxL ret L mc ms av (q :: R) (gF r (q' :: R))) : GE l D ts y cc maxL ret L mc ms av W1 (gF r (W1.set i q')) :=
  GE.perm (g_perm W1 i q hi) (fun r' V2 h2 => ⟨W1.set i q', ⟨h2.1, rfl⟩, by rw [h2.2]; exact g_permS W1 i q q' hi⟩) (h (W1.eraseIdx i))
theorem g_wc {A : Nat → Prop} {s : State} {H : Heap} {locs : List Loc} (h : W1 = V1) (G : gW D W1 A s H locs) : gW D V1 A s H locs := h ▸ G
end GV
section GLP
variable {p : Program} {l : Launch} {e : Env} {R : Room} {s : State} {m : MethodId} {args : Array Value} {below : List Frame} {meth : Method} {c : Code} {H : Heap} {locs : List Loc} {cells slots : Nat} {Q : State → Prop}
variable {D : va_G} {A : Nat → Prop} {pc nL : Nat} {ls : Array Slot} {rest : List Value}
theorem g_loop {σ : Type} (μ : σ → Nat) (Wf : σ → va_W) (lvf : σ → List (Nat × Value)) (I : σ → Prop)
    (step : ∀ x, I x → (∀ x', I x' → μ x' < μ x → ∀ (H : Heap) (locs : List Loc) (ls : Array Slot), gW D (Wf x') A s H locs → lv_has ls nL (lvf x') → W p l e R s m args below meth c H locs cells slots Q (F0 m pc ls [])) → ∀ (H : Heap) (locs : List Loc) (ls : Array Slot), gW D (Wf x) A s H locs → lv_has ls nL (lvf x) → W p l e R s m args below meth c H locs cells slots Q (F0 m pc ls []))
    (x0 : σ) (h0 : I x0) (G : gW D (Wf x0) A s H locs) (hl : lv_has ls nL (lvf x0)) : W p l e R s m args below meth c H locs cells slots Q (F0 m pc ls []) := by
  have key : ∀ n x, μ x < n → I x → ∀ (H : Heap) (locs : List Loc) (ls : Array Slot), gW D (Wf x) A s H locs → lv_has ls nL (lvf x) → W p l e R s m args below meth c H locs cells slots Q (F0 m pc ls []) := by
    intro n
    induction n with
    | zero => intro x h; exact absurd h (Nat.not_lt_zero _)
    | succ n ih => intro x h hx; exact step x hx (fun x' hx' hm => ih x' (by omega) hx')
  exact key (μ x0 + 1) x0 (Nat.lt_succ_self _) h0 H locs ls G hl
theorem g_topi {x x' : Int32} (h : x = x') (k : W p l e R s m args below meth c H locs cells slots Q (F0 m pc ls (.int x' :: rest))) : W p l e R s m args below meth c H locs cells slots Q (F0 m pc ls (.int x :: rest)) := by rw [h]; exact k
theorem g_topl {x x' : Int64} (h : x = x') (k : W p l e R s m args below meth c H locs cells slots Q (F0 m pc ls (.long x' :: rest))) : W p l e R s m args below meth c H locs cells slots Q (F0 m pc ls (.long x :: rest)) := by rw [h]; exact k
theorem g_topv {x x' : Value} (h : x = x') (k : W p l e R s m args below meth c H locs cells slots Q (F0 m pc ls (x' :: rest))) : W p l e R s m args below meth c H locs cells slots Q (F0 m pc ls (x :: rest)) := by rw [h]; exact k
end GLP
/-- a boolean as an int -/
def bI (b : Bool) : Int32 := if b then 1 else 0
theorem bI_f {b : Bool} (h : bI b = 0) : b = false := by cases b <;> first | rfl | exact absurd h (by decide)
theorem bI_t {b : Bool} (h : ¬ bI b = 0) : b = true := by cases b <;> first | rfl | exact absurd rfl h
theorem bI_t1 {b : Bool} (h : bI b = 1) : b = true := by cases b <;> first | rfl | exact absurd h (by decide)
theorem bI_f1 {b : Bool} (h : ¬ bI b = 1) : b = false := by cases b <;> first | rfl | exact absurd rfl h
theorem g_nz (b : Bool) : narrow .boolean (.int (bI b)) = .int (bI b) := by cases b <;> rfl
theorem g_fz (b : Bool) : fits .boolean (.int (bI b)) = true := by cases b <;> rfl
theorem g_lkd {n : Nat} {ps : List (Int × Int)} {d : Int} (hn : n < 2147483648) (_ : True) (h : ∀ q ∈ ps, ¬ (n : Int) = q.1) : Op.lookupswitch.offset ps d (nI n).toInt = d := by
  rw [nI_toInt (by omega)]
  induction ps with
  | nil => rfl
  | cons a r ih =>
    obtain ⟨a1, a2⟩ := a
    have h1 : ¬ (n : Int) = a1 := h (a1, a2) List.mem_cons_self
    have h2 := ih (fun q hq => h q (List.mem_cons_of_mem _ hq))
    simp only [Op.lookupswitch.offset]
    first | (rw [if_neg h1]; exact h2) | (split <;> simp_all)
abbrev gts (cy : Nat → ClassId) : gY := [(cy 0, .byte), (cy 4, .object "MirrorCards$Card")]
theorem ft_X0 : gFT TX0 3 tyX0 := ⟨tyX0_ok, nmX0⟩
theorem ft_X1 : gFT TX1 2 tyX1 := ⟨tyX1_ok, nmX1⟩
theorem ft_X2 : gFT TX2 6 tyX2 := ⟨tyX2_ok, nmX2⟩
theorem ft_X3 : gFT TX3 2 tyX3 := ⟨tyX3_ok, nmX3⟩
theorem ft_X4 : gFT TX4 6 tyX4 := ⟨tyX4_ok, nmX4⟩
