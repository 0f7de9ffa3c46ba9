theorem ist_J0 : Cond.instantiable RJ0 4 ∈ gTs := (gm2 (i := 104) (by decide +kernel) rfl)
theorem ist_Jx00060 : Cond.instantiable RJx00060 6 ∈ gTs := (gm3 (i := 10) (by decide +kernel) rfl)
theorem ist_Jx7c733 : Cond.instantiable RJx7c733 6 ∈ gTs := (gm1 (i := 187) (by decide +kernel) rfl)
/-! the law's start: the classes, the words, the statics -/
theorem ar_kn {ty : FieldType} {s : State} {args : Array Value} (h : (Cond.arrayClass ty).before args s = true) : ∃ cA, ArrOfT s cA ty ∧ s.vm.findClass ("[" ++ ty.toString) = some cA := by
  obtain ⟨cA, kA, comp, h1, h2, h3⟩ := Cond.arrayClass_spec h
  exact ⟨cA, fun n z => ⟨fun k h => (by cases h), kA, h2, comp, h3⟩, h1⟩
theorem ar_kq {C : String} {s : State} {args : Array Value} (h : (Cond.arrayOver (.object C)).before args s = true) : ∃ cA, ArrOfT s cA (.object C) ∧ va_RA s cA (.object C) := by
  obtain ⟨comp, c, k, h1, h2, h3, h4, h5⟩ := Cond.arrayOver_spec h
  exact ⟨c, fun n z => ⟨fun k h => (by cases h), k, h3, comp, h4⟩, k, comp, h3, h4, h1, h5⟩
theorem lw_hao {s : State} {args : Array Value} (hts : ∀ w ∈ lw_tbl, w.before args s = true) : (Cond.arrayOver (.object "MirrorCards$Card")).before args s = true := hts _ (gt1 (i := 36) (by decide +kernel))
theorem lw_known {s : State} {args : Array Value} (hts : ∀ w ∈ lw_tbl, w.before args s = true) : ∃ (D : va_G) (cy : Nat → ClassId), va_K D vwCl (gts cy) s := by
  have hg : ∀ w ∈ gTs, w.before args s = true := fun w hw => hts w (gTs_in w hw)
  obtain ⟨c0, i0, k0⟩ := u_known (C := RJ0) (T := TJ0) (N := 4) (n := 4) hg in_J0 (hg _ ist_J0)
  obtain ⟨c1, i1, k1⟩ := u_known (C := RJ4) (T := TJ4) (N := 4) (n := 4) hg in_J4 (hg _ ist_J4)
  obtain ⟨c2, i2, k2⟩ := u_known (C := RJx00060) (T := TJx00060) (N := 6) (n := 6) hg in_Jx00060 (hg _ ist_Jx00060)
  obtain ⟨c3, i3, k3⟩ := u_known (C := RJx7c733) (T := TJx7c733) (N := 6) (n := 6) hg in_Jx7c733 (hg _ ist_Jx7c733)
  obtain ⟨c4, i4, k4⟩ := u_known (C := RX0) (T := TX0) (N := 3) (n := 3) hg in_X0 (hg _ ist_X0)
  obtain ⟨c5, i5, k5⟩ := u_known (C := RX1) (T := TX1) (N := 2) (n := 2) hg in_X1 (hg _ ist_X1)
  obtain ⟨c6, i6, k6⟩ := u_known (C := RX2) (T := TX2) (N := 6) (n := 6) hg in_X2 (hg _ ist_X2)
  obtain ⟨c7, i7, k7⟩ := u_known (C := RX3) (T := TX3) (N := 2) (n := 2) hg in_X3 (hg _ ist_X3)
  obtain ⟨c8, i8, k8⟩ := u_known (C := RX4) (T := TX4) (N := 6) (n := 6) hg in_X4 (hg _ ist_X4)
  obtain ⟨c9, i9, k9⟩ := u_known (C := RX5) (T := TX5) (N := 12) (n := 12) hg in_X5 (hg _ ist_X5)
  obtain ⟨aB, rB, sB⟩ := ar_kn (hg _ ac_byte)
  obtain ⟨aI, rI, sI⟩ := ar_kn (hg _ ac_int)
  obtain ⟨aL, rL, sL⟩ := ar_kn (hg _ ac_long)
  obtain ⟨aD, rD, sD⟩ := ar_kn (hg _ ac_double)
  obtain ⟨aO, rO, sO⟩ := ar_kq (lw_hao hts)
  refine ⟨(fun k => [c0, c1, c2, c3, c4, c5, c6, c7, c8, c9].getD k c0, fun k => [i0, i1, i2, i3, i4, i5, i6, i7, i8, i9].getD k i0), fun k => [aB, aI, aL, aD, aO].getD k aB, fun k q hq => ?_, fun k q hq => ?_⟩
  · match k, hq with
    | 0, hq => cases hq; exact k0
    | 1, hq => cases hq; exact k1
    | 2, hq => cases hq; exact k2
    | 3, hq => cases hq; exact k3
    | 4, hq => cases hq; exact k4
    | 5, hq => cases hq; exact k5
    | 6, hq => cases hq; exact k6
    | 7, hq => cases hq; exact k7
    | 8, hq => cases hq; exact k8
    | 9, hq => cases hq; exact k9
    | k + 10, hq => simp [vwCl] at hq
  · match k, hq with
    | 0, hq => cases hq; exact ⟨rB, sB⟩
    | 1, hq => cases hq; exact ⟨rI, sI⟩
    | 2, hq => cases hq; exact ⟨rL, sL⟩
    | 3, hq => cases hq; exact ⟨rD, sD⟩
    | 4, hq => cases hq; exact ⟨rO, sO⟩
    | k + 5, hq => simp [gts] at hq
theorem lw_srs : ∀ q ∈ gSR, Cond.stringRef RX4 q.1 q.2 ∈ lw_tbl := by
  show ∀ q ∈ [(263, "there is no such card"), (271, "rows with values are 0 to 6"), (57, "a value is 0 to 127"), (68, "a cell of the row is not blank"), (83, "the card can't be closed"), (105, "a card is not copied onto itself"), (269, "rows and columns are 0 to 7"), (137, "there is a hole"), (147, "there is no hole"), (149, "a view is 0 to 3"), (173, "a kind is 0 to 3"), (195, "the index is negative"), (210, "a character code is 33 to 126"), (215, "the buffer is full"), (230, "the buffer is not a complete work text"), (239, "no state is saved")], Cond.stringRef RX4 q.1 q.2 ∈ lw_tbl
  exact (List.forall_mem_cons.mpr ⟨gt4 (i := 13) (by decide +kernel), (List.forall_mem_cons.mpr ⟨gt4 (i := 20) (by decide +kernel), (List.forall_mem_cons.mpr ⟨gt4 (i := 22) (by decide +kernel), (List.forall_mem_cons.mpr ⟨gt4 (i := 38) (by decide +kernel), (List.forall_mem_cons.mpr ⟨gt4 (i := 87) (by decide +kernel), (List.forall_mem_cons.mpr ⟨gt4 (i := 113) (by decide +kernel), (List.forall_mem_cons.mpr ⟨gt4 (i := 128) (by decide +kernel), (List.forall_mem_cons.mpr ⟨gt4 (i := 132) (by decide +kernel), (List.forall_mem_cons.mpr ⟨gt4 (i := 141) (by decide +kernel), (List.forall_mem_cons.mpr ⟨gt4 (i := 149) (by decide +kernel), (List.forall_mem_cons.mpr ⟨gt4 (i := 193) (by decide +kernel), (List.forall_mem_cons.mpr ⟨gt4 (i := 229) (by decide +kernel), (List.forall_mem_cons.mpr ⟨gt5 (i := 30) (by decide +kernel), (List.forall_mem_cons.mpr ⟨gt5 (i := 31) (by decide +kernel), (List.forall_mem_cons.mpr ⟨gt5 (i := 60) (by decide +kernel), (List.forall_mem_cons.mpr ⟨gt5 (i := 90) (by decide +kernel), (List.forall_mem_nil _)⟩)⟩)⟩)⟩)⟩)⟩)⟩)⟩)⟩)⟩)⟩)⟩)⟩)⟩)⟩)⟩)
theorem lw_gT {s : State} {args : Array Value} (hts : ∀ w ∈ lw_tbl, w.before args s = true) (hgv : (Jvm.Cond.and given_1 narrow_1).before args s = true) {cc : ClassId} (hfc : s.vm.findClass RX4 = some cc) : gT s := by
  have hs := flat_of_before _ hgv
  refine ⟨fun w hw => va_Nw.of (gN_tab hw) (hts w (gN_in w hw)), fun q hq => ?_, fun q hq => ?_⟩
  · simp only [gNc, List.mem_cons, List.not_mem_nil, or_false] at hq
    rcases hq with rfl | rfl | rfl | rfl | rfl | rfl
    · exact va_Nc.of (hs (.not (.castable "java/lang/IllegalArgumentException" "java/lang/IndexOutOfBoundsException")) (by decide +kernel))
    · exact va_Nc.of (hs (.not (.castable "java/lang/IllegalStateException" "java/lang/IndexOutOfBoundsException")) (by decide +kernel))
    · exact va_Nc.of (hs (.not (.castable "java/lang/IndexOutOfBoundsException" "java/lang/IllegalArgumentException")) (by decide +kernel))
    · exact va_Nc.of (hs (.not (.castable "java/lang/IllegalStateException" "java/lang/IllegalArgumentException")) (by decide +kernel))
    · exact va_Nc.of (hs (.not (.castable "java/lang/IndexOutOfBoundsException" "java/lang/IllegalStateException")) (by decide +kernel))
    · exact va_Nc.of (hs (.not (.castable "java/lang/IllegalArgumentException" "java/lang/IllegalStateException")) (by decide +kernel))
  · have h := hts _ (lw_srs q hq)
    obtain ⟨-, -, -, a, -, -, -, -, -, hev⟩ := Cond.stringRef_spec (first := s) (o := none) (idx := []) hfc h
    exact ⟨a, vk_R.of h hev⟩
theorem lw_gS {s : State} {args : Array Value} (hts : ∀ w ∈ lw_tbl, w.before args s = true) (hgv : (Jvm.Cond.and given_1 narrow_1).before args s = true) : gS (fun q : Nat => s.heap.size ≤ q) s s.heap := by
  have hs := flat_of_before _ hgv
  have hA : ∀ a : Nat, a < s.heap.size → ¬ (fun q : Nat => s.heap.size ≤ q) a := fun a h => Nat.not_le.mpr h
  exact ⟨vx_Zqof (hts _ (gt2 (i := 155) (by decide +kernel))) (hts _ (gTs_in _ (gm1 (i := 11) (by decide +kernel) rfl))) (hs (.isRef (.static Bundle.tN "UNASSIGNED_STACK" Bundle.steD)) (by decide +kernel)) hA, vx_Zqof (hts _ (gt2 (i := 157) (by decide +kernel))) (hts _ (gTs_in _ (gm1 (i := 11) (by decide +kernel) rfl))) (hs (.isRef (.static Bundle.tN "SUPPRESSED_SENTINEL" Bundle.listD)) (by decide +kernel)) hA,
    va_Zof (hts _ (gt1 (i := 126) (by decide +kernel))) (hts _ (gTs_in _ (gm1 (i := 8) (by decide +kernel) rfl))) (va_eqi (hs (.eq (.static "java/lang/String" "COMPACT_STRINGS" "Z") (.int 1)) (by decide +kernel))) hA, va_Zqof (hts _ (gt2 (i := 18) (by decide +kernel))) (hts _ (gTs_in _ (gm1 (i := 24) (by decide +kernel) rfl))) (hs (.isRef (.static "jdk/internal/util/Preconditions" "SIOOBE_FORMATTER" "Ljava/util/function/BiFunction;")) (by decide +kernel)) hA⟩
theorem and31 (p : Int32) : ∃ n, n < 32 ∧ p &&& 31 = nI n := by
  refine ⟨(p &&& 31).toBitVec.toNat, ?_, ?_⟩
  · rw [Int32.toBitVec_and, BitVec.toNat_and]
    have h : p.toBitVec.toNat &&& (31 : Int32).toBitVec.toNat ≤ (31 : Int32).toBitVec.toNat := Nat.and_le_right
    have h2 : (31 : Int32).toBitVec.toNat = 31 := by decide
    omega
  · apply Int32.toBitVec_inj.mp
    show _ = BitVec.ofNat 32 _
    simp
theorem lw_sub4 {L li : Nat} (hL : L < 2147483648) (hli : li < 2147483648) : nI L - 4 < nI li ↔ L < li + 4 := by
  rw [Int32.lt_iff_toInt_lt, Int32.toInt_sub, nI_toInt (by omega), nI_toInt (by omega)]
  have h4 : (4 : Int32).toInt = 4 := by decide
  rw [h4, Int.bmod_def]
  split <;> omega
theorem pm_st {α : Type} (X M : List α) (o1 o2 : α) : (o2 :: o1 :: (M ++ X)).Perm (X ++ (o1 :: o2 :: M)) := (List.Perm.swap o1 o2 (M ++ X)).trans (List.perm_append_comm (l₁ := o1 :: o2 :: M) (l₂ := X))
theorem lwI_locs {D : va_G} {A : Nat → Prop} {s : State} {cy : Nat → ClassId} {ad am : Nat → Nat} {ou od : Nat} {H : Heap} {locs : List Loc} (I : lwI D A s cy ad am ou od H locs) : ∀ q ∈ locs, A q.base := by
  obtain ⟨fr, bk, vw, tk, to, fk, fo, kp, sp, lt, ib, rw, cl, nu, tv, tm, ta, ml, tn, mf, mb, mv, kn, on, th, X, ap, le, fc, f1, f2, ha, og, oh, tx, hF, hT, hR, G⟩ := I
  exact G.2.2.2.2
section LWG
variable {p : Program} {l : Launch} {e : Env} {R : Room} {s : State} {m : MethodId} {args : Array Value} {below : List Frame} {meth : Method} {c : Code} {H : Heap} {locs : List Loc} {cells slots : Nat} {Q : State → Prop}
variable {cc : ByteArray} {nL : Nat} {ret : Option FieldType} {own : String} {D : va_G} {ts : gY} {A : Nat → Prop} {W1 W2 : va_W} {pc : Nat} {ls : Array Slot} {rest st0 : List Value} {n : Nat} {cA : ClassId}
theorem g_newL (C0 : gC p s m args meth c cc nL ret own D ts A) (G : gW D W1 A s H locs) (t0 : Nat) (ht : ts[t0]? = some (cA, .long)) {i : Int32} (hi : i = nI n) (hn : n < 1000) (hc : cells + 1 ≤ R.cells) (hs : slots + n ≤ R.slots) (hdg : decode cc pc = .ok (.newarray .long, 2))
    (kk : ∀ (q : Nat) (H1 : Heap), gW D ((q, .inl (cA, n, .inr (.inl (fun _ => 0)))) :: W1) A s H1 locs → W p l e R s m args below meth c H1 locs (cells + 1) (slots + n) Q (F0 m (pc + 2) ls (.ref q :: rest))) : W p l e R s m args below meth c H locs cells slots Q (F0 m pc ls (.int i :: rest)) := by
  obtain ⟨hx, hb, hml, hr, hlk, hown, hts, hK, hT, hS, hA⟩ := id C0
  subst hi
  refine va_newa (atype := .long) (ty := .long) (a0 := (n, .inr (.inl (fun _ => 0)))) hx hb (hts _ ac_long) rfl hK G.1 G.2.1 G.2.2 hA (fun cA => rfl) (fun h => ?_) (nI_clamp (by omega)) (by show n * 8 ≤ _; omega) hc hs hdg (fun q cB H1 k1 k2 k3 k4 => ?_)
  · rw [Int32.lt_iff_toInt_lt, nI_toInt (by omega)] at h
    have : (0 : Int32).toInt = 0 := by decide
    omega
  · have e1 : s.vm.findClass ("[" ++ (FieldType.long).toString) = some cA := (hK.2 t0 _ ht).2
    have e2 : s.vm.findClass ("[" ++ (FieldType.long).toString) = some cB := (k1.2 ts.length (cB, .long) (by simp)).2
    have e3 : cB = cA := Option.some.inj (e2.symm.trans e1)
    subst e3
    exact kk q H1 (g_front ⟨k2, k3, k4⟩)
theorem g_newD (C0 : gC p s m args meth c cc nL ret own D ts A) (G : gW D W1 A s H locs) (t0 : Nat) (ht : ts[t0]? = some (cA, .double)) {i : Int32} (hi : i = nI n) (hn : n < 1000) (hc : cells + 1 ≤ R.cells) (hs : slots + n ≤ R.slots) (hdg : decode cc pc = .ok (.newarray .double, 2))
    (kk : ∀ (q : Nat) (H1 : Heap), gW D ((q, .inl (cA, n, .inr (.inr (.inr (.inl (fun _ => 0)))))) :: W1) A s H1 locs → W p l e R s m args below meth c H1 locs (cells + 1) (slots + n) Q (F0 m (pc + 2) ls (.ref q :: rest))) : W p l e R s m args below meth c H locs cells slots Q (F0 m pc ls (.int i :: rest)) := by
  obtain ⟨hx, hb, hml, hr, hlk, hown, hts, hK, hT, hS, hA⟩ := id C0
  subst hi
  refine va_newa (atype := .double) (ty := .double) (a0 := (n, .inr (.inr (.inr (.inl (fun _ => 0)))))) hx hb (hts _ ac_double) rfl hK G.1 G.2.1 G.2.2 hA (fun cA => rfl) (fun h => ?_) (nI_clamp (by omega)) (by show n * 8 ≤ _; omega) hc hs hdg (fun q cB H1 k1 k2 k3 k4 => ?_)
  · rw [Int32.lt_iff_toInt_lt, nI_toInt (by omega)] at h
    have : (0 : Int32).toInt = 0 := by decide
    omega
  · have e1 : s.vm.findClass ("[" ++ (FieldType.double).toString) = some cA := (hK.2 t0 _ ht).2
    have e2 : s.vm.findClass ("[" ++ (FieldType.double).toString) = some cB := (k1.2 ts.length (cB, .double) (by simp)).2
    have e3 : cB = cA := Option.some.inj (e2.symm.trans e1)
    subst e3
    exact kk q H1 (g_front ⟨k2, k3, k4⟩)
end LWG
theorem lwF_0 : lwF 0 (fun _ => 0) (fun _ => 0) (fun _ => 0) m0F m0B m0V := by
  refine ⟨by decide, fun z hz => ?_⟩
  rcases (show z = 0 ∨ z = 1 ∨ z = 2 by omega) with rfl | rfl | rfl
  · exact ⟨rfl, rfl, rfl, by decide⟩
  · exact ⟨rfl, rfl, rfl, by decide⟩
  · exact ⟨rfl, rfl, rfl, by decide⟩
theorem lwT_i : lwT 16 0 (fun _ => 0) (fun _ => 0) (fun _ => 0) := ⟨Or.inl rfl, by decide, by decide, fun i _ => fit_u 0 (by decide), fun j hj => absurd hj (Nat.not_lt_zero _)⟩
theorem biF_0 (p : Nat) (hp : p < 64) : (0 : Int32) = biF (-1) 0 p := by
  unfold biF biI
  rw [tb_m1 p hp, tb_0]; rfl
