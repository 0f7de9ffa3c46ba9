theorem gN_tab {w : Cond} (h : w ∈ gN) : w.onTables = true := gWk_tab (List.all_eq_true.mp gN_wk w h)
/-! the law's script: a call that reads it -/
def gPX (D : va_G) (ts : gY) (W1 : va_W) (sz b L : Nat) (xs : Nat → Int32) (U : State) : Prop := gP D ts W1 sz U ∧ va_X b L xs U U.heap ∧ b < U.heap.size ∧ ¬ va_A W1 sz b
theorem gPX_blind {D : va_G} {ts : gY} {W1 : va_W} {sz b L : Nat} {xs : Nat → Int32} {av : List Value} : FrameBlind (va_Pc av (gPX D ts W1 sz b L xs)) := by
  intro a U g mk h
  obtain ⟨h0, h1, h2, h3, h4⟩ := h
  exact ⟨h0, (gP_blind (av := av) a U g mk ⟨h0, h1⟩).2, va_X.moved (u := U) (U := U.calling g mk a) (Vm.Alike.refl U.vm) h2, h3, h4⟩
set_option maxRecDepth 100000 in
theorem c_L_cell (l : Launch) (D : va_G) (cy : Nat → ClassId) (W1 : va_W) (b L : Nat) (xs : Nat → Int32) (k : Nat) (hL : L ≤ 1000) (hk : k < 1000) : ∀ sz : Nat, Met l yL_cell (gws yL_cell cL_cell 2 (some .int)) (gR 0 0 0) (va_Pc [.ref b, .int (nI k)] (gPX D (gts cy) W1 sz b L xs)) (gQ D (fun r W2 => ∃ v : Int32, r = some (.int v) ∧ W2 = W1) (va_A W1 sz)) 0 0 (va_A W1 sz) := by
  intro sz
  refine Met.ofW (cc := cL_cell) (maxL := 2) (ret := (some .int)) (by decide +kernel) rfl ?_
  intro p e s m args below meth c s₁ B hml hv
  obtain ⟨rfl, hv, hX, hbl, hbA⟩ := hv
  have C0 := g_C B hml (fun w hw => List.mem_cons_of_mem _ hw) hv
  obtain ⟨rfl, h1, h2, h3, h4, h5⟩ := hv
  rw [lg_entry_eq]
  have hl := lv_entry ([.ref b, .int (nI k)]) (n := 2) (Nat.le_of_ble_eq_true rfl)
  generalize (lg_sl ([.ref b, .int (nI k)]) ++ List.replicate (2 - (lg_sl ([.ref b, .int (nI k)])).length) Slot.unset).toArray = ls at hl ⊢
  have hl : lv_has ls 2 [(0, .ref b), (1, .int (nI k))] := hl
  have G : gW D W1 (va_A W1 s.heap.size) s s.heap [] := ⟨h1, h3.self, va_S.rf⟩
  have hx := C0.1
  have hb := C0.2.1
  have hown := C0.2.2.2.2.2.1
  have hts := C0.2.2.2.2.2.2.1
  refine lv_iload_n hx hb dL_cell_0 rfl (lv_at hl 1 rfl) ?_
  refine lv_aload_n hx hb dL_cell_1 rfl (lv_at hl 0 rfl) ?_
  refine va_slen hx hb hX hbl hbA G.2.2 dL_cell_2 ?_
  refine lv_icmp_ge (tgt := 12) hx hb dL_cell_3 (by decide) (fun c_3 => ?_) (fun c_3 => ?_)
  · refine lv_ldc (v := 1812433253) hx hb hown (hts _ ki_L_7) dL_cell_12 ?_
    refine lv_iload_n hx hb dL_cell_14 rfl (lv_at hl 1 rfl) ?_
    refine lv_sipush (v := 317) hx hb dL_cell_15 (by decide) ?_
    refine lv_iadd hx hb dL_cell_18 ?_
    refine lv_imul hx hb dL_cell_19 ?_
    exact g_iret C0 G ⟨_, rfl, rfl⟩ dL_cell_20
  · have c_3 : ¬ L ≤ k := fun h => c_3 ((nI_leI (a := L) (b := k) (by omega) (by omega)).mpr h)
    refine lv_aload_n hx hb dL_cell_6 rfl (lv_at hl 0 rfl) ?_
    refine lv_iload_n hx hb dL_cell_7 rfl (lv_at hl 1 rfl) ?_
    refine va_sld hx hb hX hbl hbA G.2.2 (vp_in_nI (n := k) (by omega) (by omega)) dL_cell_8 ?_
    refine lv_goto (tgt := 20) hx hb dL_cell_9 (by decide) ?_
    exact g_iret C0 G ⟨_, rfl, rfl⟩ dL_cell_20
section LC
variable {p : Program} {l : Launch} {e : Env} {R : Room} {s : State} {m : MethodId} {args : Array Value} {below : List Frame} {meth : Method} {c : Code} {H : Heap} {locs : List Loc} {cells slots : Nat} {Q : State → Prop}
variable {cc : ByteArray} {nL : Nat} {ret : Option FieldType} {own : String} {D : va_G} {cy : Nat → ClassId} {ad : Nat → Nat} {tv : Nat} {A : Nat → Prop} {pc : Nat} {ls : Array Slot} {rest : List Value} {cs : Nat → Cd} {hs : List (Nat → Cd)} {b L k index : Nat} {xs : Nat → Int32}
theorem l_cell (C0 : gC p s m args meth c cc nL ret own D (gts cy) A) (G : gL D cy ad tv cs hs A s H locs) (hX : va_X b L xs s s.heap) (hbl : b < s.heap.size) (hbA : ¬ A b) (hL : L ≤ 1000) (hk : k < 1000) (hl : Cond.methodLink own index yL_cell ∈ gTs)
    (hdg : decode cc pc = .ok (.invokestatic index, 3)) (hsz : ls.size = nL) (hcat : (rest.map fun v => v.category).sum ≤ 8) (hR : 2 + 0 + 1 ≤ R.frames ∧ 8 + (2 + 11) + (100 + 40 * 0) ≤ R.locals) (hf : cells ≤ R.cells ∧ slots ≤ R.slots)
    (kk : ∀ (v : Int32) (H1 : Heap) (locs1 : List Loc), gL D cy ad tv cs hs A s H1 locs1 → W p l e R s m args below meth c H1 locs1 cells slots Q (F0 m (pc + 3) ls (.int v :: rest))) : W p l e R s m args below meth c H locs cells slots Q (F0 m pc ls (.int (nI k) :: .ref b :: rest)) := by
  obtain ⟨fr, bk, vw, kp, tk, to, fk, fo, hR0, G⟩ := G
  obtain ⟨hx, hb, hml, hr, hlk, hown, hts, hK, hT, hS, hA⟩ := id C0
  obtain ⟨⟨k1, k3, k4⟩, k6, k7, k8⟩ := k_L_cell
  have hXH : va_X b L xs s H := hX.kept (G.2.2.2.1 b hbl hbA)
  refine g_go (post := fun r W2 => ∃ v : Int32, r = some (.int v) ∧ W2 = wL ad cy tv fr bk vw kp tk to fk fo) (va_runS ⟨hx, hb, hml, hown, hts⟩ (c_L_cell l D cy (wL ad cy tv fr bk vw kp tk to fk fo) b L xs k hL hk H.size) ⟨callB_of 2 hts (gws_good k4) rfl rfl rfl (hts _ k3) (hts _ hl) ⟨k6, k7, k8⟩ hR, hts _ k1⟩ ⟨gPX_blind, fun U hU hW => ⟨rfl, g_pre C0 G hU hW, ?_, ?_, ?_⟩⟩ (As := [.ref b, .int (nI k)]) rfl rfl hsz rfl (lv_room hcat) hdg hf) G hA (fun r W2 H1 locs1 hp G1 => ?_)
  · rw [hU]; exact hXH.moved hW.alike
  · rw [hU]; exact Nat.lt_of_lt_of_le hbl G.2.2.1
  · rintro (⟨j, e9, h⟩ | h)
    · exact hbA (G.2.1.2 j _ h)
    · exact absurd (Nat.lt_of_lt_of_le hbl G.2.2.1) (Nat.not_lt.mpr h)
  · obtain ⟨v, rfl, rfl⟩ := hp
    exact kk v H1 locs1 ⟨fr, bk, vw, kp, tk, to, fk, fo, hR0, G1⟩
theorem l_locs (G : gL D cy ad tv cs hs A s H locs) : ∀ q ∈ locs, A q.base := by
  obtain ⟨fr, bk, vw, kp, tk, to, fk, fo, hR0, G⟩ := G
  exact G.2.2.2.2
end LC
/-! the law's start: the classes, the words, the statics -/
theorem ar_kn {ty : FieldType} {s : State} {args : Array Value} (h : (Cond.arrayClass ty).before args s = true) : ∃ cA, ArrOfT s cA ty ∧ s.vm.findClass ("[" ++ ty.toString) = some cA := by
  obtain ⟨cA, kA, comp, h1, h2, h3⟩ := Cond.arrayClass_spec h
  exact ⟨cA, fun n z => ⟨fun k h => (by cases h), kA, h2, comp, h3⟩, h1⟩
theorem ar_kq {C : String} {s : State} {args : Array Value} (h : (Cond.arrayOver (.object C)).before args s = true) : ∃ cA, ArrOfT s cA (.object C) ∧ va_RA s cA (.object C) := by
  obtain ⟨comp, c, k, h1, h2, h3, h4, h5⟩ := Cond.arrayOver_spec h
  exact ⟨c, fun n z => ⟨fun k h => (by cases h), k, h3, comp, h4⟩, k, comp, h3, h4, h1, h5⟩
theorem lw_hao {s : State} {args : Array Value} (hts : ∀ w ∈ lw_tbl, w.before args s = true) : (Cond.arrayOver (.object "MirrorCards$Card")).before args s = true := hts _ (gt1 (i := 27) (by decide +kernel))
theorem lw_known {s : State} {args : Array Value} (hts : ∀ w ∈ lw_tbl, w.before args s = true) : ∃ (D : va_G) (cy : Nat → ClassId), va_K D vwCl (gts cy) s := by
  have hg : ∀ w ∈ gTs, w.before args s = true := fun w hw => hts w (gTs_in w hw)
  obtain ⟨c0, i0, k0⟩ := u_known (C := RJ4) (T := TJ4) (N := 4) (n := 4) hg in_J4 (hg _ ist_J4)
  obtain ⟨c1, i1, k1⟩ := u_known (C := RX0) (T := TX0) (N := 3) (n := 3) hg in_X0 (hg _ ist_X0)
  obtain ⟨c2, i2, k2⟩ := u_known (C := RX1) (T := TX1) (N := 2) (n := 2) hg in_X1 (hg _ ist_X1)
  obtain ⟨c3, i3, k3⟩ := u_known (C := RX2) (T := TX2) (N := 6) (n := 6) hg in_X2 (hg _ ist_X2)
  obtain ⟨c4, i4, k4⟩ := u_known (C := RX3) (T := TX3) (N := 2) (n := 2) hg in_X3 (hg _ ist_X3)
  obtain ⟨c5, i5, k5⟩ := u_known (C := RX4) (T := TX4) (N := 6) (n := 6) hg in_X4 (hg _ ist_X4)
  obtain ⟨aB, rB, sB⟩ := ar_kn (hg _ ac_byte)
  obtain ⟨aO, rO, sO⟩ := ar_kq (lw_hao hts)
  refine ⟨(fun k => [c0, c1, c2, c3, c4, c5].getD k c0, fun k => [i0, i1, i2, i3, i4, i5].getD k i0), fun k => [aB, aB, aB, aB, aO].getD k aB, fun k q hq => ?_, fun k q hq => ?_⟩
  · match k, hq with
    | 0, hq => cases hq; exact k0
    | 1, hq => cases hq; exact k1
    | 2, hq => cases hq; exact k2
    | 3, hq => cases hq; exact k3
    | 4, hq => cases hq; exact k4
    | 5, hq => cases hq; exact k5
    | k + 6, hq => simp [vwCl] at hq
  · match k, hq with
    | 0, hq => cases hq; exact ⟨rB, sB⟩
    | 1, hq => cases hq; exact ⟨rO, sO⟩
    | k + 2, hq => simp [gts] at hq
theorem lw_srs : ∀ q ∈ gSR, Cond.stringRef RX4 q.1 q.2 ∈ lw_tbl := by
  show ∀ q ∈ [(263, "there is no such card"), (239, "no state is saved"), (269, "rows and columns are 0 to 7"), (173, "a kind is 0 to 3"), (105, "a card is not copied onto itself"), (149, "a view is 0 to 3"), (83, "the card can't be closed"), (147, "there is no hole"), (137, "there is a hole"), (271, "rows with values are 0 to 6"), (57, "a value is 0 to 127"), (68, "a cell of the row is not blank"), (195, "the index is negative")], Cond.stringRef RX4 q.1 q.2 ∈ lw_tbl
  exact (List.forall_mem_cons.mpr ⟨gt1 (i := 194) (by decide +kernel), (List.forall_mem_cons.mpr ⟨gt2 (i := 53) (by decide +kernel), (List.forall_mem_cons.mpr ⟨gt2 (i := 87) (by decide +kernel), (List.forall_mem_cons.mpr ⟨gt2 (i := 123) (by decide +kernel), (List.forall_mem_cons.mpr ⟨gt2 (i := 154) (by decide +kernel), (List.forall_mem_cons.mpr ⟨gt2 (i := 171) (by decide +kernel), (List.forall_mem_cons.mpr ⟨gt2 (i := 188) (by decide +kernel), (List.forall_mem_cons.mpr ⟨gt3 (i := 6) (by decide +kernel), (List.forall_mem_cons.mpr ⟨gt3 (i := 12) (by decide +kernel), (List.forall_mem_cons.mpr ⟨gt3 (i := 20) (by decide +kernel), (List.forall_mem_cons.mpr ⟨gt3 (i := 21) (by decide +kernel), (List.forall_mem_cons.mpr ⟨gt3 (i := 26) (by decide +kernel), (List.forall_mem_cons.mpr ⟨gt3 (i := 67) (by decide +kernel), (List.forall_mem_nil _)⟩)⟩)⟩)⟩)⟩)⟩)⟩)⟩)⟩)⟩)⟩)⟩)⟩)
theorem lw_gT {s : State} {args : Array Value} (hts : ∀ w ∈ lw_tbl, w.before args s = true) (hgv : (Jvm.Cond.and given_1 narrow_1).before args s = true) {cc : ClassId} (hfc : s.vm.findClass RX4 = some cc) : gT s := by
  have hs := flat_of_before _ hgv
  refine ⟨fun w hw => va_Nw.of (gN_tab hw) (hts w (gN_in w hw)), fun q hq => ?_, fun q hq => ?_⟩
  · exact absurd hq (by simp [gNc])
  · have h := hts _ (lw_srs q hq)
    obtain ⟨-, -, -, a, -, -, -, -, -, hev⟩ := Cond.stringRef_spec (first := s) (o := none) (idx := []) hfc h
    exact ⟨a, vk_R.of h hev⟩
theorem lw_gS {s : State} {args : Array Value} (hts : ∀ w ∈ lw_tbl, w.before args s = true) (hgv : (Jvm.Cond.and given_1 narrow_1).before args s = true) : gS (fun q : Nat => s.heap.size ≤ q) s s.heap := by
  have hs := flat_of_before _ hgv
  have hA : ∀ a : Nat, a < s.heap.size → ¬ (fun q : Nat => s.heap.size ≤ q) a := fun a h => Nat.not_le.mpr h
  exact ⟨vx_Zqof (hts _ (gt1 (i := 180) (by decide +kernel))) (hts _ (gTs_in _ (gm1 (i := 10) (by decide +kernel) rfl))) (hs (.isRef (.static Bundle.tN "UNASSIGNED_STACK" Bundle.steD)) (by decide +kernel)) hA, vx_Zqof (hts _ (gt1 (i := 182) (by decide +kernel))) (hts _ (gTs_in _ (gm1 (i := 10) (by decide +kernel) rfl))) (hs (.isRef (.static Bundle.tN "SUPPRESSED_SENTINEL" Bundle.listD)) (by decide +kernel)) hA,
    va_Zof (hts _ (gt1 (i := 106) (by decide +kernel))) (hts _ (gTs_in _ (gm1 (i := 8) (by decide +kernel) rfl))) (va_eqi (hs (.eq (.static "java/lang/String" "COMPACT_STRINGS" "Z") (.int 1)) (by decide +kernel))) hA⟩
def R_law : String := "MirrorCardsLaw"
def lw_P (b : Addr) (xs : List Int32) (args : Array Value) (s : State) : Prop := args = #[.ref b] ∧ s.IntsAt b xs ∧ xs.length ≤ 260 ∧ (Jvm.Cond.and given_1 narrow_1).before args s = true
/-- what a walk over the start with the record d0 says of its end, said of the start itself -/
theorem lw_closed {s t : State} {o : Outcome} {d0 : Drawn} {L : List Loc} {k n : Nat} (hd0 : s.drawn.sameBut d0 lw_cs) (hv : ∃ v, o = .returned v) (hW : (s.setDrawn d0).WarmedH t.vm) (hs : (s.setDrawn d0).sameButNew ({ t with vm := s.vm } : State) L k n) : State.butDraws s t lw_cs (fun t1 => Framed s o t1 L k n) := by
  have h2 : t.drawn = d0 := congrArg State.drawn hs.1
  refine ⟨⟨hv, hW, State.sameButNew.setDrawn hs s.drawn⟩, ?_, by decide⟩
  rw [h2]
  exact hd0
def lw_Q (_ : Array Value) (s : State) (o : Outcome) (t : State) : Prop := o = .returned (some (.int 1)) ∧ State.butDraws s t lw_cs (fun t1 => Framed s o t1 [] 769147 6794027)
def lw_Z (below : List Frame) (a : Array Value) (s : State) : State → Prop := fun t => ∃ o, t.status = .running ∧ Ended t below o ∧ lw_Q a s o t
/-- the law's own end, with 1 on the stack, nothing written that was there before, its room as the claim has it; d0: the record of draws at this point (at the entry s.drawn: begin with 'refine W.base ?_' and 'have hd0 := Drawn.sameBut.refl s.drawn lw_cs') -/
theorem lw_ret {p : Program} {l : Launch} {e : Env} {s : State} {m : MethodId} {below : List Frame} {meth : Method} {c : Code} {b : Nat} {d0 : Drawn} (hd0 : s.drawn.sameBut d0 lw_cs) (hx : p.tables.exec = Jvm.exec) (hb : c.code = code) (hr : meth.sig.returnType = ret) (hlocks : meth.locks = false) {pc : Nat} {H : Heap} {ls : Array Slot} (hdg : decode code pc = .ok (.ireturn, 1)) : W p l e room_1 (s.setDrawn d0) m #[Value.ref b] below meth c H [] 769147 6794027 (lw_Z below #[Value.ref b] s) (F0 m pc ls [.int 1]) := by
  intro T hT X
  obtain ⟨fs, hret, hrun, hended, hW, hframe⟩ := X.leave (v := some (.int 1)) (hlocks := hlocks) (fun h => by rw [hr] at h; cases h)
  have hmeth' : T.vm.method? m = some meth := X.method'
  refine ⟨T.setFrames fs, ?_, .returned (some (.int 1)), hrun, hended, rfl, lw_closed hd0 ⟨_, rfl⟩ hW hframe⟩
  jvm_step X.here [X.here.top, hx, hb, hdg, hmeth', hr, ret, narrow_b1]
  (try refine ⟨rfl, ?_⟩); (try refine ⟨rfl, ?_⟩)
  first | (intro acts; rw [hret _ acts rfl rfl rfl]) | rw [hret _ _ rfl rfl rfl]
  exact Steps.refl _
/-- what holds at the law's entry: the machine, the code, the tables' words (any of lw_tbl by 'hts w (by decide +kernel)'), the script of L ints xs at the cell b, what the Statement gives of the start (any of its parts by flat_of_before) -/
def lw_At (p : Program) (s : State) (m : MethodId) (meth : Method) (c : Code) (b L : Nat) (xs : Nat → Int32) : Prop :=
  p.tables.exec = Jvm.exec ∧ c.code = code ∧ meth.sig.returnType = ret ∧ c.maxLocals = 13 ∧ s.vm.findClass R_law = some m.cls ∧ (∀ w ∈ lw_tbl, w.before #[Value.ref b] s = true) ∧ va_X b L xs s s.heap ∧ b < s.heap.size ∧ meth.locks = false ∧ (Jvm.Cond.and given_1 narrow_1).before #[Value.ref b] s = true
