theorem arrV_cong {cA : ClassId} {n : Nat} {f g : Nat → Value} (h : ∀ j, j < n → f j = g j) : arrV cA n f = arrV cA n g := by
  unfold arrV
  congr 1
  apply Array.ext
  · simp
  · intro i h1 h2
    simp at h1 h2 ⊢
    exact h i h1
theorem ft_J4 : gFT TJ4 4 tyJ4 := ⟨tyJ4_ok, nmJ4⟩
theorem ac_byte : Cond.arrayClass .byte ∈ gTs := (gm1 (i := 125) (by decide +kernel) rfl)
theorem g_permW {D : va_G} {W V : va_W} {A : Nat → Prop} {s : State} {H : Heap} {locs : List Loc} (hp : W.Perm V) (G : gW D W A s H locs) : gW D V A s H locs := ⟨gP_perm hp G.1, gD_perm hp G.2.1, G.2.2⟩
section GFF
variable {p : Program} {l : Launch} {e : Env} {R : Room} {s : State} {m : MethodId} {args : Array Value} {below : List Frame} {meth : Method} {c : Code} {H : Heap} {locs : List Loc} {cells slots : Nat} {Q : State → Prop}
variable {cc : ByteArray} {nL : Nat} {ret : Option FieldType} {own : String} {D : va_G} {ts : gY} {A : Nat → Prop} {W1 W2 : va_W} {pc : Nat} {ls : Array Slot} {rest st0 : List Value} {index q0 n a : Nat} {cA : ClassId}
/-- a new array of bytes, the world's last cell -/
theorem g_newB (C0 : gC p s m args meth c cc nL ret own D ts A) (G : gW D W1 A s H locs) (t0 : Nat) (ht : ts[t0]? = some (cA, .byte)) (harr : Cond.arrayClass .byte ∈ gTs) (hn : n < 1000) (hc : cells + 1 ≤ R.cells) (hs : slots + n ≤ R.slots) (hdg : decode cc pc = .ok (.newarray .byte, 2))
    (kk : ∀ (q : Nat) (H1 : Heap), gW D (W1 ++ [(q, .inl (cA, n, .inl (fun _ => 0)))]) A s H1 locs → W p l e R s m args below meth c H1 locs (cells + 1) (slots + n) Q (F0 m (pc + 2) ls (.ref q :: rest))) : W p l e R s m args below meth c H locs cells slots Q (F0 m pc ls (.int (nI n) :: rest)) := by
  obtain ⟨hx, hb, hml, hr, hlk, hown, hts, hK, hT, hS, hA⟩ := id C0
  refine va_newa (atype := .byte) (ty := .byte) (a0 := (n, .inl (fun _ => 0))) hx hb (hts _ harr) rfl hK G.1 G.2.1 G.2.2 hA (fun _ => rfl) (fun h => ?_) (nI_clamp (by omega)) (by show n * 1 ≤ _; omega) hc hs hdg (fun q cB H1 k1 k2 k3 k4 => ?_)
  · rw [Int32.lt_iff_toInt_lt, nI_toInt (by omega)] at h
    have : (0 : Int32).toInt = 0 := by decide
    omega
  · have e1 : s.vm.findClass ("[" ++ (FieldType.byte).toString) = some cA := (hK.2 t0 _ ht).2
    have e2 : s.vm.findClass ("[" ++ (FieldType.byte).toString) = some cB := (k1.2 ts.length (cB, .byte) (by simp)).2
    have e3 : cB = cA := Option.some.inj (e2.symm.trans e1)
    subst e3
    exact kk q H1 ⟨k2, k3, k4⟩
end GFF
/-! making: objects and arrays, a new one the world's first cell; constructors -/
def gAO (U : State) : Prop := va_AO "MirrorCards$Card" U
def gPO (D : va_G) (ts : gY) (W1 : va_W) (sz : Nat) (U : State) : Prop := gP D ts W1 sz U ∧ gAO U
/-- a constructor's contract -/
def GK (l : Launch) (D : va_G) (ts : gY) (y : MethodName) (cc : ByteArray) (maxL : Nat) (L mc ms : Nat) (av : List Value) (W1 : va_W) (post : Option Value → va_W → Prop) : Prop :=
  ∀ sz : Nat, Met l y (gws y cc maxL none) (gR L mc ms) (va_Pc av (gPO D ts W1 sz)) (gQ D post (va_A W1 sz)) mc ms (va_A W1 sz)
theorem gPO_blind {D : va_G} {ts : gY} {W1 : va_W} {sz : Nat} {av : List Value} : FrameBlind (va_Pc av (gPO D ts W1 sz)) := by
  intro a U g mk h
  obtain ⟨h0, h1, h2⟩ := h
  exact ⟨h0, (gP_blind (av := av) a U g mk ⟨h0, h1⟩).2, va_AO.moved (u := U) (U := U.calling g mk a) (Vm.Alike.refl U.vm) h2⟩
section GK1
variable {p : Program} {l : Launch} {e : Env} {R : Room} {s : State} {m : MethodId} {args : Array Value} {below : List Frame} {meth : Method} {c : Code} {H : Heap} {locs : List Loc} {cells slots : Nat} {Q : State → Prop}
variable {cc : ByteArray} {nL : Nat} {ret : Option FieldType} {own : String} {D : va_G} {ts : gY} {A : Nat → Prop} {W1 W2 : va_W} {pc : Nat} {ls : Array Slot} {rest st0 : List Value} {a : Nat}
variable {C : String} {y : MethodName} {bytes : ByteArray} {maxL L mc ms n index b q0 ci N : Nat} {As : List Value} {post : Option Value → va_W → Prop} {fs : List Value} {T : u_T} {ref : String} {cA : ClassId}
theorem g_front {q : Nat × va_E} (G : gW D (W1 ++ [q]) A s H locs) : gW D (q :: W1) A s H locs := g_permW (List.perm_append_comm (l₁ := W1) (l₂ := [q])) G
theorem g_newO {ty : Nat → FieldType} (C0 : gC p s m args meth c cc nL ret own D ts A) (G : gW D W1 A s H locs) (hin : ∀ w ∈ u_ws C T N, w ∈ gTs) (hF : gFT T N ty) (hcl : Cond.classLink own index C ∈ gTs) (hinst : Cond.instantiable C N ∈ gTs) (hini : Cond.initialized C ∈ gTs) (hc : vwCl[ci]? = some (C, T, N))
    (hfs : ∀ j, j < N → defaultValue (ty j) = vp_V fs j) (hcells : cells + 1 ≤ R.cells) (hslots : slots + N ≤ R.slots) (hdg : decode cc pc = .ok (.new index, 3))
    (kk : ∀ (q : Nat) (H1 : Heap), gW D ((q, .inr (ci, fs)) :: W1) A s H1 locs → W p l e R s m args below meth c H1 locs (cells + 1) (slots + N) Q (F0 m (pc + 3) ls (.ref q :: rest))) : W p l e R s m args below meth c H locs cells slots Q (F0 m pc ls rest) := by
  obtain ⟨hx, hb, hml, hr, hlk, hown, hts, hK, hT, hS, hA⟩ := id C0
  exact va_new hx hb hts hin ty hF.1 hown (hts _ hcl) (hts _ hinst) (hts _ hini) hK G.1 G.2.1 G.2.2 hA hc hfs hcells hslots hdg (fun q H1 h1 h2 h3 => kk q H1 (g_front ⟨h1, h2, h3⟩))
theorem g_newQ (C0 : gC p s m args meth c cc nL ret own D ts A) (G : gW D W1 A s H locs) (hao : gAO s) (hcl : Cond.classLink own index "MirrorCards$Card" ∈ gTs) (t0 : Nat) (ht : ts[t0]? = some (cA, .object "MirrorCards$Card")) {i : Int32} (hn : i = nI n) (hn2 : n < 1000) (hcells : cells + 1 ≤ R.cells) (hslots : slots + n ≤ R.slots) (hdg : decode cc pc = .ok (.anewarray index, 3))
    (kk : ∀ (q : Nat) (H1 : Heap), gW D ((q, .inl (cA, n, .inr (.inr (.inr (.inr (fun _ => none)))))) :: W1) A s H1 locs → W p l e R s m args below meth c H1 locs (cells + 1) (slots + n) Q (F0 m (pc + 3) ls (.ref q :: rest))) : W p l e R s m args below meth c H locs cells slots Q (F0 m pc ls (.int i :: rest)) := by
  obtain ⟨hx, hb, hml, hr, hlk, hown, hts, hK, hT, hS, hA⟩ := id C0
  subst hn
  refine va_newq hx hb hown (hts _ hcl) hao hK G.1 G.2.1 G.2.2 hA (n := nI n) (N' := n) (fun h => ?_) (nI_clamp (by omega)) (by omega) hcells hslots hdg (fun q cB H1 k1 k2 k3 k4 => ?_)
  · rw [Int32.lt_iff_toInt_lt, nI_toInt (by omega)] at h
    have : (0 : Int32).toInt = 0 := by decide
    omega
  · have e1 : s.vm.findClass ("[" ++ (FieldType.object "MirrorCards$Card").toString) = some cA := by
      obtain ⟨kA, comp, -, -, -, h4⟩ := (hK.2 t0 _ ht).2
      exact h4
    have e2 : s.vm.findClass ("[" ++ (FieldType.object "MirrorCards$Card").toString) = some cB := by
      obtain ⟨kA, comp, -, -, -, h4⟩ := (k1.2 ts.length (cB, .object "MirrorCards$Card") (by simp)).2
      exact h4
    have e3 : cB = cA := Option.some.inj (e2.symm.trans e1)
    subst e3
    exact kk q H1 (g_front ⟨k2, k3, k4⟩)
theorem g_newBF (C0 : gC p s m args meth c cc nL ret own D ts A) (G : gW D W1 A s H locs) (t0 : Nat) (ht : ts[t0]? = some (cA, .byte)) {i : Int32} (hi : i = nI n) (hn : n < 1000) (hc : cells + 1 ≤ R.cells) (hs : slots + n ≤ R.slots) (hdg : decode cc pc = .ok (.newarray .byte, 2))
    (kk : ∀ (q : Nat) (H1 : Heap), gW D ((q, .inl (cA, n, .inl (fun _ => 0))) :: W1) A s H1 locs → W p l e R s m args below meth c H1 locs (cells + 1) (slots + n) Q (F0 m (pc + 2) ls (.ref q :: rest))) : W p l e R s m args below meth c H locs cells slots Q (F0 m pc ls (.int i :: rest)) := by
  subst hi
  exact g_newB C0 G t0 ht ac_byte hn hc hs hdg (fun q H1 G => kk q H1 (g_front G))
theorem g_putF {ty : Nat → FieldType} (C0 : gC p s m args meth c cc nL ret own D ts A) (G : gW D W1 A s H locs) (hF : gFT T N ty) (hin : ∀ w ∈ u_ws C T N, w ∈ gTs) (hnm : meth.name = "<init>") (he : W1[q0]? = some (a, .inr (ci, fs))) (hc : vwCl[ci]? = some (C, T, N)) (k : Nat) (hk : k < N) (hlink : Cond.fieldLink own index ref (T k).2.1 (T k).2.2.1 ∈ gTs)
    (hsame : ∀ x, s.fieldFound? (T k).1 (T k).2.1 (T k).2.2.1 = some x → s.fieldFound? ref (T k).2.1 (T k).2.2.1 = some x) (hfin : (T k).2.2.2 = true) (hdecl : (T k).1 = own) {v : Value} (hn : narrow (ty k) v = v) (hfit : fits (ty k) v = true) (hl : k < fs.length) (hw : W1.set q0 (a, .inr (ci, fs.set k v)) = W2) (hdg : decode cc pc = .ok (.putfield index, 3))
    (kk : ∀ (H1 : Heap) (locs1 : List Loc), gW D W2 A s H1 locs1 → W p l e R s m args below meth c H1 locs1 cells slots Q (F0 m (pc + 3) ls rest)) : W p l e R s m args below meth c H locs cells slots Q (F0 m pc ls (v :: .ref a :: rest)) := by
  obtain ⟨hx, hb, hml, hr, hlk, hown, hts, hK, hT, hS, hA⟩ := id C0
  subst hw
  exact va_putF hx hb hts hin ty hF.1 hF.2 hown hK G.1 G.2.1 G.2.2 q0 he hc k hk (hts _ hlink) hsame hfin hnm hdecl (hF.1 k hk) hn hfit hl hdg (fun H1 locs1 h1 h2 h3 => kk H1 locs1 ⟨h1, h2, h3⟩)
theorem g_astq {f : Nat → Option Nat} {i : Int32} {v qk : Nat} {vs : List Value} {E : String} {T2 : u_T} {N2 : Nat} (C0 : gC p s m args meth c cc nL ret own D ts A) (G : gW D W1 A s H locs) (ha : W1[q0]? = some (a, .inl (cA, n, .inr (.inr (.inr (.inr f)))))) (t0 : Nat) (ht : ts[t0]? = some (cA, .object E)) (hv : W1[qk]? = some (v, .inr (ci, vs))) (hc : vwCl[ci]? = some (E, T2, N2)) (hin : vp_in i n)
    (hw : W1.set q0 (a, .inl (cA, n, .inr (.inr (.inr (.inr (va_up f i.toNatClampNeg (some v))))))) = W2) (hdg : decode cc pc = .ok (.aastore, 1))
    (kk : ∀ (H1 : Heap) (locs1 : List Loc), gW D W2 A s H1 locs1 → W p l e R s m args below meth c H1 locs1 cells slots Q (F0 m (pc + 1) ls rest)) : W p l e R s m args below meth c H locs cells slots Q (F0 m pc ls (.ref v :: .int i :: .ref a :: rest)) := by
  obtain ⟨hx, hb, hml, hr, hlk, hown, hts, hK, hT, hS, hA⟩ := id C0
  subst hw
  exact va_astq hx hb hK G.1 G.2.1 G.2.2 q0 t0 qk ci ha ht hv hc hin hdg (fun H1 locs1 h1 h2 h3 => kk H1 locs1 ⟨h1, h2, h3⟩)
theorem ob_im : Cond.instanceMethod Lib.objectInit ∈ gTs := (gm1 (i := 24) (by decide +kernel) rfl)
theorem ob_cd : Cond.code Lib.objectInit ⟨#[0xb1]⟩ 1 none ∈ gTs := (gm1 (i := 25) rfl rfl)
theorem g_obj (C0 : gC p s m args meth c cc nL ret own D ts A) (hl : Cond.methodLink own index Lib.objectInit ∈ gTs) (hsz : ls.size = nL) (hdg : decode cc pc = .ok (.invokespecial index, 3)) (hR : 1 ≤ R.frames ∧ 40 ≤ R.locals) (hcat : (rest.map fun v => v.category).sum ≤ 8)
    (kk : W p l e R s m args below meth c H locs cells slots Q (F0 m (pc + 3) ls rest)) : W p l e R s m args below meth c H locs cells slots Q (F0 m pc ls (.ref a :: rest)) := by
  obtain ⟨hx, hb, hml, hr, hlk, hown, hts, hK, hT, hS, hA⟩ := id C0
  exact W.objInit hx hb hown (hts _ hl) (hts _ ob_im) (hts _ ob_cd) rfl (hsz.trans hml.symm) rfl hdg hR.1 (by show 2 * 0 + _ + 12 ≤ _; omega) kk
theorem g_callK (C0 : gC p s m args meth c cc nL ret own D ts A) (G : gW D W1 A s H locs) (hao : gAO s) (hM : GK l D ts y bytes maxL L mc ms (.ref b :: As) W1 post) (hk : gKI y bytes maxL n) (hl : Cond.methodLink own index y ∈ gTs)
    (hdg : decode cc pc = .ok (.invokespecial index, 3)) (hst : st0 = As.reverse ++ .ref b :: rest) (hn : As.length = n) (hsz : ls.size = nL) (hcat : (rest.map fun v => v.category).sum ≤ 8)
    (hR : 2 + L + 1 ≤ R.frames ∧ 8 + (maxL + 11) + (100 + 40 * L) ≤ R.locals) (hf : cells + mc ≤ R.cells ∧ slots + ms ≤ R.slots)
    (kk : ∀ (r : Option Value) (W2 : va_W) (H1 : Heap) (locs1 : List Loc), post r W2 → gW D W2 A s H1 locs1 → W p l e R s m args below meth c H1 locs1 (cells + mc) (slots + ms) Q (F0 m (pc + 3) ls (r.toList ++ rest))) : W p l e R s m args below meth c H locs cells slots Q (F0 m pc ls st0) := by
  obtain ⟨hx, hb, hml, hr, hlk, hown, hts, hK, hT, hS, hA⟩ := id C0
  obtain ⟨⟨k1, k3, k4⟩, k5, k6, k7, k8⟩ := hk
  exact g_go (va_runI ⟨hx, hb, hml, hown, hts⟩ (hM H.size) ⟨callB_of n hts (gws_good k4) rfl rfl rfl (hts _ k3) (hts _ hl) ⟨k6, k7, k8⟩ hR, k5, hts _ k1⟩ ⟨gPO_blind, fun U hU hW => ⟨rfl, g_pre C0 G hU hW, va_AO.moved hW.alike hao⟩⟩ rfl hn hsz hst (lv_room hcat) hdg hf) G hA kk
theorem g_callKN {host : String} (C0 : gC p s m args meth c cc nL ret own D ts A) (G : gW D W1 A s H locs) (hao : gAO s) (hM : GK l D ts y bytes maxL L mc ms (.ref b :: As) W1 post) (hk : gKI y bytes maxL n) (hl : Cond.methodLinkNest own index y host ∈ gN)
    (hdg : decode cc pc = .ok (.invokespecial index, 3)) (hst : st0 = As.reverse ++ .ref b :: rest) (hn : As.length = n) (hsz : ls.size = nL) (hcat : (rest.map fun v => v.category).sum ≤ 8)
    (hR : 2 + L + 1 ≤ R.frames ∧ 8 + (maxL + 11) + (100 + 40 * L) ≤ R.locals) (hf : cells + mc ≤ R.cells ∧ slots + ms ≤ R.slots)
    (kk : ∀ (r : Option Value) (W2 : va_W) (H1 : Heap) (locs1 : List Loc), post r W2 → gW D W2 A s H1 locs1 → W p l e R s m args below meth c H1 locs1 (cells + mc) (slots + ms) Q (F0 m (pc + 3) ls (r.toList ++ rest))) : W p l e R s m args below meth c H locs cells slots Q (F0 m pc ls st0) := by
  obtain ⟨hx, hb, hml, hr, hlk, hown, hts, hK, hT, hS, hA⟩ := id C0
  obtain ⟨⟨k1, k3, k4⟩, k5, k6, k7, k8⟩ := hk
  have cw := va_cnB (s := s) (args := args) (R := R) (rm := gR L mc ms) (mc := mc) (ms := ms) n hts (gws_good k4) rfl rfl rfl (hT.nw hl) (hts _ k3) ⟨k6, k7, k8⟩ hR
  exact g_go (va_runIN ⟨hx, hb, hml, hown, hts⟩ (hM H.size) ⟨cw, k5, hts _ k1⟩ ⟨gPO_blind, fun U hU hW => ⟨rfl, g_pre C0 G hU hW, va_AO.moved hW.alike hao⟩⟩ rfl hn hsz hst (lv_room hcat) hdg hf) G hA kk
theorem gW_setq {W : va_W} {i : Nat} {f g : Nat → Option Nat} (hi : W[i]? = some (a, .inl (cA, n, .inr (.inr (.inr (.inr f)))))) (h : ∀ j, j < n → f j = g j) (G : gW D W A s H locs) : gW D (W.set i (a, .inl (cA, n, .inr (.inr (.inr (.inr g)))))) A s H locs := by
  have key : ∀ (k : Nat) (q : Nat × va_E), (W.set i (a, .inl (cA, n, .inr (.inr (.inr (.inr g))))))[k]? = some q → ∃ q' : Nat × va_E, W[k]? = some q' ∧ q'.1 = q.1 ∧ (va_at D vwCl q' H → va_at D vwCl q H) := by
    intro k q hk
    by_cases e : i = k
    · subst e
      have hl : i < W.length := (List.getElem?_eq_some_iff.mp hi).1
      rw [List.getElem?_set_self hl] at hk
      cases hk
      refine ⟨_, hi, rfl, fun h0 => ?_⟩
      show H[a]? = some (vp_cell cA (n, .inr (.inr (.inr (.inr g)))))
      rw [vp_cell_q, ← arrV_cong (f := fun j => va_rf (f j)) (fun j hj => by rw [h j hj])]
      exact h0
    · rw [List.getElem?_set_ne e] at hk
      exact ⟨q, hk, rfl, id⟩
  refine ⟨fun k q hk => ?_, ⟨fun k1 k2 q1 q2 h1 h2 he => ?_, fun k q hk => ?_⟩, G.2.2⟩
  · obtain ⟨q', h1, -, h3⟩ := key k q hk
    exact h3 (G.1 k q' h1)
  · obtain ⟨p1, a1, b1, -⟩ := key k1 q1 h1
    obtain ⟨p2, a2, b2, -⟩ := key k2 q2 h2
    exact G.2.1.1 k1 k2 p1 p2 a1 a2 (by rw [b1, b2]; exact he)
  · obtain ⟨p1, a1, b1, -⟩ := key k q hk
    rw [← b1]
    exact G.2.1.2 k p1 a1
end GK1
section GK2
variable {l : Launch} {D : va_G} {ts : gY} {y : MethodName} {cc : ByteArray} {maxL : Nat} {L mc ms : Nat} {av : List Value} {W1 : va_W} {post : Option Value → va_W → Prop} {lv : List (Nat × Value)}
theorem g_introK (hy : plainName y.cls = true) (hyn : y.name = "<init>") (hlv : lv_args 0 av = lv) (hlen : (lg_sl av).length ≤ maxL)
    (body : ∀ (p : Program) (e : Env) (s : State) (m : MethodId) (below : List Frame) (meth : Method) (c : Code), gC p s m av.toArray meth c cc maxL none y.cls D ts (va_A W1 s.heap.size) → gAO s → meth.name = "<init>" → gW D W1 (va_A W1 s.heap.size) s s.heap [] → ∀ ls : Array Slot, lv_has ls maxL lv →
      W p l e (gR L mc ms) s m av.toArray below meth c s.heap [] 0 0 (MQ below (gQ D post (va_A W1 s.heap.size)) av.toArray s mc ms (va_A W1 s.heap.size)) (F0 m 0 ls [])) : GK l D ts y cc maxL L mc ms av W1 post := by
  intro sz
  refine Met.ofW (cc := cc) (maxL := maxL) (ret := none) hy rfl ?_
  intro p e s m args below meth c s₁ B hml hv
  obtain ⟨rfl, hv, hao⟩ := hv
  have C0 := g_C B hml (fun w hw => List.mem_cons_of_mem _ hw) hv
  have hin : meth.name = "<init>" := (name_of_methodNamed B.named B.method).1.trans hyn
  obtain ⟨rfl, h1, h2, h3, h4, h5⟩ := hv
  rw [lg_entry_eq]
  have hl := lv_entry av hlen
  rw [hlv] at hl
  exact body p e s m below meth c C0 hao hin ⟨h1, h3.self, va_S.rf⟩ _ hl
end GK2
def adL (xs : List Nat) : Nat → Nat := fun i => xs.getD i 0
theorem ist_X0 : Cond.instantiable RX0 3 ∈ gTs := (gm1 (i := 28) (by decide +kernel) rfl)
theorem ini_X0 : Cond.initialized RX0 ∈ gTs := (gm1 (i := 2) (by decide +kernel) rfl)
theorem ist_X1 : Cond.instantiable RX1 2 ∈ gTs := (gm1 (i := 62) (by decide +kernel) rfl)
theorem ini_X1 : Cond.initialized RX1 ∈ gTs := (gm1 (i := 4) (by decide +kernel) rfl)
theorem ist_X2 : Cond.instantiable RX2 6 ∈ gTs := (gm1 (i := 78) (by decide +kernel) rfl)
theorem ini_X2 : Cond.initialized RX2 ∈ gTs := (gm1 (i := 5) (by decide +kernel) rfl)
theorem ist_X3 : Cond.instantiable RX3 2 ∈ gTs := (gm1 (i := 47) (by decide +kernel) rfl)
theorem ini_X3 : Cond.initialized RX3 ∈ gTs := (gm1 (i := 3) (by decide +kernel) rfl)
theorem ist_X4 : Cond.instantiable RX4 6 ∈ gTs := (gm1 (i := 19) (by decide +kernel) rfl)
theorem ini_X4 : Cond.initialized RX4 ∈ gTs := (gm1 (i := 1) (by decide +kernel) rfl)
theorem ist_J4 : Cond.instantiable RJ4 4 ∈ gTs := (gm1 (i := 97) (by decide +kernel) rfl)
theorem ini_J4 : Cond.initialized RJ4 ∈ gTs := (gm1 (i := 7) (by decide +kernel) rfl)
set_option maxHeartbeats 4000000 in
set_option maxRecDepth 100000 in
theorem c_X0_init (l : Launch) (D : va_G) (cy : Nat → ClassId) (W1 : va_W) (h : Nat) : GK l D (gts cy) yX0_init cX0_init 1 1 0 0 [.ref h] (W1) (gF none (W1)) := by
  refine g_introK (by decide +kernel) rfl (lv := [(0, .ref h)]) rfl (Nat.le_of_ble_eq_true rfl) ?_
  intro p e s m below meth c C0 hao hin G ls hl
  have hx := C0.1
  have hb := C0.2.1
  have hown := C0.2.2.2.2.2.1
  have hts := C0.2.2.2.2.2.2.1
  refine lv_aload_n hx hb dX0_init_0 rfl (lv_at hl 0 rfl) ?_
  refine g_obj C0 ml_X0_3 hl.1 dX0_init_1 ⟨(Nat.le_of_ble_eq_true rfl), (Nat.le_of_ble_eq_true rfl)⟩ (Nat.le_of_ble_eq_true rfl) ?_
  exact g_vret C0 G ⟨rfl, rfl⟩ dX0_init_4

set_option maxHeartbeats 4000000 in
set_option maxRecDepth 100000 in
theorem c_X2_init (l : Launch) (D : va_G) (cy : Nat → ClassId) (W1 : va_W) (h : Nat) : GK l D (gts cy) yX2_init cX2_init 1 1 0 0 [.ref h] (W1) (gF none (W1)) := by
  refine g_introK (by decide +kernel) rfl (lv := [(0, .ref h)]) rfl (Nat.le_of_ble_eq_true rfl) ?_
  intro p e s m below meth c C0 hao hin G ls hl
  have hx := C0.1
  have hb := C0.2.1
  have hown := C0.2.2.2.2.2.1
  have hts := C0.2.2.2.2.2.2.1
  refine lv_aload_n hx hb dX2_init_0 rfl (lv_at hl 0 rfl) ?_
  refine g_obj C0 ml_X2_3 hl.1 dX2_init_1 ⟨(Nat.le_of_ble_eq_true rfl), (Nat.le_of_ble_eq_true rfl)⟩ (Nat.le_of_ble_eq_true rfl) ?_
  exact g_vret C0 G ⟨rfl, rfl⟩ dX2_init_4

set_option maxHeartbeats 4000000 in
set_option maxRecDepth 100000 in
theorem c_X3_init (l : Launch) (D : va_G) (cy : Nat → ClassId) (W1 : va_W) (h : Nat) : GK l D (gts cy) yX3_init cX3_init 1 1 0 0 [.ref h] (W1) (gF none (W1)) := by
  refine g_introK (by decide +kernel) rfl (lv := [(0, .ref h)]) rfl (Nat.le_of_ble_eq_true rfl) ?_
  intro p e s m below meth c C0 hao hin G ls hl
  have hx := C0.1
  have hb := C0.2.1
  have hown := C0.2.2.2.2.2.1
  have hts := C0.2.2.2.2.2.2.1
  refine lv_aload_n hx hb dX3_init_0 rfl (lv_at hl 0 rfl) ?_
  refine g_obj C0 ml_X3_3 hl.1 dX3_init_1 ⟨(Nat.le_of_ble_eq_true rfl), (Nat.le_of_ble_eq_true rfl)⟩ (Nat.le_of_ble_eq_true rfl) ?_
  exact g_vret C0 G ⟨rfl, rfl⟩ dX3_init_4

set_option maxHeartbeats 4000000 in
set_option maxRecDepth 100000 in
theorem c_J5_init_d00df (l : Launch) (D : va_G) (cy : Nat → ClassId) (R : va_W) (h : Nat) : GK l D (gts cy) yJ5_init_d00df cJ5_init_d00df 2 1 1 16 [.ref h, .int 16] ((h, .inr (0, [.null, .int 0, .int 0, .int (nI 0)])) :: R) (fun r W2 => r = none ∧ ∃ t : Nat, W2 = (t, .inl (cy 0, 16, .inl (fun _ => 0))) :: (h, .inr (0, [.ref t, .int 0, .int 0, .int (nI 0)])) :: R) := by
  refine g_introK (by decide +kernel) rfl (lv := [(0, .ref h), (1, .int 16)]) rfl (Nat.le_of_ble_eq_true rfl) ?_
  intro p e s m below meth c C0 hao hin G ls hl
  have hx := C0.1
  have hb := C0.2.1
  have hown := C0.2.2.2.2.2.1
  have hts := C0.2.2.2.2.2.2.1
  refine lv_aload_n hx hb dJ5_init_d00df_0 rfl (lv_at hl 0 rfl) ?_
  refine g_obj C0 ml_J5_3 hl.1 dJ5_init_d00df_1 ⟨(Nat.le_of_ble_eq_true rfl), (Nat.le_of_ble_eq_true rfl)⟩ (Nat.le_of_ble_eq_true rfl) ?_
  refine g_getsC C0 G fl_J5_18 dJ5_init_d00df_4 ?_
  refine lv_if_eq (tgt := 25) hx hb dJ5_init_d00df_7 (by decide) (fun c_7 => ?_) (fun c_7 => ?_)
  · exact absurd c_7 (by decide)
  · skip
    refine lv_aload_n hx hb dJ5_init_d00df_10 rfl (lv_at hl 0 rfl) ?_
    refine lv_iload_n hx hb dJ5_init_d00df_11 rfl (lv_at hl 1 rfl) ?_
    refine g_newBF (n := 16) C0 G 0 rfl rfl (by decide) (Nat.le_of_ble_eq_true rfl) (Nat.le_of_ble_eq_true rfl) dJ5_init_d00df_12 (fun q1 H G => ?_)
    refine g_put (q0 := 1) (W2 := (q1, .inl (cy 0, 16, .inl (fun _ => 0))) :: (h, .inr (0, [.ref q1, .int 0, .int 0, .int (nI 0)])) :: R) C0 G ft_J4 in_J4 rfl rfl 0 (by decide) fl_J5_15 (fun _ h => h) rfl rfl rfl (Nat.le_of_ble_eq_true rfl) rfl dJ5_init_d00df_14 (fun H locs G => ?_)
    refine lv_aload_n hx hb dJ5_init_d00df_17 rfl (lv_at hl 0 rfl) ?_
    refine lv_iconst (v := 0) hx hb dJ5_init_d00df_18 (by decide) ?_
    refine g_put (q0 := 1) (W2 := (q1, .inl (cy 0, 16, .inl (fun _ => 0))) :: (h, .inr (0, [.ref q1, .int 0, .int 0, .int (nI 0)])) :: R) C0 G ft_J4 in_J4 rfl rfl 1 (by decide) fl_J5_22 (fun _ h => h) rfl rfl rfl (Nat.le_of_ble_eq_true rfl) rfl dJ5_init_d00df_19 (fun H locs G => ?_)
    refine lv_goto (tgt := 38) hx hb dJ5_init_d00df_22 (by decide) ?_
    exact g_vret C0 G ⟨rfl, q1, rfl⟩ dJ5_init_d00df_38

set_option maxHeartbeats 4000000 in
set_option maxRecDepth 100000 in
theorem c_J4_init_da8c8 (l : Launch) (D : va_G) (cy : Nat → ClassId) (R : va_W) (h : Nat) : GK l D (gts cy) yJ4_init_da8c8 cJ4_init_da8c8 1 2 1 16 [.ref h] ((h, .inr (0, [.null, .int 0, .int 0, .int (nI 0)])) :: R) (fun r W2 => r = none ∧ ∃ t : Nat, W2 = (t, .inl (cy 0, 16, .inl (fun _ => 0))) :: (h, .inr (0, [.ref t, .int 0, .int 0, .int (nI 0)])) :: R) := by
  refine g_introK (by decide +kernel) rfl (lv := [(0, .ref h)]) rfl (Nat.le_of_ble_eq_true rfl) ?_
  intro p e s m below meth c C0 hao hin G ls hl
  have hx := C0.1
  have hb := C0.2.1
  have hown := C0.2.2.2.2.2.1
  have hts := C0.2.2.2.2.2.2.1
  refine lv_aload_n hx hb dJ4_init_da8c8_0 rfl (lv_at hl 0 rfl) ?_
  refine lv_bipush (v := 16) hx hb dJ4_init_da8c8_1 (by decide) ?_
  refine g_callK (As := [.int 16]) (rest := []) C0 G hao (c_J5_init_d00df l D cy (R := R) (h := h)) k_J5_init_d00df ml_J4_1 dJ4_init_da8c8_3 rfl rfl hl.1 (Nat.le_of_ble_eq_true rfl) ⟨(Nat.le_of_ble_eq_true rfl), (Nat.le_of_ble_eq_true rfl)⟩ ⟨(Nat.le_of_ble_eq_true rfl), (Nat.le_of_ble_eq_true rfl)⟩ (fun r W2 H locs hp G => ?_)
  obtain ⟨rfl, q1, hw⟩ := hp
  have G := g_wc hw G
  refine W.eq (g2 := F0 m 6 ls []) rfl ?_
  exact g_vret C0 G ⟨rfl, q1, rfl⟩ dJ4_init_da8c8_6

set_option maxHeartbeats 4000000 in
set_option maxRecDepth 100000 in
theorem c_X1_init (l : Launch) (D : va_G) (cy : Nat → ClassId) (R : va_W) (h : Nat) : GK l D (gts cy) yX1_init cX1_init 2 2 19 72 [.ref h] ((h, .inr (2, [.null, .int (nI 0)])) :: R) (fun r W2 => r = none ∧ ∃ (a c0 c1 c2 c3 c4 c5 c6 c7 c8 c9 c10 c11 c12 c13 c14 c15 c16 c17 : Nat), W2 = (c17, .inr (1, [.long 0, .long 0, .int (nI 0)])) :: (c16, .inr (1, [.long 0, .long 0, .int (nI 0)])) :: (c15, .inr (1, [.long 0, .long 0, .int (nI 0)])) :: (c14, .inr (1, [.long 0, .long 0, .int (nI 0)])) :: (c13, .inr (1, [.long 0, .long 0, .int (nI 0)])) :: (c12, .inr (1, [.long 0, .long 0, .int (nI 0)])) :: (c11, .inr (1, [.long 0, .long 0, .int (nI 0)])) :: (c10, .inr (1, [.long 0, .long 0, .int (nI 0)])) :: (c9, .inr (1, [.long 0, .long 0, .int (nI 0)])) :: (c8, .inr (1, [.long 0, .long 0, .int (nI 0)])) :: (c7, .inr (1, [.long 0, .long 0, .int (nI 0)])) :: (c6, .inr (1, [.long 0, .long 0, .int (nI 0)])) :: (c5, .inr (1, [.long 0, .long 0, .int (nI 0)])) :: (c4, .inr (1, [.long 0, .long 0, .int (nI 0)])) :: (c3, .inr (1, [.long 0, .long 0, .int (nI 0)])) :: (c2, .inr (1, [.long 0, .long 0, .int (nI 0)])) :: (c1, .inr (1, [.long 0, .long 0, .int (nI 0)])) :: (c0, .inr (1, [.long 0, .long 0, .int (nI 0)])) :: (a, .inl (cy 4, 18, .inr (.inr (.inr (.inr (va_up (va_up (va_up (va_up (va_up (va_up (va_up (va_up (va_up (va_up (va_up (va_up (va_up (va_up (va_up (va_up (va_up (va_up (fun _ => none) 0 (some c0)) 1 (some c1)) 2 (some c2)) 3 (some c3)) 4 (some c4)) 5 (some c5)) 6 (some c6)) 7 (some c7)) 8 (some c8)) 9 (some c9)) 10 (some c10)) 11 (some c11)) 12 (some c12)) 13 (some c13)) 14 (some c14)) 15 (some c15)) 16 (some c16)) 17 (some c17))))))) :: (h, .inr (2, [.ref a, .int (nI 0)])) :: R) := by
  refine g_introK (by decide +kernel) rfl (lv := [(0, .ref h)]) rfl (Nat.le_of_ble_eq_true rfl) ?_
  intro p e s m below meth c C0 hao hin G ls hl
  have hx := C0.1
  have hb := C0.2.1
  have hown := C0.2.2.2.2.2.1
  have hts := C0.2.2.2.2.2.2.1
  refine lv_aload_n hx hb dX1_init_0 rfl (lv_at hl 0 rfl) ?_
  refine g_obj C0 ml_X1_3 hl.1 dX1_init_1 ⟨(Nat.le_of_ble_eq_true rfl), (Nat.le_of_ble_eq_true rfl)⟩ (Nat.le_of_ble_eq_true rfl) ?_
  refine lv_aload_n hx hb dX1_init_4 rfl (lv_at hl 0 rfl) ?_
  refine lv_bipush (v := 18) hx hb dX1_init_5 (by decide) ?_
  refine g_newQ (n := 18) C0 G hao xl_X1_9 1 rfl rfl (by decide) (Nat.le_of_ble_eq_true rfl) (Nat.le_of_ble_eq_true rfl) dX1_init_7 (fun q1 H G => ?_)
  refine g_putF (q0 := 1) (W2 := (q1, .inl (cy 4, 18, .inr (.inr (.inr (.inr (fun _ => none)))))) :: (h, .inr (2, [.ref q1, .int (nI 0)])) :: R) C0 G ft_X1 in_X1 hin rfl rfl 0 (by decide) fl_X1_11 (fun _ h => h) rfl rfl rfl rfl (Nat.le_of_ble_eq_true rfl) rfl dX1_init_10 (fun H locs G => ?_)
  refine lv_iconst (v := 0) hx hb dX1_init_13 (by decide) ?_
  refine lv_istore_n (lv' := [(1, .int 0), (0, .ref h)]) hx hb dX1_init_14 rfl hl (by decide) rfl (fun ls hl => ?_)
  refine lv_iload_n hx hb dX1_init_15 rfl (lv_at hl 0 rfl) ?_
  refine lv_aload_n hx hb dX1_init_16 rfl (lv_at hl 1 rfl) ?_
  refine g_get (q0 := 1) (v := .ref q1) C0 G in_X1 rfl rfl 0 (by decide) fl_X1_11 (fun _ h => h) rfl dX1_init_17 ?_
  refine g_alen (q0 := 0) (v := 18) C0 G rfl 1 rfl rfl dX1_init_20 ?_
  refine lv_icmp_ge (tgt := 43) hx hb dX1_init_21 (by decide) (fun c_21 => ?_) (fun c_21 => ?_)
  · exact absurd c_21 (by decide)
  · skip
    refine lv_aload_n hx hb dX1_init_24 rfl (lv_at hl 1 rfl) ?_
    refine g_get (q0 := 1) (v := .ref q1) C0 G in_X1 rfl rfl 0 (by decide) fl_X1_11 (fun _ h => h) rfl dX1_init_25 ?_
    refine lv_iload_n hx hb dX1_init_28 rfl (lv_at hl 0 rfl) ?_
    refine g_newO (ci := 1) (fs := [.long 0, .long 0, .int (nI 0)]) C0 G in_X0 ft_X0 xl_X1_9 ist_X0 ini_X0 rfl (by intro j hj; rcases (show j = 0 ∨ j = 1 ∨ j = 2 by omega) with rfl | rfl | rfl <;> rfl) (Nat.le_of_ble_eq_true rfl) (Nat.le_of_ble_eq_true rfl) dX1_init_29 (fun q2 H G => ?_)
    refine lv_dup hx hb dX1_init_32 rfl ?_
    refine g_callKN (As := []) (rest := [.ref q2, .int 0, .ref q1]) C0 G hao (c_X0_init l D cy (W1 := (q2, .inr (1, [.long 0, .long 0, .int (nI 0)])) :: (q1, .inl (cy 4, 18, .inr (.inr (.inr (.inr (fun _ => none)))))) :: (h, .inr (2, [.ref q1, .int (nI 0)])) :: R) (h := q2)) k_X0_init nm_X1_17 dX1_init_33 rfl rfl hl.1 (Nat.le_of_ble_eq_true rfl) ⟨(Nat.le_of_ble_eq_true rfl), (Nat.le_of_ble_eq_true rfl)⟩ ⟨(Nat.le_of_ble_eq_true rfl), (Nat.le_of_ble_eq_true rfl)⟩ (fun r W2 H locs hp G => ?_)
    obtain ⟨rfl, hw⟩ := hp
    have G := g_wc hw G
    refine W.eq (g2 := F0 m 36 ls [.ref q2, .int 0, .ref q1]) rfl ?_
    refine g_astq (q0 := 1) (qk := 0) (n := 18) (W2 := (q2, .inr (1, [.long 0, .long 0, .int (nI 0)])) :: (q1, .inl (cy 4, 18, .inr (.inr (.inr (.inr (va_up (fun _ => none) 0 (some q2))))))) :: (h, .inr (2, [.ref q1, .int (nI 0)])) :: R) C0 G rfl 1 rfl rfl rfl (vp_in_nI (n := 0) (by decide) (by decide)) rfl dX1_init_36 (fun H locs G => ?_)
    refine lv_iinc (v := 1) (lv' := [(1, .int 1), (0, .ref h)]) hx hb dX1_init_37 hl (k := 0) rfl (by decide) (by decide) rfl (fun ls hl => ?_)
    refine lv_goto (tgt := 15) hx hb dX1_init_40 (by decide) ?_
    refine lv_iload_n hx hb dX1_init_15 rfl (lv_at hl 0 rfl) ?_
    refine lv_aload_n hx hb dX1_init_16 rfl (lv_at hl 1 rfl) ?_
    refine g_get (q0 := 2) (v := .ref q1) C0 G in_X1 rfl rfl 0 (by decide) fl_X1_11 (fun _ h => h) rfl dX1_init_17 ?_
    refine g_alen (q0 := 1) (v := 18) C0 G rfl 1 rfl rfl dX1_init_20 ?_
    refine lv_icmp_ge (tgt := 43) hx hb dX1_init_21 (by decide) (fun c_21 => ?_) (fun c_21 => ?_)
    · exact absurd c_21 (by decide)
    · skip
      refine lv_aload_n hx hb dX1_init_24 rfl (lv_at hl 1 rfl) ?_
      refine g_get (q0 := 2) (v := .ref q1) C0 G in_X1 rfl rfl 0 (by decide) fl_X1_11 (fun _ h => h) rfl dX1_init_25 ?_
      refine lv_iload_n hx hb dX1_init_28 rfl (lv_at hl 0 rfl) ?_
      refine g_newO (ci := 1) (fs := [.long 0, .long 0, .int (nI 0)]) C0 G in_X0 ft_X0 xl_X1_9 ist_X0 ini_X0 rfl (by intro j hj; rcases (show j = 0 ∨ j = 1 ∨ j = 2 by omega) with rfl | rfl | rfl <;> rfl) (Nat.le_of_ble_eq_true rfl) (Nat.le_of_ble_eq_true rfl) dX1_init_29 (fun q3 H G => ?_)
      refine lv_dup hx hb dX1_init_32 rfl ?_
      refine g_callKN (As := []) (rest := [.ref q3, .int 1, .ref q1]) C0 G hao (c_X0_init l D cy (W1 := (q3, .inr (1, [.long 0, .long 0, .int (nI 0)])) :: (q2, .inr (1, [.long 0, .long 0, .int (nI 0)])) :: (q1, .inl (cy 4, 18, .inr (.inr (.inr (.inr (va_up (fun _ => none) 0 (some q2))))))) :: (h, .inr (2, [.ref q1, .int (nI 0)])) :: R) (h := q3)) k_X0_init nm_X1_17 dX1_init_33 rfl rfl hl.1 (Nat.le_of_ble_eq_true rfl) ⟨(Nat.le_of_ble_eq_true rfl), (Nat.le_of_ble_eq_true rfl)⟩ ⟨(Nat.le_of_ble_eq_true rfl), (Nat.le_of_ble_eq_true rfl)⟩ (fun r W2 H locs hp G => ?_)
      obtain ⟨rfl, hw⟩ := hp
      have G := g_wc hw G
      refine W.eq (g2 := F0 m 36 ls [.ref q3, .int 1, .ref q1]) rfl ?_
      refine g_astq (q0 := 2) (qk := 0) (n := 18) (W2 := (q3, .inr (1, [.long 0, .long 0, .int (nI 0)])) :: (q2, .inr (1, [.long 0, .long 0, .int (nI 0)])) :: (q1, .inl (cy 4, 18, .inr (.inr (.inr (.inr (va_up (va_up (fun _ => none) 0 (some q2)) 1 (some q3))))))) :: (h, .inr (2, [.ref q1, .int (nI 0)])) :: R) C0 G rfl 1 rfl rfl rfl (vp_in_nI (n := 1) (by decide) (by decide)) rfl dX1_init_36 (fun H locs G => ?_)
      refine lv_iinc (v := 2) (lv' := [(1, .int 2), (0, .ref h)]) hx hb dX1_init_37 hl (k := 0) rfl (by decide) (by decide) rfl (fun ls hl => ?_)
      refine lv_goto (tgt := 15) hx hb dX1_init_40 (by decide) ?_
      refine lv_iload_n hx hb dX1_init_15 rfl (lv_at hl 0 rfl) ?_
      refine lv_aload_n hx hb dX1_init_16 rfl (lv_at hl 1 rfl) ?_
      refine g_get (q0 := 3) (v := .ref q1) C0 G in_X1 rfl rfl 0 (by decide) fl_X1_11 (fun _ h => h) rfl dX1_init_17 ?_
      refine g_alen (q0 := 2) (v := 18) C0 G rfl 1 rfl rfl dX1_init_20 ?_
      refine lv_icmp_ge (tgt := 43) hx hb dX1_init_21 (by decide) (fun c_21 => ?_) (fun c_21 => ?_)
      · exact absurd c_21 (by decide)
      · skip
        refine lv_aload_n hx hb dX1_init_24 rfl (lv_at hl 1 rfl) ?_
        refine g_get (q0 := 3) (v := .ref q1) C0 G in_X1 rfl rfl 0 (by decide) fl_X1_11 (fun _ h => h) rfl dX1_init_25 ?_
        refine lv_iload_n hx hb dX1_init_28 rfl (lv_at hl 0 rfl) ?_
        refine g_newO (ci := 1) (fs := [.long 0, .long 0, .int (nI 0)]) C0 G in_X0 ft_X0 xl_X1_9 ist_X0 ini_X0 rfl (by intro j hj; rcases (show j = 0 ∨ j = 1 ∨ j = 2 by omega) with rfl | rfl | rfl <;> rfl) (Nat.le_of_ble_eq_true rfl) (Nat.le_of_ble_eq_true rfl) dX1_init_29 (fun q4 H G => ?_)
        refine lv_dup hx hb dX1_init_32 rfl ?_
        refine g_callKN (As := []) (rest := [.ref q4, .int 2, .ref q1]) C0 G hao (c_X0_init l D cy (W1 := (q4, .inr (1, [.long 0, .long 0, .int (nI 0)])) :: (q3, .inr (1, [.long 0, .long 0, .int (nI 0)])) :: (q2, .inr (1, [.long 0, .long 0, .int (nI 0)])) :: (q1, .inl (cy 4, 18, .inr (.inr (.inr (.inr (va_up (va_up (fun _ => none) 0 (some q2)) 1 (some q3))))))) :: (h, .inr (2, [.ref q1, .int (nI 0)])) :: R) (h := q4)) k_X0_init nm_X1_17 dX1_init_33 rfl rfl hl.1 (Nat.le_of_ble_eq_true rfl) ⟨(Nat.le_of_ble_eq_true rfl), (Nat.le_of_ble_eq_true rfl)⟩ ⟨(Nat.le_of_ble_eq_true rfl), (Nat.le_of_ble_eq_true rfl)⟩ (fun r W2 H locs hp G => ?_)
        obtain ⟨rfl, hw⟩ := hp
        have G := g_wc hw G
        refine W.eq (g2 := F0 m 36 ls [.ref q4, .int 2, .ref q1]) rfl ?_
        refine g_astq (q0 := 3) (qk := 0) (n := 18) (W2 := (q4, .inr (1, [.long 0, .long 0, .int (nI 0)])) :: (q3, .inr (1, [.long 0, .long 0, .int (nI 0)])) :: (q2, .inr (1, [.long 0, .long 0, .int (nI 0)])) :: (q1, .inl (cy 4, 18, .inr (.inr (.inr (.inr (va_up (va_up (va_up (fun _ => none) 0 (some q2)) 1 (some q3)) 2 (some q4))))))) :: (h, .inr (2, [.ref q1, .int (nI 0)])) :: R) C0 G rfl 1 rfl rfl rfl (vp_in_nI (n := 2) (by decide) (by decide)) rfl dX1_init_36 (fun H locs G => ?_)
        refine lv_iinc (v := 3) (lv' := [(1, .int 3), (0, .ref h)]) hx hb dX1_init_37 hl (k := 0) rfl (by decide) (by decide) rfl (fun ls hl => ?_)
        refine lv_goto (tgt := 15) hx hb dX1_init_40 (by decide) ?_
        refine lv_iload_n hx hb dX1_init_15 rfl (lv_at hl 0 rfl) ?_
        refine lv_aload_n hx hb dX1_init_16 rfl (lv_at hl 1 rfl) ?_
        refine g_get (q0 := 4) (v := .ref q1) C0 G in_X1 rfl rfl 0 (by decide) fl_X1_11 (fun _ h => h) rfl dX1_init_17 ?_
        refine g_alen (q0 := 3) (v := 18) C0 G rfl 1 rfl rfl dX1_init_20 ?_
        refine lv_icmp_ge (tgt := 43) hx hb dX1_init_21 (by decide) (fun c_21 => ?_) (fun c_21 => ?_)
        · exact absurd c_21 (by decide)
        · skip
          refine lv_aload_n hx hb dX1_init_24 rfl (lv_at hl 1 rfl) ?_
          refine g_get (q0 := 4) (v := .ref q1) C0 G in_X1 rfl rfl 0 (by decide) fl_X1_11 (fun _ h => h) rfl dX1_init_25 ?_
          refine lv_iload_n hx hb dX1_init_28 rfl (lv_at hl 0 rfl) ?_
          refine g_newO (ci := 1) (fs := [.long 0, .long 0, .int (nI 0)]) C0 G in_X0 ft_X0 xl_X1_9 ist_X0 ini_X0 rfl (by intro j hj; rcases (show j = 0 ∨ j = 1 ∨ j = 2 by omega) with rfl | rfl | rfl <;> rfl) (Nat.le_of_ble_eq_true rfl) (Nat.le_of_ble_eq_true rfl) dX1_init_29 (fun q5 H G => ?_)
          refine lv_dup hx hb dX1_init_32 rfl ?_
          refine g_callKN (As := []) (rest := [.ref q5, .int 3, .ref q1]) C0 G hao (c_X0_init l D cy (W1 := (q5, .inr (1, [.long 0, .long 0, .int (nI 0)])) :: (q4, .inr (1, [.long 0, .long 0, .int (nI 0)])) :: (q3, .inr (1, [.long 0, .long 0, .int (nI 0)])) :: (q2, .inr (1, [.long 0, .long 0, .int (nI 0)])) :: (q1, .inl (cy 4, 18, .inr (.inr (.inr (.inr (va_up (va_up (va_up (fun _ => none) 0 (some q2)) 1 (some q3)) 2 (some q4))))))) :: (h, .inr (2, [.ref q1, .int (nI 0)])) :: R) (h := q5)) k_X0_init nm_X1_17 dX1_init_33 rfl rfl hl.1 (Nat.le_of_ble_eq_true rfl) ⟨(Nat.le_of_ble_eq_true rfl), (Nat.le_of_ble_eq_true rfl)⟩ ⟨(Nat.le_of_ble_eq_true rfl), (Nat.le_of_ble_eq_true rfl)⟩ (fun r W2 H locs hp G => ?_)
          obtain ⟨rfl, hw⟩ := hp
          have G := g_wc hw G
          refine W.eq (g2 := F0 m 36 ls [.ref q5, .int 3, .ref q1]) rfl ?_
          refine g_astq (q0 := 4) (qk := 0) (n := 18) (W2 := (q5, .inr (1, [.long 0, .long 0, .int (nI 0)])) :: (q4, .inr (1, [.long 0, .long 0, .int (nI 0)])) :: (q3, .inr (1, [.long 0, .long 0, .int (nI 0)])) :: (q2, .inr (1, [.long 0, .long 0, .int (nI 0)])) :: (q1, .inl (cy 4, 18, .inr (.inr (.inr (.inr (va_up (va_up (va_up (va_up (fun _ => none) 0 (some q2)) 1 (some q3)) 2 (some q4)) 3 (some q5))))))) :: (h, .inr (2, [.ref q1, .int (nI 0)])) :: R) C0 G rfl 1 rfl rfl rfl (vp_in_nI (n := 3) (by decide) (by decide)) rfl dX1_init_36 (fun H locs G => ?_)
          refine lv_iinc (v := 4) (lv' := [(1, .int 4), (0, .ref h)]) hx hb dX1_init_37 hl (k := 0) rfl (by decide) (by decide) rfl (fun ls hl => ?_)
          refine lv_goto (tgt := 15) hx hb dX1_init_40 (by decide) ?_
          refine lv_iload_n hx hb dX1_init_15 rfl (lv_at hl 0 rfl) ?_
          refine lv_aload_n hx hb dX1_init_16 rfl (lv_at hl 1 rfl) ?_
          refine g_get (q0 := 5) (v := .ref q1) C0 G in_X1 rfl rfl 0 (by decide) fl_X1_11 (fun _ h => h) rfl dX1_init_17 ?_
          refine g_alen (q0 := 4) (v := 18) C0 G rfl 1 rfl rfl dX1_init_20 ?_
          refine lv_icmp_ge (tgt := 43) hx hb dX1_init_21 (by decide) (fun c_21 => ?_) (fun c_21 => ?_)
          · exact absurd c_21 (by decide)
          · skip
            refine lv_aload_n hx hb dX1_init_24 rfl (lv_at hl 1 rfl) ?_
            refine g_get (q0 := 5) (v := .ref q1) C0 G in_X1 rfl rfl 0 (by decide) fl_X1_11 (fun _ h => h) rfl dX1_init_25 ?_
            refine lv_iload_n hx hb dX1_init_28 rfl (lv_at hl 0 rfl) ?_
            refine g_newO (ci := 1) (fs := [.long 0, .long 0, .int (nI 0)]) C0 G in_X0 ft_X0 xl_X1_9 ist_X0 ini_X0 rfl (by intro j hj; rcases (show j = 0 ∨ j = 1 ∨ j = 2 by omega) with rfl | rfl | rfl <;> rfl) (Nat.le_of_ble_eq_true rfl) (Nat.le_of_ble_eq_true rfl) dX1_init_29 (fun q6 H G => ?_)
            refine lv_dup hx hb dX1_init_32 rfl ?_
            refine g_callKN (As := []) (rest := [.ref q6, .int 4, .ref q1]) C0 G hao (c_X0_init l D cy (W1 := (q6, .inr (1, [.long 0, .long 0, .int (nI 0)])) :: (q5, .inr (1, [.long 0, .long 0, .int (nI 0)])) :: (q4, .inr (1, [.long 0, .long 0, .int (nI 0)])) :: (q3, .inr (1, [.long 0, .long 0, .int (nI 0)])) :: (q2, .inr (1, [.long 0, .long 0, .int (nI 0)])) :: (q1, .inl (cy 4, 18, .inr (.inr (.inr (.inr (va_up (va_up (va_up (va_up (fun _ => none) 0 (some q2)) 1 (some q3)) 2 (some q4)) 3 (some q5))))))) :: (h, .inr (2, [.ref q1, .int (nI 0)])) :: R) (h := q6)) k_X0_init nm_X1_17 dX1_init_33 rfl rfl hl.1 (Nat.le_of_ble_eq_true rfl) ⟨(Nat.le_of_ble_eq_true rfl), (Nat.le_of_ble_eq_true rfl)⟩ ⟨(Nat.le_of_ble_eq_true rfl), (Nat.le_of_ble_eq_true rfl)⟩ (fun r W2 H locs hp G => ?_)
            obtain ⟨rfl, hw⟩ := hp
            have G := g_wc hw G
            refine W.eq (g2 := F0 m 36 ls [.ref q6, .int 4, .ref q1]) rfl ?_
            refine g_astq (q0 := 5) (qk := 0) (n := 18) (W2 := (q6, .inr (1, [.long 0, .long 0, .int (nI 0)])) :: (q5, .inr (1, [.long 0, .long 0, .int (nI 0)])) :: (q4, .inr (1, [.long 0, .long 0, .int (nI 0)])) :: (q3, .inr (1, [.long 0, .long 0, .int (nI 0)])) :: (q2, .inr (1, [.long 0, .long 0, .int (nI 0)])) :: (q1, .inl (cy 4, 18, .inr (.inr (.inr (.inr (va_up (va_up (va_up (va_up (va_up (fun _ => none) 0 (some q2)) 1 (some q3)) 2 (some q4)) 3 (some q5)) 4 (some q6))))))) :: (h, .inr (2, [.ref q1, .int (nI 0)])) :: R) C0 G rfl 1 rfl rfl rfl (vp_in_nI (n := 4) (by decide) (by decide)) rfl dX1_init_36 (fun H locs G => ?_)
            refine lv_iinc (v := 5) (lv' := [(1, .int 5), (0, .ref h)]) hx hb dX1_init_37 hl (k := 0) rfl (by decide) (by decide) rfl (fun ls hl => ?_)
            refine lv_goto (tgt := 15) hx hb dX1_init_40 (by decide) ?_
            refine lv_iload_n hx hb dX1_init_15 rfl (lv_at hl 0 rfl) ?_
            refine lv_aload_n hx hb dX1_init_16 rfl (lv_at hl 1 rfl) ?_
            refine g_get (q0 := 6) (v := .ref q1) C0 G in_X1 rfl rfl 0 (by decide) fl_X1_11 (fun _ h => h) rfl dX1_init_17 ?_
            refine g_alen (q0 := 5) (v := 18) C0 G rfl 1 rfl rfl dX1_init_20 ?_
            refine lv_icmp_ge (tgt := 43) hx hb dX1_init_21 (by decide) (fun c_21 => ?_) (fun c_21 => ?_)
            · exact absurd c_21 (by decide)
            · skip
              refine lv_aload_n hx hb dX1_init_24 rfl (lv_at hl 1 rfl) ?_
              refine g_get (q0 := 6) (v := .ref q1) C0 G in_X1 rfl rfl 0 (by decide) fl_X1_11 (fun _ h => h) rfl dX1_init_25 ?_
              refine lv_iload_n hx hb dX1_init_28 rfl (lv_at hl 0 rfl) ?_
              refine g_newO (ci := 1) (fs := [.long 0, .long 0, .int (nI 0)]) C0 G in_X0 ft_X0 xl_X1_9 ist_X0 ini_X0 rfl (by intro j hj; rcases (show j = 0 ∨ j = 1 ∨ j = 2 by omega) with rfl | rfl | rfl <;> rfl) (Nat.le_of_ble_eq_true rfl) (Nat.le_of_ble_eq_true rfl) dX1_init_29 (fun q7 H G => ?_)
              refine lv_dup hx hb dX1_init_32 rfl ?_
              refine g_callKN (As := []) (rest := [.ref q7, .int 5, .ref q1]) C0 G hao (c_X0_init l D cy (W1 := (q7, .inr (1, [.long 0, .long 0, .int (nI 0)])) :: (q6, .inr (1, [.long 0, .long 0, .int (nI 0)])) :: (q5, .inr (1, [.long 0, .long 0, .int (nI 0)])) :: (q4, .inr (1, [.long 0, .long 0, .int (nI 0)])) :: (q3, .inr (1, [.long 0, .long 0, .int (nI 0)])) :: (q2, .inr (1, [.long 0, .long 0, .int (nI 0)])) :: (q1, .inl (cy 4, 18, .inr (.inr (.inr (.inr (va_up (va_up (va_up (va_up (va_up (fun _ => none) 0 (some q2)) 1 (some q3)) 2 (some q4)) 3 (some q5)) 4 (some q6))))))) :: (h, .inr (2, [.ref q1, .int (nI 0)])) :: R) (h := q7)) k_X0_init nm_X1_17 dX1_init_33 rfl rfl hl.1 (Nat.le_of_ble_eq_true rfl) ⟨(Nat.le_of_ble_eq_true rfl), (Nat.le_of_ble_eq_true rfl)⟩ ⟨(Nat.le_of_ble_eq_true rfl), (Nat.le_of_ble_eq_true rfl)⟩ (fun r W2 H locs hp G => ?_)
              obtain ⟨rfl, hw⟩ := hp
              have G := g_wc hw G
              refine W.eq (g2 := F0 m 36 ls [.ref q7, .int 5, .ref q1]) rfl ?_
              refine g_astq (q0 := 6) (qk := 0) (n := 18) (W2 := (q7, .inr (1, [.long 0, .long 0, .int (nI 0)])) :: (q6, .inr (1, [.long 0, .long 0, .int (nI 0)])) :: (q5, .inr (1, [.long 0, .long 0, .int (nI 0)])) :: (q4, .inr (1, [.long 0, .long 0, .int (nI 0)])) :: (q3, .inr (1, [.long 0, .long 0, .int (nI 0)])) :: (q2, .inr (1, [.long 0, .long 0, .int (nI 0)])) :: (q1, .inl (cy 4, 18, .inr (.inr (.inr (.inr (va_up (va_up (va_up (va_up (va_up (va_up (fun _ => none) 0 (some q2)) 1 (some q3)) 2 (some q4)) 3 (some q5)) 4 (some q6)) 5 (some q7))))))) :: (h, .inr (2, [.ref q1, .int (nI 0)])) :: R) C0 G rfl 1 rfl rfl rfl (vp_in_nI (n := 5) (by decide) (by decide)) rfl dX1_init_36 (fun H locs G => ?_)
              refine lv_iinc (v := 6) (lv' := [(1, .int 6), (0, .ref h)]) hx hb dX1_init_37 hl (k := 0) rfl (by decide) (by decide) rfl (fun ls hl => ?_)
              refine lv_goto (tgt := 15) hx hb dX1_init_40 (by decide) ?_
              refine lv_iload_n hx hb dX1_init_15 rfl (lv_at hl 0 rfl) ?_
              refine lv_aload_n hx hb dX1_init_16 rfl (lv_at hl 1 rfl) ?_
              refine g_get (q0 := 7) (v := .ref q1) C0 G in_X1 rfl rfl 0 (by decide) fl_X1_11 (fun _ h => h) rfl dX1_init_17 ?_
              refine g_alen (q0 := 6) (v := 18) C0 G rfl 1 rfl rfl dX1_init_20 ?_
              refine lv_icmp_ge (tgt := 43) hx hb dX1_init_21 (by decide) (fun c_21 => ?_) (fun c_21 => ?_)
              · exact absurd c_21 (by decide)
              · skip
                refine lv_aload_n hx hb dX1_init_24 rfl (lv_at hl 1 rfl) ?_
                refine g_get (q0 := 7) (v := .ref q1) C0 G in_X1 rfl rfl 0 (by decide) fl_X1_11 (fun _ h => h) rfl dX1_init_25 ?_
                refine lv_iload_n hx hb dX1_init_28 rfl (lv_at hl 0 rfl) ?_
                refine g_newO (ci := 1) (fs := [.long 0, .long 0, .int (nI 0)]) C0 G in_X0 ft_X0 xl_X1_9 ist_X0 ini_X0 rfl (by intro j hj; rcases (show j = 0 ∨ j = 1 ∨ j = 2 by omega) with rfl | rfl | rfl <;> rfl) (Nat.le_of_ble_eq_true rfl) (Nat.le_of_ble_eq_true rfl) dX1_init_29 (fun q8 H G => ?_)
                refine lv_dup hx hb dX1_init_32 rfl ?_
                refine g_callKN (As := []) (rest := [.ref q8, .int 6, .ref q1]) C0 G hao (c_X0_init l D cy (W1 := (q8, .inr (1, [.long 0, .long 0, .int (nI 0)])) :: (q7, .inr (1, [.long 0, .long 0, .int (nI 0)])) :: (q6, .inr (1, [.long 0, .long 0, .int (nI 0)])) :: (q5, .inr (1, [.long 0, .long 0, .int (nI 0)])) :: (q4, .inr (1, [.long 0, .long 0, .int (nI 0)])) :: (q3, .inr (1, [.long 0, .long 0, .int (nI 0)])) :: (q2, .inr (1, [.long 0, .long 0, .int (nI 0)])) :: (q1, .inl (cy 4, 18, .inr (.inr (.inr (.inr (va_up (va_up (va_up (va_up (va_up (va_up (fun _ => none) 0 (some q2)) 1 (some q3)) 2 (some q4)) 3 (some q5)) 4 (some q6)) 5 (some q7))))))) :: (h, .inr (2, [.ref q1, .int (nI 0)])) :: R) (h := q8)) k_X0_init nm_X1_17 dX1_init_33 rfl rfl hl.1 (Nat.le_of_ble_eq_true rfl) ⟨(Nat.le_of_ble_eq_true rfl), (Nat.le_of_ble_eq_true rfl)⟩ ⟨(Nat.le_of_ble_eq_true rfl), (Nat.le_of_ble_eq_true rfl)⟩ (fun r W2 H locs hp G => ?_)
                obtain ⟨rfl, hw⟩ := hp
                have G := g_wc hw G
                refine W.eq (g2 := F0 m 36 ls [.ref q8, .int 6, .ref q1]) rfl ?_
                refine g_astq (q0 := 7) (qk := 0) (n := 18) (W2 := (q8, .inr (1, [.long 0, .long 0, .int (nI 0)])) :: (q7, .inr (1, [.long 0, .long 0, .int (nI 0)])) :: (q6, .inr (1, [.long 0, .long 0, .int (nI 0)])) :: (q5, .inr (1, [.long 0, .long 0, .int (nI 0)])) :: (q4, .inr (1, [.long 0, .long 0, .int (nI 0)])) :: (q3, .inr (1, [.long 0, .long 0, .int (nI 0)])) :: (q2, .inr (1, [.long 0, .long 0, .int (nI 0)])) :: (q1, .inl (cy 4, 18, .inr (.inr (.inr (.inr (va_up (va_up (va_up (va_up (va_up (va_up (va_up (fun _ => none) 0 (some q2)) 1 (some q3)) 2 (some q4)) 3 (some q5)) 4 (some q6)) 5 (some q7)) 6 (some q8))))))) :: (h, .inr (2, [.ref q1, .int (nI 0)])) :: R) C0 G rfl 1 rfl rfl rfl (vp_in_nI (n := 6) (by decide) (by decide)) rfl dX1_init_36 (fun H locs G => ?_)
                refine lv_iinc (v := 7) (lv' := [(1, .int 7), (0, .ref h)]) hx hb dX1_init_37 hl (k := 0) rfl (by decide) (by decide) rfl (fun ls hl => ?_)
                refine lv_goto (tgt := 15) hx hb dX1_init_40 (by decide) ?_
                refine lv_iload_n hx hb dX1_init_15 rfl (lv_at hl 0 rfl) ?_
                refine lv_aload_n hx hb dX1_init_16 rfl (lv_at hl 1 rfl) ?_
                refine g_get (q0 := 8) (v := .ref q1) C0 G in_X1 rfl rfl 0 (by decide) fl_X1_11 (fun _ h => h) rfl dX1_init_17 ?_
                refine g_alen (q0 := 7) (v := 18) C0 G rfl 1 rfl rfl dX1_init_20 ?_
                refine lv_icmp_ge (tgt := 43) hx hb dX1_init_21 (by decide) (fun c_21 => ?_) (fun c_21 => ?_)
                · exact absurd c_21 (by decide)
                · skip
                  refine lv_aload_n hx hb dX1_init_24 rfl (lv_at hl 1 rfl) ?_
                  refine g_get (q0 := 8) (v := .ref q1) C0 G in_X1 rfl rfl 0 (by decide) fl_X1_11 (fun _ h => h) rfl dX1_init_25 ?_
                  refine lv_iload_n hx hb dX1_init_28 rfl (lv_at hl 0 rfl) ?_
                  refine g_newO (ci := 1) (fs := [.long 0, .long 0, .int (nI 0)]) C0 G in_X0 ft_X0 xl_X1_9 ist_X0 ini_X0 rfl (by intro j hj; rcases (show j = 0 ∨ j = 1 ∨ j = 2 by omega) with rfl | rfl | rfl <;> rfl) (Nat.le_of_ble_eq_true rfl) (Nat.le_of_ble_eq_true rfl) dX1_init_29 (fun q9 H G => ?_)
                  refine lv_dup hx hb dX1_init_32 rfl ?_
                  refine g_callKN (As := []) (rest := [.ref q9, .int 7, .ref q1]) C0 G hao (c_X0_init l D cy (W1 := (q9, .inr (1, [.long 0, .long 0, .int (nI 0)])) :: (q8, .inr (1, [.long 0, .long 0, .int (nI 0)])) :: (q7, .inr (1, [.long 0, .long 0, .int (nI 0)])) :: (q6, .inr (1, [.long 0, .long 0, .int (nI 0)])) :: (q5, .inr (1, [.long 0, .long 0, .int (nI 0)])) :: (q4, .inr (1, [.long 0, .long 0, .int (nI 0)])) :: (q3, .inr (1, [.long 0, .long 0, .int (nI 0)])) :: (q2, .inr (1, [.long 0, .long 0, .int (nI 0)])) :: (q1, .inl (cy 4, 18, .inr (.inr (.inr (.inr (va_up (va_up (va_up (va_up (va_up (va_up (va_up (fun _ => none) 0 (some q2)) 1 (some q3)) 2 (some q4)) 3 (some q5)) 4 (some q6)) 5 (some q7)) 6 (some q8))))))) :: (h, .inr (2, [.ref q1, .int (nI 0)])) :: R) (h := q9)) k_X0_init nm_X1_17 dX1_init_33 rfl rfl hl.1 (Nat.le_of_ble_eq_true rfl) ⟨(Nat.le_of_ble_eq_true rfl), (Nat.le_of_ble_eq_true rfl)⟩ ⟨(Nat.le_of_ble_eq_true rfl), (Nat.le_of_ble_eq_true rfl)⟩ (fun r W2 H locs hp G => ?_)
                  obtain ⟨rfl, hw⟩ := hp
                  have G := g_wc hw G
                  refine W.eq (g2 := F0 m 36 ls [.ref q9, .int 7, .ref q1]) rfl ?_
                  refine g_astq (q0 := 8) (qk := 0) (n := 18) (W2 := (q9, .inr (1, [.long 0, .long 0, .int (nI 0)])) :: (q8, .inr (1, [.long 0, .long 0, .int (nI 0)])) :: (q7, .inr (1, [.long 0, .long 0, .int (nI 0)])) :: (q6, .inr (1, [.long 0, .long 0, .int (nI 0)])) :: (q5, .inr (1, [.long 0, .long 0, .int (nI 0)])) :: (q4, .inr (1, [.long 0, .long 0, .int (nI 0)])) :: (q3, .inr (1, [.long 0, .long 0, .int (nI 0)])) :: (q2, .inr (1, [.long 0, .long 0, .int (nI 0)])) :: (q1, .inl (cy 4, 18, .inr (.inr (.inr (.inr (va_up (va_up (va_up (va_up (va_up (va_up (va_up (va_up (fun _ => none) 0 (some q2)) 1 (some q3)) 2 (some q4)) 3 (some q5)) 4 (some q6)) 5 (some q7)) 6 (some q8)) 7 (some q9))))))) :: (h, .inr (2, [.ref q1, .int (nI 0)])) :: R) C0 G rfl 1 rfl rfl rfl (vp_in_nI (n := 7) (by decide) (by decide)) rfl dX1_init_36 (fun H locs G => ?_)
                  refine lv_iinc (v := 8) (lv' := [(1, .int 8), (0, .ref h)]) hx hb dX1_init_37 hl (k := 0) rfl (by decide) (by decide) rfl (fun ls hl => ?_)
                  refine lv_goto (tgt := 15) hx hb dX1_init_40 (by decide) ?_
                  refine lv_iload_n hx hb dX1_init_15 rfl (lv_at hl 0 rfl) ?_
                  refine lv_aload_n hx hb dX1_init_16 rfl (lv_at hl 1 rfl) ?_
                  refine g_get (q0 := 9) (v := .ref q1) C0 G in_X1 rfl rfl 0 (by decide) fl_X1_11 (fun _ h => h) rfl dX1_init_17 ?_
                  refine g_alen (q0 := 8) (v := 18) C0 G rfl 1 rfl rfl dX1_init_20 ?_
                  refine lv_icmp_ge (tgt := 43) hx hb dX1_init_21 (by decide) (fun c_21 => ?_) (fun c_21 => ?_)
                  · exact absurd c_21 (by decide)
                  · skip
                    refine lv_aload_n hx hb dX1_init_24 rfl (lv_at hl 1 rfl) ?_
                    refine g_get (q0 := 9) (v := .ref q1) C0 G in_X1 rfl rfl 0 (by decide) fl_X1_11 (fun _ h => h) rfl dX1_init_25 ?_
                    refine lv_iload_n hx hb dX1_init_28 rfl (lv_at hl 0 rfl) ?_
                    refine g_newO (ci := 1) (fs := [.long 0, .long 0, .int (nI 0)]) C0 G in_X0 ft_X0 xl_X1_9 ist_X0 ini_X0 rfl (by intro j hj; rcases (show j = 0 ∨ j = 1 ∨ j = 2 by omega) with rfl | rfl | rfl <;> rfl) (Nat.le_of_ble_eq_true rfl) (Nat.le_of_ble_eq_true rfl) dX1_init_29 (fun q10 H G => ?_)
                    refine lv_dup hx hb dX1_init_32 rfl ?_
                    refine g_callKN (As := []) (rest := [.ref q10, .int 8, .ref q1]) C0 G hao (c_X0_init l D cy (W1 := (q10, .inr (1, [.long 0, .long 0, .int (nI 0)])) :: (q9, .inr (1, [.long 0, .long 0, .int (nI 0)])) :: (q8, .inr (1, [.long 0, .long 0, .int (nI 0)])) :: (q7, .inr (1, [.long 0, .long 0, .int (nI 0)])) :: (q6, .inr (1, [.long 0, .long 0, .int (nI 0)])) :: (q5, .inr (1, [.long 0, .long 0, .int (nI 0)])) :: (q4, .inr (1, [.long 0, .long 0, .int (nI 0)])) :: (q3, .inr (1, [.long 0, .long 0, .int (nI 0)])) :: (q2, .inr (1, [.long 0, .long 0, .int (nI 0)])) :: (q1, .inl (cy 4, 18, .inr (.inr (.inr (.inr (va_up (va_up (va_up (va_up (va_up (va_up (va_up (va_up (fun _ => none) 0 (some q2)) 1 (some q3)) 2 (some q4)) 3 (some q5)) 4 (some q6)) 5 (some q7)) 6 (some q8)) 7 (some q9))))))) :: (h, .inr (2, [.ref q1, .int (nI 0)])) :: R) (h := q10)) k_X0_init nm_X1_17 dX1_init_33 rfl rfl hl.1 (Nat.le_of_ble_eq_true rfl) ⟨(Nat.le_of_ble_eq_true rfl), (Nat.le_of_ble_eq_true rfl)⟩ ⟨(Nat.le_of_ble_eq_true rfl), (Nat.le_of_ble_eq_true rfl)⟩ (fun r W2 H locs hp G => ?_)
                    obtain ⟨rfl, hw⟩ := hp
                    have G := g_wc hw G
                    refine W.eq (g2 := F0 m 36 ls [.ref q10, .int 8, .ref q1]) rfl ?_
                    refine g_astq (q0 := 9) (qk := 0) (n := 18) (W2 := (q10, .inr (1, [.long 0, .long 0, .int (nI 0)])) :: (q9, .inr (1, [.long 0, .long 0, .int (nI 0)])) :: (q8, .inr (1, [.long 0, .long 0, .int (nI 0)])) :: (q7, .inr (1, [.long 0, .long 0, .int (nI 0)])) :: (q6, .inr (1, [.long 0, .long 0, .int (nI 0)])) :: (q5, .inr (1, [.long 0, .long 0, .int (nI 0)])) :: (q4, .inr (1, [.long 0, .long 0, .int (nI 0)])) :: (q3, .inr (1, [.long 0, .long 0, .int (nI 0)])) :: (q2, .inr (1, [.long 0, .long 0, .int (nI 0)])) :: (q1, .inl (cy 4, 18, .inr (.inr (.inr (.inr (va_up (va_up (va_up (va_up (va_up (va_up (va_up (va_up (va_up (fun _ => none) 0 (some q2)) 1 (some q3)) 2 (some q4)) 3 (some q5)) 4 (some q6)) 5 (some q7)) 6 (some q8)) 7 (some q9)) 8 (some q10))))))) :: (h, .inr (2, [.ref q1, .int (nI 0)])) :: R) C0 G rfl 1 rfl rfl rfl (vp_in_nI (n := 8) (by decide) (by decide)) rfl dX1_init_36 (fun H locs G => ?_)
                    refine lv_iinc (v := 9) (lv' := [(1, .int 9), (0, .ref h)]) hx hb dX1_init_37 hl (k := 0) rfl (by decide) (by decide) rfl (fun ls hl => ?_)
                    refine lv_goto (tgt := 15) hx hb dX1_init_40 (by decide) ?_
                    refine lv_iload_n hx hb dX1_init_15 rfl (lv_at hl 0 rfl) ?_
                    refine lv_aload_n hx hb dX1_init_16 rfl (lv_at hl 1 rfl) ?_
                    refine g_get (q0 := 10) (v := .ref q1) C0 G in_X1 rfl rfl 0 (by decide) fl_X1_11 (fun _ h => h) rfl dX1_init_17 ?_
                    refine g_alen (q0 := 9) (v := 18) C0 G rfl 1 rfl rfl dX1_init_20 ?_
                    refine lv_icmp_ge (tgt := 43) hx hb dX1_init_21 (by decide) (fun c_21 => ?_) (fun c_21 => ?_)
                    · exact absurd c_21 (by decide)
                    · skip
                      refine lv_aload_n hx hb dX1_init_24 rfl (lv_at hl 1 rfl) ?_
                      refine g_get (q0 := 10) (v := .ref q1) C0 G in_X1 rfl rfl 0 (by decide) fl_X1_11 (fun _ h => h) rfl dX1_init_25 ?_
                      refine lv_iload_n hx hb dX1_init_28 rfl (lv_at hl 0 rfl) ?_
                      refine g_newO (ci := 1) (fs := [.long 0, .long 0, .int (nI 0)]) C0 G in_X0 ft_X0 xl_X1_9 ist_X0 ini_X0 rfl (by intro j hj; rcases (show j = 0 ∨ j = 1 ∨ j = 2 by omega) with rfl | rfl | rfl <;> rfl) (Nat.le_of_ble_eq_true rfl) (Nat.le_of_ble_eq_true rfl) dX1_init_29 (fun q11 H G => ?_)
                      refine lv_dup hx hb dX1_init_32 rfl ?_
                      refine g_callKN (As := []) (rest := [.ref q11, .int 9, .ref q1]) C0 G hao (c_X0_init l D cy (W1 := (q11, .inr (1, [.long 0, .long 0, .int (nI 0)])) :: (q10, .inr (1, [.long 0, .long 0, .int (nI 0)])) :: (q9, .inr (1, [.long 0, .long 0, .int (nI 0)])) :: (q8, .inr (1, [.long 0, .long 0, .int (nI 0)])) :: (q7, .inr (1, [.long 0, .long 0, .int (nI 0)])) :: (q6, .inr (1, [.long 0, .long 0, .int (nI 0)])) :: (q5, .inr (1, [.long 0, .long 0, .int (nI 0)])) :: (q4, .inr (1, [.long 0, .long 0, .int (nI 0)])) :: (q3, .inr (1, [.long 0, .long 0, .int (nI 0)])) :: (q2, .inr (1, [.long 0, .long 0, .int (nI 0)])) :: (q1, .inl (cy 4, 18, .inr (.inr (.inr (.inr (va_up (va_up (va_up (va_up (va_up (va_up (va_up (va_up (va_up (fun _ => none) 0 (some q2)) 1 (some q3)) 2 (some q4)) 3 (some q5)) 4 (some q6)) 5 (some q7)) 6 (some q8)) 7 (some q9)) 8 (some q10))))))) :: (h, .inr (2, [.ref q1, .int (nI 0)])) :: R) (h := q11)) k_X0_init nm_X1_17 dX1_init_33 rfl rfl hl.1 (Nat.le_of_ble_eq_true rfl) ⟨(Nat.le_of_ble_eq_true rfl), (Nat.le_of_ble_eq_true rfl)⟩ ⟨(Nat.le_of_ble_eq_true rfl), (Nat.le_of_ble_eq_true rfl)⟩ (fun r W2 H locs hp G => ?_)
                      obtain ⟨rfl, hw⟩ := hp
                      have G := g_wc hw G
                      refine W.eq (g2 := F0 m 36 ls [.ref q11, .int 9, .ref q1]) rfl ?_
                      refine g_astq (q0 := 10) (qk := 0) (n := 18) (W2 := (q11, .inr (1, [.long 0, .long 0, .int (nI 0)])) :: (q10, .inr (1, [.long 0, .long 0, .int (nI 0)])) :: (q9, .inr (1, [.long 0, .long 0, .int (nI 0)])) :: (q8, .inr (1, [.long 0, .long 0, .int (nI 0)])) :: (q7, .inr (1, [.long 0, .long 0, .int (nI 0)])) :: (q6, .inr (1, [.long 0, .long 0, .int (nI 0)])) :: (q5, .inr (1, [.long 0, .long 0, .int (nI 0)])) :: (q4, .inr (1, [.long 0, .long 0, .int (nI 0)])) :: (q3, .inr (1, [.long 0, .long 0, .int (nI 0)])) :: (q2, .inr (1, [.long 0, .long 0, .int (nI 0)])) :: (q1, .inl (cy 4, 18, .inr (.inr (.inr (.inr (va_up (va_up (va_up (va_up (va_up (va_up (va_up (va_up (va_up (va_up (fun _ => none) 0 (some q2)) 1 (some q3)) 2 (some q4)) 3 (some q5)) 4 (some q6)) 5 (some q7)) 6 (some q8)) 7 (some q9)) 8 (some q10)) 9 (some q11))))))) :: (h, .inr (2, [.ref q1, .int (nI 0)])) :: R) C0 G rfl 1 rfl rfl rfl (vp_in_nI (n := 9) (by decide) (by decide)) rfl dX1_init_36 (fun H locs G => ?_)
                      refine lv_iinc (v := 10) (lv' := [(1, .int 10), (0, .ref h)]) hx hb dX1_init_37 hl (k := 0) rfl (by decide) (by decide) rfl (fun ls hl => ?_)
                      refine lv_goto (tgt := 15) hx hb dX1_init_40 (by decide) ?_
                      refine lv_iload_n hx hb dX1_init_15 rfl (lv_at hl 0 rfl) ?_
                      refine lv_aload_n hx hb dX1_init_16 rfl (lv_at hl 1 rfl) ?_
                      refine g_get (q0 := 11) (v := .ref q1) C0 G in_X1 rfl rfl 0 (by decide) fl_X1_11 (fun _ h => h) rfl dX1_init_17 ?_
                      refine g_alen (q0 := 10) (v := 18) C0 G rfl 1 rfl rfl dX1_init_20 ?_
                      refine lv_icmp_ge (tgt := 43) hx hb dX1_init_21 (by decide) (fun c_21 => ?_) (fun c_21 => ?_)
                      · exact absurd c_21 (by decide)
                      · skip
                        refine lv_aload_n hx hb dX1_init_24 rfl (lv_at hl 1 rfl) ?_
                        refine g_get (q0 := 11) (v := .ref q1) C0 G in_X1 rfl rfl 0 (by decide) fl_X1_11 (fun _ h => h) rfl dX1_init_25 ?_
                        refine lv_iload_n hx hb dX1_init_28 rfl (lv_at hl 0 rfl) ?_
                        refine g_newO (ci := 1) (fs := [.long 0, .long 0, .int (nI 0)]) C0 G in_X0 ft_X0 xl_X1_9 ist_X0 ini_X0 rfl (by intro j hj; rcases (show j = 0 ∨ j = 1 ∨ j = 2 by omega) with rfl | rfl | rfl <;> rfl) (Nat.le_of_ble_eq_true rfl) (Nat.le_of_ble_eq_true rfl) dX1_init_29 (fun q12 H G => ?_)
                        refine lv_dup hx hb dX1_init_32 rfl ?_
                        refine g_callKN (As := []) (rest := [.ref q12, .int 10, .ref q1]) C0 G hao (c_X0_init l D cy (W1 := (q12, .inr (1, [.long 0, .long 0, .int (nI 0)])) :: (q11, .inr (1, [.long 0, .long 0, .int (nI 0)])) :: (q10, .inr (1, [.long 0, .long 0, .int (nI 0)])) :: (q9, .inr (1, [.long 0, .long 0, .int (nI 0)])) :: (q8, .inr (1, [.long 0, .long 0, .int (nI 0)])) :: (q7, .inr (1, [.long 0, .long 0, .int (nI 0)])) :: (q6, .inr (1, [.long 0, .long 0, .int (nI 0)])) :: (q5, .inr (1, [.long 0, .long 0, .int (nI 0)])) :: (q4, .inr (1, [.long 0, .long 0, .int (nI 0)])) :: (q3, .inr (1, [.long 0, .long 0, .int (nI 0)])) :: (q2, .inr (1, [.long 0, .long 0, .int (nI 0)])) :: (q1, .inl (cy 4, 18, .inr (.inr (.inr (.inr (va_up (va_up (va_up (va_up (va_up (va_up (va_up (va_up (va_up (va_up (fun _ => none) 0 (some q2)) 1 (some q3)) 2 (some q4)) 3 (some q5)) 4 (some q6)) 5 (some q7)) 6 (some q8)) 7 (some q9)) 8 (some q10)) 9 (some q11))))))) :: (h, .inr (2, [.ref q1, .int (nI 0)])) :: R) (h := q12)) k_X0_init nm_X1_17 dX1_init_33 rfl rfl hl.1 (Nat.le_of_ble_eq_true rfl) ⟨(Nat.le_of_ble_eq_true rfl), (Nat.le_of_ble_eq_true rfl)⟩ ⟨(Nat.le_of_ble_eq_true rfl), (Nat.le_of_ble_eq_true rfl)⟩ (fun r W2 H locs hp G => ?_)
                        obtain ⟨rfl, hw⟩ := hp
                        have G := g_wc hw G
                        refine W.eq (g2 := F0 m 36 ls [.ref q12, .int 10, .ref q1]) rfl ?_
                        refine g_astq (q0 := 11) (qk := 0) (n := 18) (W2 := (q12, .inr (1, [.long 0, .long 0, .int (nI 0)])) :: (q11, .inr (1, [.long 0, .long 0, .int (nI 0)])) :: (q10, .inr (1, [.long 0, .long 0, .int (nI 0)])) :: (q9, .inr (1, [.long 0, .long 0, .int (nI 0)])) :: (q8, .inr (1, [.long 0, .long 0, .int (nI 0)])) :: (q7, .inr (1, [.long 0, .long 0, .int (nI 0)])) :: (q6, .inr (1, [.long 0, .long 0, .int (nI 0)])) :: (q5, .inr (1, [.long 0, .long 0, .int (nI 0)])) :: (q4, .inr (1, [.long 0, .long 0, .int (nI 0)])) :: (q3, .inr (1, [.long 0, .long 0, .int (nI 0)])) :: (q2, .inr (1, [.long 0, .long 0, .int (nI 0)])) :: (q1, .inl (cy 4, 18, .inr (.inr (.inr (.inr (va_up (va_up (va_up (va_up (va_up (va_up (va_up (va_up (va_up (va_up (va_up (fun _ => none) 0 (some q2)) 1 (some q3)) 2 (some q4)) 3 (some q5)) 4 (some q6)) 5 (some q7)) 6 (some q8)) 7 (some q9)) 8 (some q10)) 9 (some q11)) 10 (some q12))))))) :: (h, .inr (2, [.ref q1, .int (nI 0)])) :: R) C0 G rfl 1 rfl rfl rfl (vp_in_nI (n := 10) (by decide) (by decide)) rfl dX1_init_36 (fun H locs G => ?_)
                        refine lv_iinc (v := 11) (lv' := [(1, .int 11), (0, .ref h)]) hx hb dX1_init_37 hl (k := 0) rfl (by decide) (by decide) rfl (fun ls hl => ?_)
                        refine lv_goto (tgt := 15) hx hb dX1_init_40 (by decide) ?_
                        refine lv_iload_n hx hb dX1_init_15 rfl (lv_at hl 0 rfl) ?_
                        refine lv_aload_n hx hb dX1_init_16 rfl (lv_at hl 1 rfl) ?_
                        refine g_get (q0 := 12) (v := .ref q1) C0 G in_X1 rfl rfl 0 (by decide) fl_X1_11 (fun _ h => h) rfl dX1_init_17 ?_
                        refine g_alen (q0 := 11) (v := 18) C0 G rfl 1 rfl rfl dX1_init_20 ?_
                        refine lv_icmp_ge (tgt := 43) hx hb dX1_init_21 (by decide) (fun c_21 => ?_) (fun c_21 => ?_)
                        · exact absurd c_21 (by decide)
                        · skip
                          refine lv_aload_n hx hb dX1_init_24 rfl (lv_at hl 1 rfl) ?_
                          refine g_get (q0 := 12) (v := .ref q1) C0 G in_X1 rfl rfl 0 (by decide) fl_X1_11 (fun _ h => h) rfl dX1_init_25 ?_
                          refine lv_iload_n hx hb dX1_init_28 rfl (lv_at hl 0 rfl) ?_
                          refine g_newO (ci := 1) (fs := [.long 0, .long 0, .int (nI 0)]) C0 G in_X0 ft_X0 xl_X1_9 ist_X0 ini_X0 rfl (by intro j hj; rcases (show j = 0 ∨ j = 1 ∨ j = 2 by omega) with rfl | rfl | rfl <;> rfl) (Nat.le_of_ble_eq_true rfl) (Nat.le_of_ble_eq_true rfl) dX1_init_29 (fun q13 H G => ?_)
                          refine lv_dup hx hb dX1_init_32 rfl ?_
                          refine g_callKN (As := []) (rest := [.ref q13, .int 11, .ref q1]) C0 G hao (c_X0_init l D cy (W1 := (q13, .inr (1, [.long 0, .long 0, .int (nI 0)])) :: (q12, .inr (1, [.long 0, .long 0, .int (nI 0)])) :: (q11, .inr (1, [.long 0, .long 0, .int (nI 0)])) :: (q10, .inr (1, [.long 0, .long 0, .int (nI 0)])) :: (q9, .inr (1, [.long 0, .long 0, .int (nI 0)])) :: (q8, .inr (1, [.long 0, .long 0, .int (nI 0)])) :: (q7, .inr (1, [.long 0, .long 0, .int (nI 0)])) :: (q6, .inr (1, [.long 0, .long 0, .int (nI 0)])) :: (q5, .inr (1, [.long 0, .long 0, .int (nI 0)])) :: (q4, .inr (1, [.long 0, .long 0, .int (nI 0)])) :: (q3, .inr (1, [.long 0, .long 0, .int (nI 0)])) :: (q2, .inr (1, [.long 0, .long 0, .int (nI 0)])) :: (q1, .inl (cy 4, 18, .inr (.inr (.inr (.inr (va_up (va_up (va_up (va_up (va_up (va_up (va_up (va_up (va_up (va_up (va_up (fun _ => none) 0 (some q2)) 1 (some q3)) 2 (some q4)) 3 (some q5)) 4 (some q6)) 5 (some q7)) 6 (some q8)) 7 (some q9)) 8 (some q10)) 9 (some q11)) 10 (some q12))))))) :: (h, .inr (2, [.ref q1, .int (nI 0)])) :: R) (h := q13)) k_X0_init nm_X1_17 dX1_init_33 rfl rfl hl.1 (Nat.le_of_ble_eq_true rfl) ⟨(Nat.le_of_ble_eq_true rfl), (Nat.le_of_ble_eq_true rfl)⟩ ⟨(Nat.le_of_ble_eq_true rfl), (Nat.le_of_ble_eq_true rfl)⟩ (fun r W2 H locs hp G => ?_)
                          obtain ⟨rfl, hw⟩ := hp
                          have G := g_wc hw G
                          refine W.eq (g2 := F0 m 36 ls [.ref q13, .int 11, .ref q1]) rfl ?_
                          refine g_astq (q0 := 12) (qk := 0) (n := 18) (W2 := (q13, .inr (1, [.long 0, .long 0, .int (nI 0)])) :: (q12, .inr (1, [.long 0, .long 0, .int (nI 0)])) :: (q11, .inr (1, [.long 0, .long 0, .int (nI 0)])) :: (q10, .inr (1, [.long 0, .long 0, .int (nI 0)])) :: (q9, .inr (1, [.long 0, .long 0, .int (nI 0)])) :: (q8, .inr (1, [.long 0, .long 0, .int (nI 0)])) :: (q7, .inr (1, [.long 0, .long 0, .int (nI 0)])) :: (q6, .inr (1, [.long 0, .long 0, .int (nI 0)])) :: (q5, .inr (1, [.long 0, .long 0, .int (nI 0)])) :: (q4, .inr (1, [.long 0, .long 0, .int (nI 0)])) :: (q3, .inr (1, [.long 0, .long 0, .int (nI 0)])) :: (q2, .inr (1, [.long 0, .long 0, .int (nI 0)])) :: (q1, .inl (cy 4, 18, .inr (.inr (.inr (.inr (va_up (va_up (va_up (va_up (va_up (va_up (va_up (va_up (va_up (va_up (va_up (va_up (fun _ => none) 0 (some q2)) 1 (some q3)) 2 (some q4)) 3 (some q5)) 4 (some q6)) 5 (some q7)) 6 (some q8)) 7 (some q9)) 8 (some q10)) 9 (some q11)) 10 (some q12)) 11 (some q13))))))) :: (h, .inr (2, [.ref q1, .int (nI 0)])) :: R) C0 G rfl 1 rfl rfl rfl (vp_in_nI (n := 11) (by decide) (by decide)) rfl dX1_init_36 (fun H locs G => ?_)
                          refine lv_iinc (v := 12) (lv' := [(1, .int 12), (0, .ref h)]) hx hb dX1_init_37 hl (k := 0) rfl (by decide) (by decide) rfl (fun ls hl => ?_)
                          refine lv_goto (tgt := 15) hx hb dX1_init_40 (by decide) ?_
                          refine lv_iload_n hx hb dX1_init_15 rfl (lv_at hl 0 rfl) ?_
                          refine lv_aload_n hx hb dX1_init_16 rfl (lv_at hl 1 rfl) ?_
                          refine g_get (q0 := 13) (v := .ref q1) C0 G in_X1 rfl rfl 0 (by decide) fl_X1_11 (fun _ h => h) rfl dX1_init_17 ?_
                          refine g_alen (q0 := 12) (v := 18) C0 G rfl 1 rfl rfl dX1_init_20 ?_
                          refine lv_icmp_ge (tgt := 43) hx hb dX1_init_21 (by decide) (fun c_21 => ?_) (fun c_21 => ?_)
                          · exact absurd c_21 (by decide)
                          · skip
                            refine lv_aload_n hx hb dX1_init_24 rfl (lv_at hl 1 rfl) ?_
                            refine g_get (q0 := 13) (v := .ref q1) C0 G in_X1 rfl rfl 0 (by decide) fl_X1_11 (fun _ h => h) rfl dX1_init_25 ?_
                            refine lv_iload_n hx hb dX1_init_28 rfl (lv_at hl 0 rfl) ?_
                            refine g_newO (ci := 1) (fs := [.long 0, .long 0, .int (nI 0)]) C0 G in_X0 ft_X0 xl_X1_9 ist_X0 ini_X0 rfl (by intro j hj; rcases (show j = 0 ∨ j = 1 ∨ j = 2 by omega) with rfl | rfl | rfl <;> rfl) (Nat.le_of_ble_eq_true rfl) (Nat.le_of_ble_eq_true rfl) dX1_init_29 (fun q14 H G => ?_)
                            refine lv_dup hx hb dX1_init_32 rfl ?_
                            refine g_callKN (As := []) (rest := [.ref q14, .int 12, .ref q1]) C0 G hao (c_X0_init l D cy (W1 := (q14, .inr (1, [.long 0, .long 0, .int (nI 0)])) :: (q13, .inr (1, [.long 0, .long 0, .int (nI 0)])) :: (q12, .inr (1, [.long 0, .long 0, .int (nI 0)])) :: (q11, .inr (1, [.long 0, .long 0, .int (nI 0)])) :: (q10, .inr (1, [.long 0, .long 0, .int (nI 0)])) :: (q9, .inr (1, [.long 0, .long 0, .int (nI 0)])) :: (q8, .inr (1, [.long 0, .long 0, .int (nI 0)])) :: (q7, .inr (1, [.long 0, .long 0, .int (nI 0)])) :: (q6, .inr (1, [.long 0, .long 0, .int (nI 0)])) :: (q5, .inr (1, [.long 0, .long 0, .int (nI 0)])) :: (q4, .inr (1, [.long 0, .long 0, .int (nI 0)])) :: (q3, .inr (1, [.long 0, .long 0, .int (nI 0)])) :: (q2, .inr (1, [.long 0, .long 0, .int (nI 0)])) :: (q1, .inl (cy 4, 18, .inr (.inr (.inr (.inr (va_up (va_up (va_up (va_up (va_up (va_up (va_up (va_up (va_up (va_up (va_up (va_up (fun _ => none) 0 (some q2)) 1 (some q3)) 2 (some q4)) 3 (some q5)) 4 (some q6)) 5 (some q7)) 6 (some q8)) 7 (some q9)) 8 (some q10)) 9 (some q11)) 10 (some q12)) 11 (some q13))))))) :: (h, .inr (2, [.ref q1, .int (nI 0)])) :: R) (h := q14)) k_X0_init nm_X1_17 dX1_init_33 rfl rfl hl.1 (Nat.le_of_ble_eq_true rfl) ⟨(Nat.le_of_ble_eq_true rfl), (Nat.le_of_ble_eq_true rfl)⟩ ⟨(Nat.le_of_ble_eq_true rfl), (Nat.le_of_ble_eq_true rfl)⟩ (fun r W2 H locs hp G => ?_)
                            obtain ⟨rfl, hw⟩ := hp
                            have G := g_wc hw G
                            refine W.eq (g2 := F0 m 36 ls [.ref q14, .int 12, .ref q1]) rfl ?_
                            refine g_astq (q0 := 13) (qk := 0) (n := 18) (W2 := (q14, .inr (1, [.long 0, .long 0, .int (nI 0)])) :: (q13, .inr (1, [.long 0, .long 0, .int (nI 0)])) :: (q12, .inr (1, [.long 0, .long 0, .int (nI 0)])) :: (q11, .inr (1, [.long 0, .long 0, .int (nI 0)])) :: (q10, .inr (1, [.long 0, .long 0, .int (nI 0)])) :: (q9, .inr (1, [.long 0, .long 0, .int (nI 0)])) :: (q8, .inr (1, [.long 0, .long 0, .int (nI 0)])) :: (q7, .inr (1, [.long 0, .long 0, .int (nI 0)])) :: (q6, .inr (1, [.long 0, .long 0, .int (nI 0)])) :: (q5, .inr (1, [.long 0, .long 0, .int (nI 0)])) :: (q4, .inr (1, [.long 0, .long 0, .int (nI 0)])) :: (q3, .inr (1, [.long 0, .long 0, .int (nI 0)])) :: (q2, .inr (1, [.long 0, .long 0, .int (nI 0)])) :: (q1, .inl (cy 4, 18, .inr (.inr (.inr (.inr (va_up (va_up (va_up (va_up (va_up (va_up (va_up (va_up (va_up (va_up (va_up (va_up (va_up (fun _ => none) 0 (some q2)) 1 (some q3)) 2 (some q4)) 3 (some q5)) 4 (some q6)) 5 (some q7)) 6 (some q8)) 7 (some q9)) 8 (some q10)) 9 (some q11)) 10 (some q12)) 11 (some q13)) 12 (some q14))))))) :: (h, .inr (2, [.ref q1, .int (nI 0)])) :: R) C0 G rfl 1 rfl rfl rfl (vp_in_nI (n := 12) (by decide) (by decide)) rfl dX1_init_36 (fun H locs G => ?_)
                            refine lv_iinc (v := 13) (lv' := [(1, .int 13), (0, .ref h)]) hx hb dX1_init_37 hl (k := 0) rfl (by decide) (by decide) rfl (fun ls hl => ?_)
                            refine lv_goto (tgt := 15) hx hb dX1_init_40 (by decide) ?_
                            refine lv_iload_n hx hb dX1_init_15 rfl (lv_at hl 0 rfl) ?_
                            refine lv_aload_n hx hb dX1_init_16 rfl (lv_at hl 1 rfl) ?_
                            refine g_get (q0 := 14) (v := .ref q1) C0 G in_X1 rfl rfl 0 (by decide) fl_X1_11 (fun _ h => h) rfl dX1_init_17 ?_
                            refine g_alen (q0 := 13) (v := 18) C0 G rfl 1 rfl rfl dX1_init_20 ?_
                            refine lv_icmp_ge (tgt := 43) hx hb dX1_init_21 (by decide) (fun c_21 => ?_) (fun c_21 => ?_)
                            · exact absurd c_21 (by decide)
                            · skip
                              refine lv_aload_n hx hb dX1_init_24 rfl (lv_at hl 1 rfl) ?_
                              refine g_get (q0 := 14) (v := .ref q1) C0 G in_X1 rfl rfl 0 (by decide) fl_X1_11 (fun _ h => h) rfl dX1_init_25 ?_
                              refine lv_iload_n hx hb dX1_init_28 rfl (lv_at hl 0 rfl) ?_
                              refine g_newO (ci := 1) (fs := [.long 0, .long 0, .int (nI 0)]) C0 G in_X0 ft_X0 xl_X1_9 ist_X0 ini_X0 rfl (by intro j hj; rcases (show j = 0 ∨ j = 1 ∨ j = 2 by omega) with rfl | rfl | rfl <;> rfl) (Nat.le_of_ble_eq_true rfl) (Nat.le_of_ble_eq_true rfl) dX1_init_29 (fun q15 H G => ?_)
                              refine lv_dup hx hb dX1_init_32 rfl ?_
                              refine g_callKN (As := []) (rest := [.ref q15, .int 13, .ref q1]) C0 G hao (c_X0_init l D cy (W1 := (q15, .inr (1, [.long 0, .long 0, .int (nI 0)])) :: (q14, .inr (1, [.long 0, .long 0, .int (nI 0)])) :: (q13, .inr (1, [.long 0, .long 0, .int (nI 0)])) :: (q12, .inr (1, [.long 0, .long 0, .int (nI 0)])) :: (q11, .inr (1, [.long 0, .long 0, .int (nI 0)])) :: (q10, .inr (1, [.long 0, .long 0, .int (nI 0)])) :: (q9, .inr (1, [.long 0, .long 0, .int (nI 0)])) :: (q8, .inr (1, [.long 0, .long 0, .int (nI 0)])) :: (q7, .inr (1, [.long 0, .long 0, .int (nI 0)])) :: (q6, .inr (1, [.long 0, .long 0, .int (nI 0)])) :: (q5, .inr (1, [.long 0, .long 0, .int (nI 0)])) :: (q4, .inr (1, [.long 0, .long 0, .int (nI 0)])) :: (q3, .inr (1, [.long 0, .long 0, .int (nI 0)])) :: (q2, .inr (1, [.long 0, .long 0, .int (nI 0)])) :: (q1, .inl (cy 4, 18, .inr (.inr (.inr (.inr (va_up (va_up (va_up (va_up (va_up (va_up (va_up (va_up (va_up (va_up (va_up (va_up (va_up (fun _ => none) 0 (some q2)) 1 (some q3)) 2 (some q4)) 3 (some q5)) 4 (some q6)) 5 (some q7)) 6 (some q8)) 7 (some q9)) 8 (some q10)) 9 (some q11)) 10 (some q12)) 11 (some q13)) 12 (some q14))))))) :: (h, .inr (2, [.ref q1, .int (nI 0)])) :: R) (h := q15)) k_X0_init nm_X1_17 dX1_init_33 rfl rfl hl.1 (Nat.le_of_ble_eq_true rfl) ⟨(Nat.le_of_ble_eq_true rfl), (Nat.le_of_ble_eq_true rfl)⟩ ⟨(Nat.le_of_ble_eq_true rfl), (Nat.le_of_ble_eq_true rfl)⟩ (fun r W2 H locs hp G => ?_)
                              obtain ⟨rfl, hw⟩ := hp
                              have G := g_wc hw G
                              refine W.eq (g2 := F0 m 36 ls [.ref q15, .int 13, .ref q1]) rfl ?_
                              refine g_astq (q0 := 14) (qk := 0) (n := 18) (W2 := (q15, .inr (1, [.long 0, .long 0, .int (nI 0)])) :: (q14, .inr (1, [.long 0, .long 0, .int (nI 0)])) :: (q13, .inr (1, [.long 0, .long 0, .int (nI 0)])) :: (q12, .inr (1, [.long 0, .long 0, .int (nI 0)])) :: (q11, .inr (1, [.long 0, .long 0, .int (nI 0)])) :: (q10, .inr (1, [.long 0, .long 0, .int (nI 0)])) :: (q9, .inr (1, [.long 0, .long 0, .int (nI 0)])) :: (q8, .inr (1, [.long 0, .long 0, .int (nI 0)])) :: (q7, .inr (1, [.long 0, .long 0, .int (nI 0)])) :: (q6, .inr (1, [.long 0, .long 0, .int (nI 0)])) :: (q5, .inr (1, [.long 0, .long 0, .int (nI 0)])) :: (q4, .inr (1, [.long 0, .long 0, .int (nI 0)])) :: (q3, .inr (1, [.long 0, .long 0, .int (nI 0)])) :: (q2, .inr (1, [.long 0, .long 0, .int (nI 0)])) :: (q1, .inl (cy 4, 18, .inr (.inr (.inr (.inr (va_up (va_up (va_up (va_up (va_up (va_up (va_up (va_up (va_up (va_up (va_up (va_up (va_up (va_up (fun _ => none) 0 (some q2)) 1 (some q3)) 2 (some q4)) 3 (some q5)) 4 (some q6)) 5 (some q7)) 6 (some q8)) 7 (some q9)) 8 (some q10)) 9 (some q11)) 10 (some q12)) 11 (some q13)) 12 (some q14)) 13 (some q15))))))) :: (h, .inr (2, [.ref q1, .int (nI 0)])) :: R) C0 G rfl 1 rfl rfl rfl (vp_in_nI (n := 13) (by decide) (by decide)) rfl dX1_init_36 (fun H locs G => ?_)
                              refine lv_iinc (v := 14) (lv' := [(1, .int 14), (0, .ref h)]) hx hb dX1_init_37 hl (k := 0) rfl (by decide) (by decide) rfl (fun ls hl => ?_)
                              refine lv_goto (tgt := 15) hx hb dX1_init_40 (by decide) ?_
                              refine lv_iload_n hx hb dX1_init_15 rfl (lv_at hl 0 rfl) ?_
                              refine lv_aload_n hx hb dX1_init_16 rfl (lv_at hl 1 rfl) ?_
                              refine g_get (q0 := 15) (v := .ref q1) C0 G in_X1 rfl rfl 0 (by decide) fl_X1_11 (fun _ h => h) rfl dX1_init_17 ?_
                              refine g_alen (q0 := 14) (v := 18) C0 G rfl 1 rfl rfl dX1_init_20 ?_
                              refine lv_icmp_ge (tgt := 43) hx hb dX1_init_21 (by decide) (fun c_21 => ?_) (fun c_21 => ?_)
                              · exact absurd c_21 (by decide)
                              · skip
                                refine lv_aload_n hx hb dX1_init_24 rfl (lv_at hl 1 rfl) ?_
                                refine g_get (q0 := 15) (v := .ref q1) C0 G in_X1 rfl rfl 0 (by decide) fl_X1_11 (fun _ h => h) rfl dX1_init_25 ?_
                                refine lv_iload_n hx hb dX1_init_28 rfl (lv_at hl 0 rfl) ?_
                                refine g_newO (ci := 1) (fs := [.long 0, .long 0, .int (nI 0)]) C0 G in_X0 ft_X0 xl_X1_9 ist_X0 ini_X0 rfl (by intro j hj; rcases (show j = 0 ∨ j = 1 ∨ j = 2 by omega) with rfl | rfl | rfl <;> rfl) (Nat.le_of_ble_eq_true rfl) (Nat.le_of_ble_eq_true rfl) dX1_init_29 (fun q16 H G => ?_)
                                refine lv_dup hx hb dX1_init_32 rfl ?_
                                refine g_callKN (As := []) (rest := [.ref q16, .int 14, .ref q1]) C0 G hao (c_X0_init l D cy (W1 := (q16, .inr (1, [.long 0, .long 0, .int (nI 0)])) :: (q15, .inr (1, [.long 0, .long 0, .int (nI 0)])) :: (q14, .inr (1, [.long 0, .long 0, .int (nI 0)])) :: (q13, .inr (1, [.long 0, .long 0, .int (nI 0)])) :: (q12, .inr (1, [.long 0, .long 0, .int (nI 0)])) :: (q11, .inr (1, [.long 0, .long 0, .int (nI 0)])) :: (q10, .inr (1, [.long 0, .long 0, .int (nI 0)])) :: (q9, .inr (1, [.long 0, .long 0, .int (nI 0)])) :: (q8, .inr (1, [.long 0, .long 0, .int (nI 0)])) :: (q7, .inr (1, [.long 0, .long 0, .int (nI 0)])) :: (q6, .inr (1, [.long 0, .long 0, .int (nI 0)])) :: (q5, .inr (1, [.long 0, .long 0, .int (nI 0)])) :: (q4, .inr (1, [.long 0, .long 0, .int (nI 0)])) :: (q3, .inr (1, [.long 0, .long 0, .int (nI 0)])) :: (q2, .inr (1, [.long 0, .long 0, .int (nI 0)])) :: (q1, .inl (cy 4, 18, .inr (.inr (.inr (.inr (va_up (va_up (va_up (va_up (va_up (va_up (va_up (va_up (va_up (va_up (va_up (va_up (va_up (va_up (fun _ => none) 0 (some q2)) 1 (some q3)) 2 (some q4)) 3 (some q5)) 4 (some q6)) 5 (some q7)) 6 (some q8)) 7 (some q9)) 8 (some q10)) 9 (some q11)) 10 (some q12)) 11 (some q13)) 12 (some q14)) 13 (some q15))))))) :: (h, .inr (2, [.ref q1, .int (nI 0)])) :: R) (h := q16)) k_X0_init nm_X1_17 dX1_init_33 rfl rfl hl.1 (Nat.le_of_ble_eq_true rfl) ⟨(Nat.le_of_ble_eq_true rfl), (Nat.le_of_ble_eq_true rfl)⟩ ⟨(Nat.le_of_ble_eq_true rfl), (Nat.le_of_ble_eq_true rfl)⟩ (fun r W2 H locs hp G => ?_)
                                obtain ⟨rfl, hw⟩ := hp
                                have G := g_wc hw G
                                refine W.eq (g2 := F0 m 36 ls [.ref q16, .int 14, .ref q1]) rfl ?_
                                refine g_astq (q0 := 15) (qk := 0) (n := 18) (W2 := (q16, .inr (1, [.long 0, .long 0, .int (nI 0)])) :: (q15, .inr (1, [.long 0, .long 0, .int (nI 0)])) :: (q14, .inr (1, [.long 0, .long 0, .int (nI 0)])) :: (q13, .inr (1, [.long 0, .long 0, .int (nI 0)])) :: (q12, .inr (1, [.long 0, .long 0, .int (nI 0)])) :: (q11, .inr (1, [.long 0, .long 0, .int (nI 0)])) :: (q10, .inr (1, [.long 0, .long 0, .int (nI 0)])) :: (q9, .inr (1, [.long 0, .long 0, .int (nI 0)])) :: (q8, .inr (1, [.long 0, .long 0, .int (nI 0)])) :: (q7, .inr (1, [.long 0, .long 0, .int (nI 0)])) :: (q6, .inr (1, [.long 0, .long 0, .int (nI 0)])) :: (q5, .inr (1, [.long 0, .long 0, .int (nI 0)])) :: (q4, .inr (1, [.long 0, .long 0, .int (nI 0)])) :: (q3, .inr (1, [.long 0, .long 0, .int (nI 0)])) :: (q2, .inr (1, [.long 0, .long 0, .int (nI 0)])) :: (q1, .inl (cy 4, 18, .inr (.inr (.inr (.inr (va_up (va_up (va_up (va_up (va_up (va_up (va_up (va_up (va_up (va_up (va_up (va_up (va_up (va_up (va_up (fun _ => none) 0 (some q2)) 1 (some q3)) 2 (some q4)) 3 (some q5)) 4 (some q6)) 5 (some q7)) 6 (some q8)) 7 (some q9)) 8 (some q10)) 9 (some q11)) 10 (some q12)) 11 (some q13)) 12 (some q14)) 13 (some q15)) 14 (some q16))))))) :: (h, .inr (2, [.ref q1, .int (nI 0)])) :: R) C0 G rfl 1 rfl rfl rfl (vp_in_nI (n := 14) (by decide) (by decide)) rfl dX1_init_36 (fun H locs G => ?_)
                                refine lv_iinc (v := 15) (lv' := [(1, .int 15), (0, .ref h)]) hx hb dX1_init_37 hl (k := 0) rfl (by decide) (by decide) rfl (fun ls hl => ?_)
                                refine lv_goto (tgt := 15) hx hb dX1_init_40 (by decide) ?_
                                refine lv_iload_n hx hb dX1_init_15 rfl (lv_at hl 0 rfl) ?_
                                refine lv_aload_n hx hb dX1_init_16 rfl (lv_at hl 1 rfl) ?_
                                refine g_get (q0 := 16) (v := .ref q1) C0 G in_X1 rfl rfl 0 (by decide) fl_X1_11 (fun _ h => h) rfl dX1_init_17 ?_
                                refine g_alen (q0 := 15) (v := 18) C0 G rfl 1 rfl rfl dX1_init_20 ?_
                                refine lv_icmp_ge (tgt := 43) hx hb dX1_init_21 (by decide) (fun c_21 => ?_) (fun c_21 => ?_)
                                · exact absurd c_21 (by decide)
                                · skip
                                  refine lv_aload_n hx hb dX1_init_24 rfl (lv_at hl 1 rfl) ?_
                                  refine g_get (q0 := 16) (v := .ref q1) C0 G in_X1 rfl rfl 0 (by decide) fl_X1_11 (fun _ h => h) rfl dX1_init_25 ?_
                                  refine lv_iload_n hx hb dX1_init_28 rfl (lv_at hl 0 rfl) ?_
                                  refine g_newO (ci := 1) (fs := [.long 0, .long 0, .int (nI 0)]) C0 G in_X0 ft_X0 xl_X1_9 ist_X0 ini_X0 rfl (by intro j hj; rcases (show j = 0 ∨ j = 1 ∨ j = 2 by omega) with rfl | rfl | rfl <;> rfl) (Nat.le_of_ble_eq_true rfl) (Nat.le_of_ble_eq_true rfl) dX1_init_29 (fun q17 H G => ?_)
                                  refine lv_dup hx hb dX1_init_32 rfl ?_
                                  refine g_callKN (As := []) (rest := [.ref q17, .int 15, .ref q1]) C0 G hao (c_X0_init l D cy (W1 := (q17, .inr (1, [.long 0, .long 0, .int (nI 0)])) :: (q16, .inr (1, [.long 0, .long 0, .int (nI 0)])) :: (q15, .inr (1, [.long 0, .long 0, .int (nI 0)])) :: (q14, .inr (1, [.long 0, .long 0, .int (nI 0)])) :: (q13, .inr (1, [.long 0, .long 0, .int (nI 0)])) :: (q12, .inr (1, [.long 0, .long 0, .int (nI 0)])) :: (q11, .inr (1, [.long 0, .long 0, .int (nI 0)])) :: (q10, .inr (1, [.long 0, .long 0, .int (nI 0)])) :: (q9, .inr (1, [.long 0, .long 0, .int (nI 0)])) :: (q8, .inr (1, [.long 0, .long 0, .int (nI 0)])) :: (q7, .inr (1, [.long 0, .long 0, .int (nI 0)])) :: (q6, .inr (1, [.long 0, .long 0, .int (nI 0)])) :: (q5, .inr (1, [.long 0, .long 0, .int (nI 0)])) :: (q4, .inr (1, [.long 0, .long 0, .int (nI 0)])) :: (q3, .inr (1, [.long 0, .long 0, .int (nI 0)])) :: (q2, .inr (1, [.long 0, .long 0, .int (nI 0)])) :: (q1, .inl (cy 4, 18, .inr (.inr (.inr (.inr (va_up (va_up (va_up (va_up (va_up (va_up (va_up (va_up (va_up (va_up (va_up (va_up (va_up (va_up (va_up (fun _ => none) 0 (some q2)) 1 (some q3)) 2 (some q4)) 3 (some q5)) 4 (some q6)) 5 (some q7)) 6 (some q8)) 7 (some q9)) 8 (some q10)) 9 (some q11)) 10 (some q12)) 11 (some q13)) 12 (some q14)) 13 (some q15)) 14 (some q16))))))) :: (h, .inr (2, [.ref q1, .int (nI 0)])) :: R) (h := q17)) k_X0_init nm_X1_17 dX1_init_33 rfl rfl hl.1 (Nat.le_of_ble_eq_true rfl) ⟨(Nat.le_of_ble_eq_true rfl), (Nat.le_of_ble_eq_true rfl)⟩ ⟨(Nat.le_of_ble_eq_true rfl), (Nat.le_of_ble_eq_true rfl)⟩ (fun r W2 H locs hp G => ?_)
                                  obtain ⟨rfl, hw⟩ := hp
                                  have G := g_wc hw G
                                  refine W.eq (g2 := F0 m 36 ls [.ref q17, .int 15, .ref q1]) rfl ?_
                                  refine g_astq (q0 := 16) (qk := 0) (n := 18) (W2 := (q17, .inr (1, [.long 0, .long 0, .int (nI 0)])) :: (q16, .inr (1, [.long 0, .long 0, .int (nI 0)])) :: (q15, .inr (1, [.long 0, .long 0, .int (nI 0)])) :: (q14, .inr (1, [.long 0, .long 0, .int (nI 0)])) :: (q13, .inr (1, [.long 0, .long 0, .int (nI 0)])) :: (q12, .inr (1, [.long 0, .long 0, .int (nI 0)])) :: (q11, .inr (1, [.long 0, .long 0, .int (nI 0)])) :: (q10, .inr (1, [.long 0, .long 0, .int (nI 0)])) :: (q9, .inr (1, [.long 0, .long 0, .int (nI 0)])) :: (q8, .inr (1, [.long 0, .long 0, .int (nI 0)])) :: (q7, .inr (1, [.long 0, .long 0, .int (nI 0)])) :: (q6, .inr (1, [.long 0, .long 0, .int (nI 0)])) :: (q5, .inr (1, [.long 0, .long 0, .int (nI 0)])) :: (q4, .inr (1, [.long 0, .long 0, .int (nI 0)])) :: (q3, .inr (1, [.long 0, .long 0, .int (nI 0)])) :: (q2, .inr (1, [.long 0, .long 0, .int (nI 0)])) :: (q1, .inl (cy 4, 18, .inr (.inr (.inr (.inr (va_up (va_up (va_up (va_up (va_up (va_up (va_up (va_up (va_up (va_up (va_up (va_up (va_up (va_up (va_up (va_up (fun _ => none) 0 (some q2)) 1 (some q3)) 2 (some q4)) 3 (some q5)) 4 (some q6)) 5 (some q7)) 6 (some q8)) 7 (some q9)) 8 (some q10)) 9 (some q11)) 10 (some q12)) 11 (some q13)) 12 (some q14)) 13 (some q15)) 14 (some q16)) 15 (some q17))))))) :: (h, .inr (2, [.ref q1, .int (nI 0)])) :: R) C0 G rfl 1 rfl rfl rfl (vp_in_nI (n := 15) (by decide) (by decide)) rfl dX1_init_36 (fun H locs G => ?_)
                                  refine lv_iinc (v := 16) (lv' := [(1, .int 16), (0, .ref h)]) hx hb dX1_init_37 hl (k := 0) rfl (by decide) (by decide) rfl (fun ls hl => ?_)
                                  refine lv_goto (tgt := 15) hx hb dX1_init_40 (by decide) ?_
                                  refine lv_iload_n hx hb dX1_init_15 rfl (lv_at hl 0 rfl) ?_
                                  refine lv_aload_n hx hb dX1_init_16 rfl (lv_at hl 1 rfl) ?_
                                  refine g_get (q0 := 17) (v := .ref q1) C0 G in_X1 rfl rfl 0 (by decide) fl_X1_11 (fun _ h => h) rfl dX1_init_17 ?_
                                  refine g_alen (q0 := 16) (v := 18) C0 G rfl 1 rfl rfl dX1_init_20 ?_
                                  refine lv_icmp_ge (tgt := 43) hx hb dX1_init_21 (by decide) (fun c_21 => ?_) (fun c_21 => ?_)
                                  · exact absurd c_21 (by decide)
                                  · skip
                                    refine lv_aload_n hx hb dX1_init_24 rfl (lv_at hl 1 rfl) ?_
                                    refine g_get (q0 := 17) (v := .ref q1) C0 G in_X1 rfl rfl 0 (by decide) fl_X1_11 (fun _ h => h) rfl dX1_init_25 ?_
                                    refine lv_iload_n hx hb dX1_init_28 rfl (lv_at hl 0 rfl) ?_
                                    refine g_newO (ci := 1) (fs := [.long 0, .long 0, .int (nI 0)]) C0 G in_X0 ft_X0 xl_X1_9 ist_X0 ini_X0 rfl (by intro j hj; rcases (show j = 0 ∨ j = 1 ∨ j = 2 by omega) with rfl | rfl | rfl <;> rfl) (Nat.le_of_ble_eq_true rfl) (Nat.le_of_ble_eq_true rfl) dX1_init_29 (fun q18 H G => ?_)
                                    refine lv_dup hx hb dX1_init_32 rfl ?_
                                    refine g_callKN (As := []) (rest := [.ref q18, .int 16, .ref q1]) C0 G hao (c_X0_init l D cy (W1 := (q18, .inr (1, [.long 0, .long 0, .int (nI 0)])) :: (q17, .inr (1, [.long 0, .long 0, .int (nI 0)])) :: (q16, .inr (1, [.long 0, .long 0, .int (nI 0)])) :: (q15, .inr (1, [.long 0, .long 0, .int (nI 0)])) :: (q14, .inr (1, [.long 0, .long 0, .int (nI 0)])) :: (q13, .inr (1, [.long 0, .long 0, .int (nI 0)])) :: (q12, .inr (1, [.long 0, .long 0, .int (nI 0)])) :: (q11, .inr (1, [.long 0, .long 0, .int (nI 0)])) :: (q10, .inr (1, [.long 0, .long 0, .int (nI 0)])) :: (q9, .inr (1, [.long 0, .long 0, .int (nI 0)])) :: (q8, .inr (1, [.long 0, .long 0, .int (nI 0)])) :: (q7, .inr (1, [.long 0, .long 0, .int (nI 0)])) :: (q6, .inr (1, [.long 0, .long 0, .int (nI 0)])) :: (q5, .inr (1, [.long 0, .long 0, .int (nI 0)])) :: (q4, .inr (1, [.long 0, .long 0, .int (nI 0)])) :: (q3, .inr (1, [.long 0, .long 0, .int (nI 0)])) :: (q2, .inr (1, [.long 0, .long 0, .int (nI 0)])) :: (q1, .inl (cy 4, 18, .inr (.inr (.inr (.inr (va_up (va_up (va_up (va_up (va_up (va_up (va_up (va_up (va_up (va_up (va_up (va_up (va_up (va_up (va_up (va_up (fun _ => none) 0 (some q2)) 1 (some q3)) 2 (some q4)) 3 (some q5)) 4 (some q6)) 5 (some q7)) 6 (some q8)) 7 (some q9)) 8 (some q10)) 9 (some q11)) 10 (some q12)) 11 (some q13)) 12 (some q14)) 13 (some q15)) 14 (some q16)) 15 (some q17))))))) :: (h, .inr (2, [.ref q1, .int (nI 0)])) :: R) (h := q18)) k_X0_init nm_X1_17 dX1_init_33 rfl rfl hl.1 (Nat.le_of_ble_eq_true rfl) ⟨(Nat.le_of_ble_eq_true rfl), (Nat.le_of_ble_eq_true rfl)⟩ ⟨(Nat.le_of_ble_eq_true rfl), (Nat.le_of_ble_eq_true rfl)⟩ (fun r W2 H locs hp G => ?_)
                                    obtain ⟨rfl, hw⟩ := hp
                                    have G := g_wc hw G
                                    refine W.eq (g2 := F0 m 36 ls [.ref q18, .int 16, .ref q1]) rfl ?_
                                    refine g_astq (q0 := 17) (qk := 0) (n := 18) (W2 := (q18, .inr (1, [.long 0, .long 0, .int (nI 0)])) :: (q17, .inr (1, [.long 0, .long 0, .int (nI 0)])) :: (q16, .inr (1, [.long 0, .long 0, .int (nI 0)])) :: (q15, .inr (1, [.long 0, .long 0, .int (nI 0)])) :: (q14, .inr (1, [.long 0, .long 0, .int (nI 0)])) :: (q13, .inr (1, [.long 0, .long 0, .int (nI 0)])) :: (q12, .inr (1, [.long 0, .long 0, .int (nI 0)])) :: (q11, .inr (1, [.long 0, .long 0, .int (nI 0)])) :: (q10, .inr (1, [.long 0, .long 0, .int (nI 0)])) :: (q9, .inr (1, [.long 0, .long 0, .int (nI 0)])) :: (q8, .inr (1, [.long 0, .long 0, .int (nI 0)])) :: (q7, .inr (1, [.long 0, .long 0, .int (nI 0)])) :: (q6, .inr (1, [.long 0, .long 0, .int (nI 0)])) :: (q5, .inr (1, [.long 0, .long 0, .int (nI 0)])) :: (q4, .inr (1, [.long 0, .long 0, .int (nI 0)])) :: (q3, .inr (1, [.long 0, .long 0, .int (nI 0)])) :: (q2, .inr (1, [.long 0, .long 0, .int (nI 0)])) :: (q1, .inl (cy 4, 18, .inr (.inr (.inr (.inr (va_up (va_up (va_up (va_up (va_up (va_up (va_up (va_up (va_up (va_up (va_up (va_up (va_up (va_up (va_up (va_up (va_up (fun _ => none) 0 (some q2)) 1 (some q3)) 2 (some q4)) 3 (some q5)) 4 (some q6)) 5 (some q7)) 6 (some q8)) 7 (some q9)) 8 (some q10)) 9 (some q11)) 10 (some q12)) 11 (some q13)) 12 (some q14)) 13 (some q15)) 14 (some q16)) 15 (some q17)) 16 (some q18))))))) :: (h, .inr (2, [.ref q1, .int (nI 0)])) :: R) C0 G rfl 1 rfl rfl rfl (vp_in_nI (n := 16) (by decide) (by decide)) rfl dX1_init_36 (fun H locs G => ?_)
                                    refine lv_iinc (v := 17) (lv' := [(1, .int 17), (0, .ref h)]) hx hb dX1_init_37 hl (k := 0) rfl (by decide) (by decide) rfl (fun ls hl => ?_)
                                    refine lv_goto (tgt := 15) hx hb dX1_init_40 (by decide) ?_
                                    refine lv_iload_n hx hb dX1_init_15 rfl (lv_at hl 0 rfl) ?_
                                    refine lv_aload_n hx hb dX1_init_16 rfl (lv_at hl 1 rfl) ?_
                                    refine g_get (q0 := 18) (v := .ref q1) C0 G in_X1 rfl rfl 0 (by decide) fl_X1_11 (fun _ h => h) rfl dX1_init_17 ?_
                                    refine g_alen (q0 := 17) (v := 18) C0 G rfl 1 rfl rfl dX1_init_20 ?_
                                    refine lv_icmp_ge (tgt := 43) hx hb dX1_init_21 (by decide) (fun c_21 => ?_) (fun c_21 => ?_)
                                    · exact absurd c_21 (by decide)
                                    · skip
                                      refine lv_aload_n hx hb dX1_init_24 rfl (lv_at hl 1 rfl) ?_
                                      refine g_get (q0 := 18) (v := .ref q1) C0 G in_X1 rfl rfl 0 (by decide) fl_X1_11 (fun _ h => h) rfl dX1_init_25 ?_
                                      refine lv_iload_n hx hb dX1_init_28 rfl (lv_at hl 0 rfl) ?_
                                      refine g_newO (ci := 1) (fs := [.long 0, .long 0, .int (nI 0)]) C0 G in_X0 ft_X0 xl_X1_9 ist_X0 ini_X0 rfl (by intro j hj; rcases (show j = 0 ∨ j = 1 ∨ j = 2 by omega) with rfl | rfl | rfl <;> rfl) (Nat.le_of_ble_eq_true rfl) (Nat.le_of_ble_eq_true rfl) dX1_init_29 (fun q19 H G => ?_)
                                      refine lv_dup hx hb dX1_init_32 rfl ?_
                                      refine g_callKN (As := []) (rest := [.ref q19, .int 17, .ref q1]) C0 G hao (c_X0_init l D cy (W1 := (q19, .inr (1, [.long 0, .long 0, .int (nI 0)])) :: (q18, .inr (1, [.long 0, .long 0, .int (nI 0)])) :: (q17, .inr (1, [.long 0, .long 0, .int (nI 0)])) :: (q16, .inr (1, [.long 0, .long 0, .int (nI 0)])) :: (q15, .inr (1, [.long 0, .long 0, .int (nI 0)])) :: (q14, .inr (1, [.long 0, .long 0, .int (nI 0)])) :: (q13, .inr (1, [.long 0, .long 0, .int (nI 0)])) :: (q12, .inr (1, [.long 0, .long 0, .int (nI 0)])) :: (q11, .inr (1, [.long 0, .long 0, .int (nI 0)])) :: (q10, .inr (1, [.long 0, .long 0, .int (nI 0)])) :: (q9, .inr (1, [.long 0, .long 0, .int (nI 0)])) :: (q8, .inr (1, [.long 0, .long 0, .int (nI 0)])) :: (q7, .inr (1, [.long 0, .long 0, .int (nI 0)])) :: (q6, .inr (1, [.long 0, .long 0, .int (nI 0)])) :: (q5, .inr (1, [.long 0, .long 0, .int (nI 0)])) :: (q4, .inr (1, [.long 0, .long 0, .int (nI 0)])) :: (q3, .inr (1, [.long 0, .long 0, .int (nI 0)])) :: (q2, .inr (1, [.long 0, .long 0, .int (nI 0)])) :: (q1, .inl (cy 4, 18, .inr (.inr (.inr (.inr (va_up (va_up (va_up (va_up (va_up (va_up (va_up (va_up (va_up (va_up (va_up (va_up (va_up (va_up (va_up (va_up (va_up (fun _ => none) 0 (some q2)) 1 (some q3)) 2 (some q4)) 3 (some q5)) 4 (some q6)) 5 (some q7)) 6 (some q8)) 7 (some q9)) 8 (some q10)) 9 (some q11)) 10 (some q12)) 11 (some q13)) 12 (some q14)) 13 (some q15)) 14 (some q16)) 15 (some q17)) 16 (some q18))))))) :: (h, .inr (2, [.ref q1, .int (nI 0)])) :: R) (h := q19)) k_X0_init nm_X1_17 dX1_init_33 rfl rfl hl.1 (Nat.le_of_ble_eq_true rfl) ⟨(Nat.le_of_ble_eq_true rfl), (Nat.le_of_ble_eq_true rfl)⟩ ⟨(Nat.le_of_ble_eq_true rfl), (Nat.le_of_ble_eq_true rfl)⟩ (fun r W2 H locs hp G => ?_)
                                      obtain ⟨rfl, hw⟩ := hp
                                      have G := g_wc hw G
                                      refine W.eq (g2 := F0 m 36 ls [.ref q19, .int 17, .ref q1]) rfl ?_
                                      refine g_astq (q0 := 18) (qk := 0) (n := 18) (W2 := (q19, .inr (1, [.long 0, .long 0, .int (nI 0)])) :: (q18, .inr (1, [.long 0, .long 0, .int (nI 0)])) :: (q17, .inr (1, [.long 0, .long 0, .int (nI 0)])) :: (q16, .inr (1, [.long 0, .long 0, .int (nI 0)])) :: (q15, .inr (1, [.long 0, .long 0, .int (nI 0)])) :: (q14, .inr (1, [.long 0, .long 0, .int (nI 0)])) :: (q13, .inr (1, [.long 0, .long 0, .int (nI 0)])) :: (q12, .inr (1, [.long 0, .long 0, .int (nI 0)])) :: (q11, .inr (1, [.long 0, .long 0, .int (nI 0)])) :: (q10, .inr (1, [.long 0, .long 0, .int (nI 0)])) :: (q9, .inr (1, [.long 0, .long 0, .int (nI 0)])) :: (q8, .inr (1, [.long 0, .long 0, .int (nI 0)])) :: (q7, .inr (1, [.long 0, .long 0, .int (nI 0)])) :: (q6, .inr (1, [.long 0, .long 0, .int (nI 0)])) :: (q5, .inr (1, [.long 0, .long 0, .int (nI 0)])) :: (q4, .inr (1, [.long 0, .long 0, .int (nI 0)])) :: (q3, .inr (1, [.long 0, .long 0, .int (nI 0)])) :: (q2, .inr (1, [.long 0, .long 0, .int (nI 0)])) :: (q1, .inl (cy 4, 18, .inr (.inr (.inr (.inr (va_up (va_up (va_up (va_up (va_up (va_up (va_up (va_up (va_up (va_up (va_up (va_up (va_up (va_up (va_up (va_up (va_up (va_up (fun _ => none) 0 (some q2)) 1 (some q3)) 2 (some q4)) 3 (some q5)) 4 (some q6)) 5 (some q7)) 6 (some q8)) 7 (some q9)) 8 (some q10)) 9 (some q11)) 10 (some q12)) 11 (some q13)) 12 (some q14)) 13 (some q15)) 14 (some q16)) 15 (some q17)) 16 (some q18)) 17 (some q19))))))) :: (h, .inr (2, [.ref q1, .int (nI 0)])) :: R) C0 G rfl 1 rfl rfl rfl (vp_in_nI (n := 17) (by decide) (by decide)) rfl dX1_init_36 (fun H locs G => ?_)
                                      refine lv_iinc (v := 18) (lv' := [(1, .int 18), (0, .ref h)]) hx hb dX1_init_37 hl (k := 0) rfl (by decide) (by decide) rfl (fun ls hl => ?_)
                                      refine lv_goto (tgt := 15) hx hb dX1_init_40 (by decide) ?_
                                      refine lv_iload_n hx hb dX1_init_15 rfl (lv_at hl 0 rfl) ?_
                                      refine lv_aload_n hx hb dX1_init_16 rfl (lv_at hl 1 rfl) ?_
                                      refine g_get (q0 := 19) (v := .ref q1) C0 G in_X1 rfl rfl 0 (by decide) fl_X1_11 (fun _ h => h) rfl dX1_init_17 ?_
                                      refine g_alen (q0 := 18) (v := 18) C0 G rfl 1 rfl rfl dX1_init_20 ?_
                                      refine lv_icmp_ge (tgt := 43) hx hb dX1_init_21 (by decide) (fun c_21 => ?_) (fun c_21 => ?_)
                                      · skip
                                        refine lv_aload_n hx hb dX1_init_43 rfl (lv_at hl 1 rfl) ?_
                                        refine lv_iconst (v := 0) hx hb dX1_init_44 (by decide) ?_
                                        refine g_put (q0 := 19) (W2 := (q19, .inr (1, [.long 0, .long 0, .int (nI 0)])) :: (q18, .inr (1, [.long 0, .long 0, .int (nI 0)])) :: (q17, .inr (1, [.long 0, .long 0, .int (nI 0)])) :: (q16, .inr (1, [.long 0, .long 0, .int (nI 0)])) :: (q15, .inr (1, [.long 0, .long 0, .int (nI 0)])) :: (q14, .inr (1, [.long 0, .long 0, .int (nI 0)])) :: (q13, .inr (1, [.long 0, .long 0, .int (nI 0)])) :: (q12, .inr (1, [.long 0, .long 0, .int (nI 0)])) :: (q11, .inr (1, [.long 0, .long 0, .int (nI 0)])) :: (q10, .inr (1, [.long 0, .long 0, .int (nI 0)])) :: (q9, .inr (1, [.long 0, .long 0, .int (nI 0)])) :: (q8, .inr (1, [.long 0, .long 0, .int (nI 0)])) :: (q7, .inr (1, [.long 0, .long 0, .int (nI 0)])) :: (q6, .inr (1, [.long 0, .long 0, .int (nI 0)])) :: (q5, .inr (1, [.long 0, .long 0, .int (nI 0)])) :: (q4, .inr (1, [.long 0, .long 0, .int (nI 0)])) :: (q3, .inr (1, [.long 0, .long 0, .int (nI 0)])) :: (q2, .inr (1, [.long 0, .long 0, .int (nI 0)])) :: (q1, .inl (cy 4, 18, .inr (.inr (.inr (.inr (va_up (va_up (va_up (va_up (va_up (va_up (va_up (va_up (va_up (va_up (va_up (va_up (va_up (va_up (va_up (va_up (va_up (va_up (fun _ => none) 0 (some q2)) 1 (some q3)) 2 (some q4)) 3 (some q5)) 4 (some q6)) 5 (some q7)) 6 (some q8)) 7 (some q9)) 8 (some q10)) 9 (some q11)) 10 (some q12)) 11 (some q13)) 12 (some q14)) 13 (some q15)) 14 (some q16)) 15 (some q17)) 16 (some q18)) 17 (some q19))))))) :: (h, .inr (2, [.ref q1, .int 0])) :: R) C0 G ft_X1 in_X1 rfl rfl 1 (by decide) fl_X1_18 (fun _ h => h) rfl rfl rfl (Nat.le_of_ble_eq_true rfl) rfl dX1_init_45 (fun H locs G => ?_)
                                        exact g_vret C0 G ⟨rfl, q1, q2, q3, q4, q5, q6, q7, q8, q9, q10, q11, q12, q13, q14, q15, q16, q17, q18, q19, rfl⟩ dX1_init_48
                                      · exact absurd c_21 (by decide)

set_option maxHeartbeats 4000000 in
set_option maxRecDepth 100000 in
theorem c_X4_init (l : Launch) (D : va_G) (cy : Nat → ClassId) (h : Nat) : GK l D (gts cy) yX4_init cX4_init 2 3 40 200 [.ref h] ((h, .inr (5, [.null, .null, .null, .null, .null, .null])) :: []) (fun r W2 => r = none ∧ ∃ (ad : Nat → Nat) (tv : Nat), ad 0 = h ∧ W2 = wC ad cy (fun _ => 0) (fun _ => 0) (fun _ => 0) 0 0 0 0 0 0 0 false 0 0 0 tv 16 (fun _ => 0) 0 0 ([])) := by
  refine g_introK (by decide +kernel) rfl (lv := [(0, .ref h)]) rfl (Nat.le_of_ble_eq_true rfl) ?_
  intro p e s m below meth c C0 hao hin G ls hl
  have hx := C0.1
  have hb := C0.2.1
  have hown := C0.2.2.2.2.2.1
  have hts := C0.2.2.2.2.2.2.1
  refine lv_aload_n hx hb dX4_init_0 rfl (lv_at hl 0 rfl) ?_
  refine g_obj C0 ml_X4_1 hl.1 dX4_init_1 ⟨(Nat.le_of_ble_eq_true rfl), (Nat.le_of_ble_eq_true rfl)⟩ (Nat.le_of_ble_eq_true rfl) ?_
  refine lv_aload_n hx hb dX4_init_4 rfl (lv_at hl 0 rfl) ?_
  refine lv_iconst (v := 3) hx hb dX4_init_5 (by decide) ?_
  refine g_newQ (n := 3) C0 G hao xl_X4_9 1 rfl rfl (by decide) (Nat.le_of_ble_eq_true rfl) (Nat.le_of_ble_eq_true rfl) dX4_init_6 (fun q1 H G => ?_)
  refine g_putF (q0 := 1) (W2 := (q1, .inl (cy 4, 3, .inr (.inr (.inr (.inr (fun _ => none)))))) :: (h, .inr (5, [.ref q1, .null, .null, .null, .null, .null])) :: []) C0 G ft_X4 in_X4 hin rfl rfl 0 (by decide) fl_X4_11 (fun _ h => h) rfl rfl rfl rfl (Nat.le_of_ble_eq_true rfl) rfl dX4_init_9 (fun H locs G => ?_)
  refine lv_iconst (v := 0) hx hb dX4_init_12 (by decide) ?_
  refine lv_istore_n (lv' := [(1, .int 0), (0, .ref h)]) hx hb dX4_init_13 rfl hl (by decide) rfl (fun ls hl => ?_)
  refine lv_iload_n hx hb dX4_init_14 rfl (lv_at hl 0 rfl) ?_
  refine lv_iconst (v := 3) hx hb dX4_init_15 (by decide) ?_
  refine lv_icmp_ge (tgt := 38) hx hb dX4_init_16 (by decide) (fun c_16 => ?_) (fun c_16 => ?_)
  · exact absurd c_16 (by decide)
  · skip
    refine lv_aload_n hx hb dX4_init_19 rfl (lv_at hl 1 rfl) ?_
    refine g_get (q0 := 1) (v := .ref q1) C0 G in_X4 rfl rfl 0 (by decide) fl_X4_11 (fun _ h => h) rfl dX4_init_20 ?_
    refine lv_iload_n hx hb dX4_init_23 rfl (lv_at hl 0 rfl) ?_
    refine g_newO (ci := 1) (fs := [.long 0, .long 0, .int (nI 0)]) C0 G in_X0 ft_X0 xl_X4_9 ist_X0 ini_X0 rfl (by intro j hj; rcases (show j = 0 ∨ j = 1 ∨ j = 2 by omega) with rfl | rfl | rfl <;> rfl) (Nat.le_of_ble_eq_true rfl) (Nat.le_of_ble_eq_true rfl) dX4_init_24 (fun q2 H G => ?_)
    refine lv_dup hx hb dX4_init_27 rfl ?_
    refine g_callKN (As := []) (rest := [.ref q2, .int 0, .ref q1]) C0 G hao (c_X0_init l D cy (W1 := (q2, .inr (1, [.long 0, .long 0, .int (nI 0)])) :: (q1, .inl (cy 4, 3, .inr (.inr (.inr (.inr (fun _ => none)))))) :: (h, .inr (5, [.ref q1, .null, .null, .null, .null, .null])) :: []) (h := q2)) k_X0_init nm_X4_15 dX4_init_28 rfl rfl hl.1 (Nat.le_of_ble_eq_true rfl) ⟨(Nat.le_of_ble_eq_true rfl), (Nat.le_of_ble_eq_true rfl)⟩ ⟨(Nat.le_of_ble_eq_true rfl), (Nat.le_of_ble_eq_true rfl)⟩ (fun r W2 H locs hp G => ?_)
    obtain ⟨rfl, hw⟩ := hp
    have G := g_wc hw G
    refine W.eq (g2 := F0 m 31 ls [.ref q2, .int 0, .ref q1]) rfl ?_
    refine g_astq (q0 := 1) (qk := 0) (n := 3) (W2 := (q2, .inr (1, [.long 0, .long 0, .int (nI 0)])) :: (q1, .inl (cy 4, 3, .inr (.inr (.inr (.inr (va_up (fun _ => none) 0 (some q2))))))) :: (h, .inr (5, [.ref q1, .null, .null, .null, .null, .null])) :: []) C0 G rfl 1 rfl rfl rfl (vp_in_nI (n := 0) (by decide) (by decide)) rfl dX4_init_31 (fun H locs G => ?_)
    refine lv_iinc (v := 1) (lv' := [(1, .int 1), (0, .ref h)]) hx hb dX4_init_32 hl (k := 0) rfl (by decide) (by decide) rfl (fun ls hl => ?_)
    refine lv_goto (tgt := 14) hx hb dX4_init_35 (by decide) ?_
    refine lv_iload_n hx hb dX4_init_14 rfl (lv_at hl 0 rfl) ?_
    refine lv_iconst (v := 3) hx hb dX4_init_15 (by decide) ?_
    refine lv_icmp_ge (tgt := 38) hx hb dX4_init_16 (by decide) (fun c_16 => ?_) (fun c_16 => ?_)
    · exact absurd c_16 (by decide)
    · skip
      refine lv_aload_n hx hb dX4_init_19 rfl (lv_at hl 1 rfl) ?_
      refine g_get (q0 := 2) (v := .ref q1) C0 G in_X4 rfl rfl 0 (by decide) fl_X4_11 (fun _ h => h) rfl dX4_init_20 ?_
      refine lv_iload_n hx hb dX4_init_23 rfl (lv_at hl 0 rfl) ?_
      refine g_newO (ci := 1) (fs := [.long 0, .long 0, .int (nI 0)]) C0 G in_X0 ft_X0 xl_X4_9 ist_X0 ini_X0 rfl (by intro j hj; rcases (show j = 0 ∨ j = 1 ∨ j = 2 by omega) with rfl | rfl | rfl <;> rfl) (Nat.le_of_ble_eq_true rfl) (Nat.le_of_ble_eq_true rfl) dX4_init_24 (fun q3 H G => ?_)
      refine lv_dup hx hb dX4_init_27 rfl ?_
      refine g_callKN (As := []) (rest := [.ref q3, .int 1, .ref q1]) C0 G hao (c_X0_init l D cy (W1 := (q3, .inr (1, [.long 0, .long 0, .int (nI 0)])) :: (q2, .inr (1, [.long 0, .long 0, .int (nI 0)])) :: (q1, .inl (cy 4, 3, .inr (.inr (.inr (.inr (va_up (fun _ => none) 0 (some q2))))))) :: (h, .inr (5, [.ref q1, .null, .null, .null, .null, .null])) :: []) (h := q3)) k_X0_init nm_X4_15 dX4_init_28 rfl rfl hl.1 (Nat.le_of_ble_eq_true rfl) ⟨(Nat.le_of_ble_eq_true rfl), (Nat.le_of_ble_eq_true rfl)⟩ ⟨(Nat.le_of_ble_eq_true rfl), (Nat.le_of_ble_eq_true rfl)⟩ (fun r W2 H locs hp G => ?_)
      obtain ⟨rfl, hw⟩ := hp
      have G := g_wc hw G
      refine W.eq (g2 := F0 m 31 ls [.ref q3, .int 1, .ref q1]) rfl ?_
      refine g_astq (q0 := 2) (qk := 0) (n := 3) (W2 := (q3, .inr (1, [.long 0, .long 0, .int (nI 0)])) :: (q2, .inr (1, [.long 0, .long 0, .int (nI 0)])) :: (q1, .inl (cy 4, 3, .inr (.inr (.inr (.inr (va_up (va_up (fun _ => none) 0 (some q2)) 1 (some q3))))))) :: (h, .inr (5, [.ref q1, .null, .null, .null, .null, .null])) :: []) C0 G rfl 1 rfl rfl rfl (vp_in_nI (n := 1) (by decide) (by decide)) rfl dX4_init_31 (fun H locs G => ?_)
      refine lv_iinc (v := 2) (lv' := [(1, .int 2), (0, .ref h)]) hx hb dX4_init_32 hl (k := 0) rfl (by decide) (by decide) rfl (fun ls hl => ?_)
      refine lv_goto (tgt := 14) hx hb dX4_init_35 (by decide) ?_
      refine lv_iload_n hx hb dX4_init_14 rfl (lv_at hl 0 rfl) ?_
      refine lv_iconst (v := 3) hx hb dX4_init_15 (by decide) ?_
      refine lv_icmp_ge (tgt := 38) hx hb dX4_init_16 (by decide) (fun c_16 => ?_) (fun c_16 => ?_)
      · exact absurd c_16 (by decide)
      · skip
        refine lv_aload_n hx hb dX4_init_19 rfl (lv_at hl 1 rfl) ?_
        refine g_get (q0 := 3) (v := .ref q1) C0 G in_X4 rfl rfl 0 (by decide) fl_X4_11 (fun _ h => h) rfl dX4_init_20 ?_
        refine lv_iload_n hx hb dX4_init_23 rfl (lv_at hl 0 rfl) ?_
        refine g_newO (ci := 1) (fs := [.long 0, .long 0, .int (nI 0)]) C0 G in_X0 ft_X0 xl_X4_9 ist_X0 ini_X0 rfl (by intro j hj; rcases (show j = 0 ∨ j = 1 ∨ j = 2 by omega) with rfl | rfl | rfl <;> rfl) (Nat.le_of_ble_eq_true rfl) (Nat.le_of_ble_eq_true rfl) dX4_init_24 (fun q4 H G => ?_)
        refine lv_dup hx hb dX4_init_27 rfl ?_
        refine g_callKN (As := []) (rest := [.ref q4, .int 2, .ref q1]) C0 G hao (c_X0_init l D cy (W1 := (q4, .inr (1, [.long 0, .long 0, .int (nI 0)])) :: (q3, .inr (1, [.long 0, .long 0, .int (nI 0)])) :: (q2, .inr (1, [.long 0, .long 0, .int (nI 0)])) :: (q1, .inl (cy 4, 3, .inr (.inr (.inr (.inr (va_up (va_up (fun _ => none) 0 (some q2)) 1 (some q3))))))) :: (h, .inr (5, [.ref q1, .null, .null, .null, .null, .null])) :: []) (h := q4)) k_X0_init nm_X4_15 dX4_init_28 rfl rfl hl.1 (Nat.le_of_ble_eq_true rfl) ⟨(Nat.le_of_ble_eq_true rfl), (Nat.le_of_ble_eq_true rfl)⟩ ⟨(Nat.le_of_ble_eq_true rfl), (Nat.le_of_ble_eq_true rfl)⟩ (fun r W2 H locs hp G => ?_)
        obtain ⟨rfl, hw⟩ := hp
        have G := g_wc hw G
        refine W.eq (g2 := F0 m 31 ls [.ref q4, .int 2, .ref q1]) rfl ?_
        refine g_astq (q0 := 3) (qk := 0) (n := 3) (W2 := (q4, .inr (1, [.long 0, .long 0, .int (nI 0)])) :: (q3, .inr (1, [.long 0, .long 0, .int (nI 0)])) :: (q2, .inr (1, [.long 0, .long 0, .int (nI 0)])) :: (q1, .inl (cy 4, 3, .inr (.inr (.inr (.inr (va_up (va_up (va_up (fun _ => none) 0 (some q2)) 1 (some q3)) 2 (some q4))))))) :: (h, .inr (5, [.ref q1, .null, .null, .null, .null, .null])) :: []) C0 G rfl 1 rfl rfl rfl (vp_in_nI (n := 2) (by decide) (by decide)) rfl dX4_init_31 (fun H locs G => ?_)
        refine lv_iinc (v := 3) (lv' := [(1, .int 3), (0, .ref h)]) hx hb dX4_init_32 hl (k := 0) rfl (by decide) (by decide) rfl (fun ls hl => ?_)
        refine lv_goto (tgt := 14) hx hb dX4_init_35 (by decide) ?_
        refine lv_iload_n hx hb dX4_init_14 rfl (lv_at hl 0 rfl) ?_
        refine lv_iconst (v := 3) hx hb dX4_init_15 (by decide) ?_
        refine lv_icmp_ge (tgt := 38) hx hb dX4_init_16 (by decide) (fun c_16 => ?_) (fun c_16 => ?_)
        · skip
          refine lv_aload_n hx hb dX4_init_38 rfl (lv_at hl 1 rfl) ?_
          refine g_newO (ci := 4) (fs := [.long 0, .long 0]) C0 G in_X3 ft_X3 xl_X4_16 ist_X3 ini_X3 rfl (by intro j hj; rcases (show j = 0 ∨ j = 1 by omega) with rfl | rfl <;> rfl) (Nat.le_of_ble_eq_true rfl) (Nat.le_of_ble_eq_true rfl) dX4_init_39 (fun q5 H G => ?_)
          refine lv_dup hx hb dX4_init_42 rfl ?_
          refine g_callKN (As := []) (rest := [.ref q5, .ref h]) C0 G hao (c_X3_init l D cy (W1 := (q5, .inr (4, [.long 0, .long 0])) :: (q4, .inr (1, [.long 0, .long 0, .int (nI 0)])) :: (q3, .inr (1, [.long 0, .long 0, .int (nI 0)])) :: (q2, .inr (1, [.long 0, .long 0, .int (nI 0)])) :: (q1, .inl (cy 4, 3, .inr (.inr (.inr (.inr (va_up (va_up (va_up (fun _ => none) 0 (some q2)) 1 (some q3)) 2 (some q4))))))) :: (h, .inr (5, [.ref q1, .null, .null, .null, .null, .null])) :: []) (h := q5)) k_X3_init nm_X4_18 dX4_init_43 rfl rfl hl.1 (Nat.le_of_ble_eq_true rfl) ⟨(Nat.le_of_ble_eq_true rfl), (Nat.le_of_ble_eq_true rfl)⟩ ⟨(Nat.le_of_ble_eq_true rfl), (Nat.le_of_ble_eq_true rfl)⟩ (fun r W2 H locs hp G => ?_)
          obtain ⟨rfl, hw⟩ := hp
          have G := g_wc hw G
          refine W.eq (g2 := F0 m 46 ls [.ref q5, .ref h]) rfl ?_
          refine g_putF (q0 := 5) (W2 := (q5, .inr (4, [.long 0, .long 0])) :: (q4, .inr (1, [.long 0, .long 0, .int (nI 0)])) :: (q3, .inr (1, [.long 0, .long 0, .int (nI 0)])) :: (q2, .inr (1, [.long 0, .long 0, .int (nI 0)])) :: (q1, .inl (cy 4, 3, .inr (.inr (.inr (.inr (va_up (va_up (va_up (fun _ => none) 0 (some q2)) 1 (some q3)) 2 (some q4))))))) :: (h, .inr (5, [.ref q1, .ref q5, .null, .null, .null, .null])) :: []) C0 G ft_X4 in_X4 hin rfl rfl 1 (by decide) fl_X4_19 (fun _ h => h) rfl rfl rfl rfl (Nat.le_of_ble_eq_true rfl) rfl dX4_init_46 (fun H locs G => ?_)
          refine lv_aload_n hx hb dX4_init_49 rfl (lv_at hl 1 rfl) ?_
          refine g_newO (ci := 4) (fs := [.long 0, .long 0]) C0 G in_X3 ft_X3 xl_X4_16 ist_X3 ini_X3 rfl (by intro j hj; rcases (show j = 0 ∨ j = 1 by omega) with rfl | rfl <;> rfl) (Nat.le_of_ble_eq_true rfl) (Nat.le_of_ble_eq_true rfl) dX4_init_50 (fun q6 H G => ?_)
          refine lv_dup hx hb dX4_init_53 rfl ?_
          refine g_callKN (As := []) (rest := [.ref q6, .ref h]) C0 G hao (c_X3_init l D cy (W1 := (q6, .inr (4, [.long 0, .long 0])) :: (q5, .inr (4, [.long 0, .long 0])) :: (q4, .inr (1, [.long 0, .long 0, .int (nI 0)])) :: (q3, .inr (1, [.long 0, .long 0, .int (nI 0)])) :: (q2, .inr (1, [.long 0, .long 0, .int (nI 0)])) :: (q1, .inl (cy 4, 3, .inr (.inr (.inr (.inr (va_up (va_up (va_up (fun _ => none) 0 (some q2)) 1 (some q3)) 2 (some q4))))))) :: (h, .inr (5, [.ref q1, .ref q5, .null, .null, .null, .null])) :: []) (h := q6)) k_X3_init nm_X4_18 dX4_init_54 rfl rfl hl.1 (Nat.le_of_ble_eq_true rfl) ⟨(Nat.le_of_ble_eq_true rfl), (Nat.le_of_ble_eq_true rfl)⟩ ⟨(Nat.le_of_ble_eq_true rfl), (Nat.le_of_ble_eq_true rfl)⟩ (fun r W2 H locs hp G => ?_)
          obtain ⟨rfl, hw⟩ := hp
          have G := g_wc hw G
          refine W.eq (g2 := F0 m 57 ls [.ref q6, .ref h]) rfl ?_
          refine g_putF (q0 := 6) (W2 := (q6, .inr (4, [.long 0, .long 0])) :: (q5, .inr (4, [.long 0, .long 0])) :: (q4, .inr (1, [.long 0, .long 0, .int (nI 0)])) :: (q3, .inr (1, [.long 0, .long 0, .int (nI 0)])) :: (q2, .inr (1, [.long 0, .long 0, .int (nI 0)])) :: (q1, .inl (cy 4, 3, .inr (.inr (.inr (.inr (va_up (va_up (va_up (fun _ => none) 0 (some q2)) 1 (some q3)) 2 (some q4))))))) :: (h, .inr (5, [.ref q1, .ref q5, .ref q6, .null, .null, .null])) :: []) C0 G ft_X4 in_X4 hin rfl rfl 2 (by decide) fl_X4_23 (fun _ h => h) rfl rfl rfl rfl (Nat.le_of_ble_eq_true rfl) rfl dX4_init_57 (fun H locs G => ?_)
          refine lv_aload_n hx hb dX4_init_60 rfl (lv_at hl 1 rfl) ?_
          refine g_newO (ci := 2) (fs := [.null, .int (nI 0)]) C0 G in_X1 ft_X1 xl_X4_26 ist_X1 ini_X1 rfl (by intro j hj; rcases (show j = 0 ∨ j = 1 by omega) with rfl | rfl <;> rfl) (Nat.le_of_ble_eq_true rfl) (Nat.le_of_ble_eq_true rfl) dX4_init_61 (fun q7 H G => ?_)
          refine lv_dup hx hb dX4_init_64 rfl ?_
          refine g_callKN (As := []) (rest := [.ref q7, .ref h]) C0 G hao (c_X1_init l D cy (R := (q6, .inr (4, [.long 0, .long 0])) :: (q5, .inr (4, [.long 0, .long 0])) :: (q4, .inr (1, [.long 0, .long 0, .int (nI 0)])) :: (q3, .inr (1, [.long 0, .long 0, .int (nI 0)])) :: (q2, .inr (1, [.long 0, .long 0, .int (nI 0)])) :: (q1, .inl (cy 4, 3, .inr (.inr (.inr (.inr (va_up (va_up (va_up (fun _ => none) 0 (some q2)) 1 (some q3)) 2 (some q4))))))) :: (h, .inr (5, [.ref q1, .ref q5, .ref q6, .null, .null, .null])) :: []) (h := q7)) k_X1_init nm_X4_28 dX4_init_65 rfl rfl hl.1 (Nat.le_of_ble_eq_true rfl) ⟨(Nat.le_of_ble_eq_true rfl), (Nat.le_of_ble_eq_true rfl)⟩ ⟨(Nat.le_of_ble_eq_true rfl), (Nat.le_of_ble_eq_true rfl)⟩ (fun r W2 H locs hp G => ?_)
          obtain ⟨rfl, sa, sc0, sc1, sc2, sc3, sc4, sc5, sc6, sc7, sc8, sc9, sc10, sc11, sc12, sc13, sc14, sc15, sc16, sc17, hw⟩ := hp
          have G := g_wc hw G
          refine W.eq (g2 := F0 m 68 ls [.ref q7, .ref h]) rfl ?_
          refine g_putF (q0 := 26) (W2 := (sc17, .inr (1, [.long 0, .long 0, .int (nI 0)])) :: (sc16, .inr (1, [.long 0, .long 0, .int (nI 0)])) :: (sc15, .inr (1, [.long 0, .long 0, .int (nI 0)])) :: (sc14, .inr (1, [.long 0, .long 0, .int (nI 0)])) :: (sc13, .inr (1, [.long 0, .long 0, .int (nI 0)])) :: (sc12, .inr (1, [.long 0, .long 0, .int (nI 0)])) :: (sc11, .inr (1, [.long 0, .long 0, .int (nI 0)])) :: (sc10, .inr (1, [.long 0, .long 0, .int (nI 0)])) :: (sc9, .inr (1, [.long 0, .long 0, .int (nI 0)])) :: (sc8, .inr (1, [.long 0, .long 0, .int (nI 0)])) :: (sc7, .inr (1, [.long 0, .long 0, .int (nI 0)])) :: (sc6, .inr (1, [.long 0, .long 0, .int (nI 0)])) :: (sc5, .inr (1, [.long 0, .long 0, .int (nI 0)])) :: (sc4, .inr (1, [.long 0, .long 0, .int (nI 0)])) :: (sc3, .inr (1, [.long 0, .long 0, .int (nI 0)])) :: (sc2, .inr (1, [.long 0, .long 0, .int (nI 0)])) :: (sc1, .inr (1, [.long 0, .long 0, .int (nI 0)])) :: (sc0, .inr (1, [.long 0, .long 0, .int (nI 0)])) :: (sa, .inl (cy 4, 18, .inr (.inr (.inr (.inr (va_up (va_up (va_up (va_up (va_up (va_up (va_up (va_up (va_up (va_up (va_up (va_up (va_up (va_up (va_up (va_up (va_up (va_up (fun _ => none) 0 (some sc0)) 1 (some sc1)) 2 (some sc2)) 3 (some sc3)) 4 (some sc4)) 5 (some sc5)) 6 (some sc6)) 7 (some sc7)) 8 (some sc8)) 9 (some sc9)) 10 (some sc10)) 11 (some sc11)) 12 (some sc12)) 13 (some sc13)) 14 (some sc14)) 15 (some sc15)) 16 (some sc16)) 17 (some sc17))))))) :: (q7, .inr (2, [.ref sa, .int (nI 0)])) :: (q6, .inr (4, [.long 0, .long 0])) :: (q5, .inr (4, [.long 0, .long 0])) :: (q4, .inr (1, [.long 0, .long 0, .int (nI 0)])) :: (q3, .inr (1, [.long 0, .long 0, .int (nI 0)])) :: (q2, .inr (1, [.long 0, .long 0, .int (nI 0)])) :: (q1, .inl (cy 4, 3, .inr (.inr (.inr (.inr (va_up (va_up (va_up (fun _ => none) 0 (some q2)) 1 (some q3)) 2 (some q4))))))) :: (h, .inr (5, [.ref q1, .ref q5, .ref q6, .ref q7, .null, .null])) :: []) C0 G ft_X4 in_X4 hin rfl rfl 3 (by decide) fl_X4_29 (fun _ h => h) rfl rfl rfl rfl (Nat.le_of_ble_eq_true rfl) rfl dX4_init_68 (fun H locs G => ?_)
          refine lv_aload_n hx hb dX4_init_71 rfl (lv_at hl 1 rfl) ?_
          refine g_newO (ci := 3) (fs := [.int (nI 0), .int (nI 0), .int (bI false), .int (nI 0), .int (nI 0), .int (nI 0)]) C0 G in_X2 ft_X2 xl_X4_33 ist_X2 ini_X2 rfl (by intro j hj; rcases (show j = 0 ∨ j = 1 ∨ j = 2 ∨ j = 3 ∨ j = 4 ∨ j = 5 by omega) with rfl | rfl | rfl | rfl | rfl | rfl <;> rfl) (Nat.le_of_ble_eq_true rfl) (Nat.le_of_ble_eq_true rfl) dX4_init_72 (fun q8 H G => ?_)
          refine lv_dup hx hb dX4_init_75 rfl ?_
          refine g_callKN (As := []) (rest := [.ref q8, .ref h]) C0 G hao (c_X2_init l D cy (W1 := (q8, .inr (3, [.int (nI 0), .int (nI 0), .int (bI false), .int (nI 0), .int (nI 0), .int (nI 0)])) :: (sc17, .inr (1, [.long 0, .long 0, .int (nI 0)])) :: (sc16, .inr (1, [.long 0, .long 0, .int (nI 0)])) :: (sc15, .inr (1, [.long 0, .long 0, .int (nI 0)])) :: (sc14, .inr (1, [.long 0, .long 0, .int (nI 0)])) :: (sc13, .inr (1, [.long 0, .long 0, .int (nI 0)])) :: (sc12, .inr (1, [.long 0, .long 0, .int (nI 0)])) :: (sc11, .inr (1, [.long 0, .long 0, .int (nI 0)])) :: (sc10, .inr (1, [.long 0, .long 0, .int (nI 0)])) :: (sc9, .inr (1, [.long 0, .long 0, .int (nI 0)])) :: (sc8, .inr (1, [.long 0, .long 0, .int (nI 0)])) :: (sc7, .inr (1, [.long 0, .long 0, .int (nI 0)])) :: (sc6, .inr (1, [.long 0, .long 0, .int (nI 0)])) :: (sc5, .inr (1, [.long 0, .long 0, .int (nI 0)])) :: (sc4, .inr (1, [.long 0, .long 0, .int (nI 0)])) :: (sc3, .inr (1, [.long 0, .long 0, .int (nI 0)])) :: (sc2, .inr (1, [.long 0, .long 0, .int (nI 0)])) :: (sc1, .inr (1, [.long 0, .long 0, .int (nI 0)])) :: (sc0, .inr (1, [.long 0, .long 0, .int (nI 0)])) :: (sa, .inl (cy 4, 18, .inr (.inr (.inr (.inr (va_up (va_up (va_up (va_up (va_up (va_up (va_up (va_up (va_up (va_up (va_up (va_up (va_up (va_up (va_up (va_up (va_up (va_up (fun _ => none) 0 (some sc0)) 1 (some sc1)) 2 (some sc2)) 3 (some sc3)) 4 (some sc4)) 5 (some sc5)) 6 (some sc6)) 7 (some sc7)) 8 (some sc8)) 9 (some sc9)) 10 (some sc10)) 11 (some sc11)) 12 (some sc12)) 13 (some sc13)) 14 (some sc14)) 15 (some sc15)) 16 (some sc16)) 17 (some sc17))))))) :: (q7, .inr (2, [.ref sa, .int (nI 0)])) :: (q6, .inr (4, [.long 0, .long 0])) :: (q5, .inr (4, [.long 0, .long 0])) :: (q4, .inr (1, [.long 0, .long 0, .int (nI 0)])) :: (q3, .inr (1, [.long 0, .long 0, .int (nI 0)])) :: (q2, .inr (1, [.long 0, .long 0, .int (nI 0)])) :: (q1, .inl (cy 4, 3, .inr (.inr (.inr (.inr (va_up (va_up (va_up (fun _ => none) 0 (some q2)) 1 (some q3)) 2 (some q4))))))) :: (h, .inr (5, [.ref q1, .ref q5, .ref q6, .ref q7, .null, .null])) :: []) (h := q8)) k_X2_init nm_X4_35 dX4_init_76 rfl rfl hl.1 (Nat.le_of_ble_eq_true rfl) ⟨(Nat.le_of_ble_eq_true rfl), (Nat.le_of_ble_eq_true rfl)⟩ ⟨(Nat.le_of_ble_eq_true rfl), (Nat.le_of_ble_eq_true rfl)⟩ (fun r W2 H locs hp G => ?_)
          obtain ⟨rfl, hw⟩ := hp
          have G := g_wc hw G
          refine W.eq (g2 := F0 m 79 ls [.ref q8, .ref h]) rfl ?_
          refine g_putF (q0 := 27) (W2 := (q8, .inr (3, [.int (nI 0), .int (nI 0), .int (bI false), .int (nI 0), .int (nI 0), .int (nI 0)])) :: (sc17, .inr (1, [.long 0, .long 0, .int (nI 0)])) :: (sc16, .inr (1, [.long 0, .long 0, .int (nI 0)])) :: (sc15, .inr (1, [.long 0, .long 0, .int (nI 0)])) :: (sc14, .inr (1, [.long 0, .long 0, .int (nI 0)])) :: (sc13, .inr (1, [.long 0, .long 0, .int (nI 0)])) :: (sc12, .inr (1, [.long 0, .long 0, .int (nI 0)])) :: (sc11, .inr (1, [.long 0, .long 0, .int (nI 0)])) :: (sc10, .inr (1, [.long 0, .long 0, .int (nI 0)])) :: (sc9, .inr (1, [.long 0, .long 0, .int (nI 0)])) :: (sc8, .inr (1, [.long 0, .long 0, .int (nI 0)])) :: (sc7, .inr (1, [.long 0, .long 0, .int (nI 0)])) :: (sc6, .inr (1, [.long 0, .long 0, .int (nI 0)])) :: (sc5, .inr (1, [.long 0, .long 0, .int (nI 0)])) :: (sc4, .inr (1, [.long 0, .long 0, .int (nI 0)])) :: (sc3, .inr (1, [.long 0, .long 0, .int (nI 0)])) :: (sc2, .inr (1, [.long 0, .long 0, .int (nI 0)])) :: (sc1, .inr (1, [.long 0, .long 0, .int (nI 0)])) :: (sc0, .inr (1, [.long 0, .long 0, .int (nI 0)])) :: (sa, .inl (cy 4, 18, .inr (.inr (.inr (.inr (va_up (va_up (va_up (va_up (va_up (va_up (va_up (va_up (va_up (va_up (va_up (va_up (va_up (va_up (va_up (va_up (va_up (va_up (fun _ => none) 0 (some sc0)) 1 (some sc1)) 2 (some sc2)) 3 (some sc3)) 4 (some sc4)) 5 (some sc5)) 6 (some sc6)) 7 (some sc7)) 8 (some sc8)) 9 (some sc9)) 10 (some sc10)) 11 (some sc11)) 12 (some sc12)) 13 (some sc13)) 14 (some sc14)) 15 (some sc15)) 16 (some sc16)) 17 (some sc17))))))) :: (q7, .inr (2, [.ref sa, .int (nI 0)])) :: (q6, .inr (4, [.long 0, .long 0])) :: (q5, .inr (4, [.long 0, .long 0])) :: (q4, .inr (1, [.long 0, .long 0, .int (nI 0)])) :: (q3, .inr (1, [.long 0, .long 0, .int (nI 0)])) :: (q2, .inr (1, [.long 0, .long 0, .int (nI 0)])) :: (q1, .inl (cy 4, 3, .inr (.inr (.inr (.inr (va_up (va_up (va_up (fun _ => none) 0 (some q2)) 1 (some q3)) 2 (some q4))))))) :: (h, .inr (5, [.ref q1, .ref q5, .ref q6, .ref q7, .ref q8, .null])) :: []) C0 G ft_X4 in_X4 hin rfl rfl 4 (by decide) fl_X4_36 (fun _ h => h) rfl rfl rfl rfl (Nat.le_of_ble_eq_true rfl) rfl dX4_init_79 (fun H locs G => ?_)
          refine lv_aload_n hx hb dX4_init_82 rfl (lv_at hl 1 rfl) ?_
          refine g_newO (ci := 0) (fs := [.null, .int 0, .int 0, .int (nI 0)]) C0 G in_J4 ft_J4 xl_X4_40 ist_J4 ini_J4 rfl (by intro j hj; rcases (show j = 0 ∨ j = 1 ∨ j = 2 ∨ j = 3 by omega) with rfl | rfl | rfl | rfl <;> rfl) (Nat.le_of_ble_eq_true rfl) (Nat.le_of_ble_eq_true rfl) dX4_init_83 (fun q9 H G => ?_)
          refine lv_dup hx hb dX4_init_86 rfl ?_
          refine g_callK (As := []) (rest := [.ref q9, .ref h]) C0 G hao (c_J4_init_da8c8 l D cy (R := (q8, .inr (3, [.int (nI 0), .int (nI 0), .int (bI false), .int (nI 0), .int (nI 0), .int (nI 0)])) :: (sc17, .inr (1, [.long 0, .long 0, .int (nI 0)])) :: (sc16, .inr (1, [.long 0, .long 0, .int (nI 0)])) :: (sc15, .inr (1, [.long 0, .long 0, .int (nI 0)])) :: (sc14, .inr (1, [.long 0, .long 0, .int (nI 0)])) :: (sc13, .inr (1, [.long 0, .long 0, .int (nI 0)])) :: (sc12, .inr (1, [.long 0, .long 0, .int (nI 0)])) :: (sc11, .inr (1, [.long 0, .long 0, .int (nI 0)])) :: (sc10, .inr (1, [.long 0, .long 0, .int (nI 0)])) :: (sc9, .inr (1, [.long 0, .long 0, .int (nI 0)])) :: (sc8, .inr (1, [.long 0, .long 0, .int (nI 0)])) :: (sc7, .inr (1, [.long 0, .long 0, .int (nI 0)])) :: (sc6, .inr (1, [.long 0, .long 0, .int (nI 0)])) :: (sc5, .inr (1, [.long 0, .long 0, .int (nI 0)])) :: (sc4, .inr (1, [.long 0, .long 0, .int (nI 0)])) :: (sc3, .inr (1, [.long 0, .long 0, .int (nI 0)])) :: (sc2, .inr (1, [.long 0, .long 0, .int (nI 0)])) :: (sc1, .inr (1, [.long 0, .long 0, .int (nI 0)])) :: (sc0, .inr (1, [.long 0, .long 0, .int (nI 0)])) :: (sa, .inl (cy 4, 18, .inr (.inr (.inr (.inr (va_up (va_up (va_up (va_up (va_up (va_up (va_up (va_up (va_up (va_up (va_up (va_up (va_up (va_up (va_up (va_up (va_up (va_up (fun _ => none) 0 (some sc0)) 1 (some sc1)) 2 (some sc2)) 3 (some sc3)) 4 (some sc4)) 5 (some sc5)) 6 (some sc6)) 7 (some sc7)) 8 (some sc8)) 9 (some sc9)) 10 (some sc10)) 11 (some sc11)) 12 (some sc12)) 13 (some sc13)) 14 (some sc14)) 15 (some sc15)) 16 (some sc16)) 17 (some sc17))))))) :: (q7, .inr (2, [.ref sa, .int (nI 0)])) :: (q6, .inr (4, [.long 0, .long 0])) :: (q5, .inr (4, [.long 0, .long 0])) :: (q4, .inr (1, [.long 0, .long 0, .int (nI 0)])) :: (q3, .inr (1, [.long 0, .long 0, .int (nI 0)])) :: (q2, .inr (1, [.long 0, .long 0, .int (nI 0)])) :: (q1, .inl (cy 4, 3, .inr (.inr (.inr (.inr (va_up (va_up (va_up (fun _ => none) 0 (some q2)) 1 (some q3)) 2 (some q4))))))) :: (h, .inr (5, [.ref q1, .ref q5, .ref q6, .ref q7, .ref q8, .null])) :: []) (h := q9)) k_J4_init_da8c8 ml_X4_42 dX4_init_87 rfl rfl hl.1 (Nat.le_of_ble_eq_true rfl) ⟨(Nat.le_of_ble_eq_true rfl), (Nat.le_of_ble_eq_true rfl)⟩ ⟨(Nat.le_of_ble_eq_true rfl), (Nat.le_of_ble_eq_true rfl)⟩ (fun r W2 H locs hp G => ?_)
          obtain ⟨rfl, q10, hw⟩ := hp
          have G := g_wc hw G
          refine W.eq (g2 := F0 m 90 ls [.ref q9, .ref h]) rfl ?_
          refine g_putF (q0 := 29) (W2 := (q10, .inl (cy 0, 16, .inl (fun _ => 0))) :: (q9, .inr (0, [.ref q10, .int 0, .int 0, .int (nI 0)])) :: (q8, .inr (3, [.int (nI 0), .int (nI 0), .int (bI false), .int (nI 0), .int (nI 0), .int (nI 0)])) :: (sc17, .inr (1, [.long 0, .long 0, .int (nI 0)])) :: (sc16, .inr (1, [.long 0, .long 0, .int (nI 0)])) :: (sc15, .inr (1, [.long 0, .long 0, .int (nI 0)])) :: (sc14, .inr (1, [.long 0, .long 0, .int (nI 0)])) :: (sc13, .inr (1, [.long 0, .long 0, .int (nI 0)])) :: (sc12, .inr (1, [.long 0, .long 0, .int (nI 0)])) :: (sc11, .inr (1, [.long 0, .long 0, .int (nI 0)])) :: (sc10, .inr (1, [.long 0, .long 0, .int (nI 0)])) :: (sc9, .inr (1, [.long 0, .long 0, .int (nI 0)])) :: (sc8, .inr (1, [.long 0, .long 0, .int (nI 0)])) :: (sc7, .inr (1, [.long 0, .long 0, .int (nI 0)])) :: (sc6, .inr (1, [.long 0, .long 0, .int (nI 0)])) :: (sc5, .inr (1, [.long 0, .long 0, .int (nI 0)])) :: (sc4, .inr (1, [.long 0, .long 0, .int (nI 0)])) :: (sc3, .inr (1, [.long 0, .long 0, .int (nI 0)])) :: (sc2, .inr (1, [.long 0, .long 0, .int (nI 0)])) :: (sc1, .inr (1, [.long 0, .long 0, .int (nI 0)])) :: (sc0, .inr (1, [.long 0, .long 0, .int (nI 0)])) :: (sa, .inl (cy 4, 18, .inr (.inr (.inr (.inr (va_up (va_up (va_up (va_up (va_up (va_up (va_up (va_up (va_up (va_up (va_up (va_up (va_up (va_up (va_up (va_up (va_up (va_up (fun _ => none) 0 (some sc0)) 1 (some sc1)) 2 (some sc2)) 3 (some sc3)) 4 (some sc4)) 5 (some sc5)) 6 (some sc6)) 7 (some sc7)) 8 (some sc8)) 9 (some sc9)) 10 (some sc10)) 11 (some sc11)) 12 (some sc12)) 13 (some sc13)) 14 (some sc14)) 15 (some sc15)) 16 (some sc16)) 17 (some sc17))))))) :: (q7, .inr (2, [.ref sa, .int (nI 0)])) :: (q6, .inr (4, [.long 0, .long 0])) :: (q5, .inr (4, [.long 0, .long 0])) :: (q4, .inr (1, [.long 0, .long 0, .int (nI 0)])) :: (q3, .inr (1, [.long 0, .long 0, .int (nI 0)])) :: (q2, .inr (1, [.long 0, .long 0, .int (nI 0)])) :: (q1, .inl (cy 4, 3, .inr (.inr (.inr (.inr (va_up (va_up (va_up (fun _ => none) 0 (some q2)) 1 (some q3)) 2 (some q4))))))) :: (h, .inr (5, [.ref q1, .ref q5, .ref q6, .ref q7, .ref q8, .ref q9])) :: []) C0 G ft_X4 in_X4 hin rfl rfl 5 (by decide) fl_X4_43 (fun _ h => h) rfl rfl rfl rfl (Nat.le_of_ble_eq_true rfl) rfl dX4_init_90 (fun H locs G => ?_)
          obtain ⟨ad, ha0, ha1, ha2, ha3, ha4, ha5, ha6, ha7, hc0, hc1, hc2, hc3, hc4, hc5, hc6, hc7, hc8, hc9, hc10, hc11, hc12, hc13, hc14, hc15, hc16, hc17, hc18, hc19, hc20⟩ : ∃ ad : Nat → Nat, ad 0 = h ∧ ad 1 = q1 ∧ ad 2 = q5 ∧ ad 3 = q6 ∧ ad 4 = q7 ∧ ad 5 = sa ∧ ad 6 = q8 ∧ ad 7 = q9 ∧ ad (10 + 0) = q2 ∧ ad (10 + 1) = q3 ∧ ad (10 + 2) = q4 ∧ ad (10 + 3) = sc0 ∧ ad (10 + 4) = sc1 ∧ ad (10 + 5) = sc2 ∧ ad (10 + 6) = sc3 ∧ ad (10 + 7) = sc4 ∧ ad (10 + 8) = sc5 ∧ ad (10 + 9) = sc6 ∧ ad (10 + 10) = sc7 ∧ ad (10 + 11) = sc8 ∧ ad (10 + 12) = sc9 ∧ ad (10 + 13) = sc10 ∧ ad (10 + 14) = sc11 ∧ ad (10 + 15) = sc12 ∧ ad (10 + 16) = sc13 ∧ ad (10 + 17) = sc14 ∧ ad (10 + 18) = sc15 ∧ ad (10 + 19) = sc16 ∧ ad (10 + 20) = sc17 := ⟨adL [h, q1, q5, q6, q7, sa, q8, q9, 0, 0, q2, q3, q4, sc0, sc1, sc2, sc3, sc4, sc5, sc6, sc7, sc8, sc9, sc10, sc11, sc12, sc13, sc14, sc15, sc16, sc17], rfl, rfl, rfl, rfl, rfl, rfl, rfl, rfl, rfl, rfl, rfl, rfl, rfl, rfl, rfl, rfl, rfl, rfl, rfl, rfl, rfl, rfl, rfl, rfl, rfl, rfl, rfl, rfl, rfl⟩
          subst ha0
          subst ha1
          subst ha2
          subst ha3
          subst ha4
          subst ha5
          subst ha6
          subst ha7
          subst hc0
          subst hc1
          subst hc2
          subst hc3
          subst hc4
          subst hc5
          subst hc6
          subst hc7
          subst hc8
          subst hc9
          subst hc10
          subst hc11
          subst hc12
          subst hc13
          subst hc14
          subst hc15
          subst hc16
          subst hc17
          subst hc18
          subst hc19
          subst hc20
          have hl : lv_has ls 2 [(1, .int 3), (0, .ref (ad 0))] := hl
          have G : gW D ((q10, .inl (cy 0, 16, .inl (fun _ => 0))) :: (ad 7, .inr (0, [.ref q10, .int 0, .int 0, .int (nI 0)])) :: (ad 6, .inr (3, [.int (nI 0), .int (nI 0), .int (bI false), .int (nI 0), .int (nI 0), .int (nI 0)])) :: (ad (10 + 20), .inr (1, [.long 0, .long 0, .int (nI 0)])) :: (ad (10 + 19), .inr (1, [.long 0, .long 0, .int (nI 0)])) :: (ad (10 + 18), .inr (1, [.long 0, .long 0, .int (nI 0)])) :: (ad (10 + 17), .inr (1, [.long 0, .long 0, .int (nI 0)])) :: (ad (10 + 16), .inr (1, [.long 0, .long 0, .int (nI 0)])) :: (ad (10 + 15), .inr (1, [.long 0, .long 0, .int (nI 0)])) :: (ad (10 + 14), .inr (1, [.long 0, .long 0, .int (nI 0)])) :: (ad (10 + 13), .inr (1, [.long 0, .long 0, .int (nI 0)])) :: (ad (10 + 12), .inr (1, [.long 0, .long 0, .int (nI 0)])) :: (ad (10 + 11), .inr (1, [.long 0, .long 0, .int (nI 0)])) :: (ad (10 + 10), .inr (1, [.long 0, .long 0, .int (nI 0)])) :: (ad (10 + 9), .inr (1, [.long 0, .long 0, .int (nI 0)])) :: (ad (10 + 8), .inr (1, [.long 0, .long 0, .int (nI 0)])) :: (ad (10 + 7), .inr (1, [.long 0, .long 0, .int (nI 0)])) :: (ad (10 + 6), .inr (1, [.long 0, .long 0, .int (nI 0)])) :: (ad (10 + 5), .inr (1, [.long 0, .long 0, .int (nI 0)])) :: (ad (10 + 4), .inr (1, [.long 0, .long 0, .int (nI 0)])) :: (ad (10 + 3), .inr (1, [.long 0, .long 0, .int (nI 0)])) :: (ad 5, .inl (cy 4, 18, .inr (.inr (.inr (.inr (va_up (va_up (va_up (va_up (va_up (va_up (va_up (va_up (va_up (va_up (va_up (va_up (va_up (va_up (va_up (va_up (va_up (va_up (fun _ => none) 0 (some (ad (10 + 3)))) 1 (some (ad (10 + 4)))) 2 (some (ad (10 + 5)))) 3 (some (ad (10 + 6)))) 4 (some (ad (10 + 7)))) 5 (some (ad (10 + 8)))) 6 (some (ad (10 + 9)))) 7 (some (ad (10 + 10)))) 8 (some (ad (10 + 11)))) 9 (some (ad (10 + 12)))) 10 (some (ad (10 + 13)))) 11 (some (ad (10 + 14)))) 12 (some (ad (10 + 15)))) 13 (some (ad (10 + 16)))) 14 (some (ad (10 + 17)))) 15 (some (ad (10 + 18)))) 16 (some (ad (10 + 19)))) 17 (some (ad (10 + 20))))))))) :: (ad 4, .inr (2, [.ref (ad 5), .int (nI 0)])) :: (ad 3, .inr (4, [.long 0, .long 0])) :: (ad 2, .inr (4, [.long 0, .long 0])) :: (ad (10 + 2), .inr (1, [.long 0, .long 0, .int (nI 0)])) :: (ad (10 + 1), .inr (1, [.long 0, .long 0, .int (nI 0)])) :: (ad (10 + 0), .inr (1, [.long 0, .long 0, .int (nI 0)])) :: (ad 1, .inl (cy 4, 3, .inr (.inr (.inr (.inr (fun j => some (ad (10 + j)))))))) :: (ad 0, .inr (5, [.ref (ad 1), .ref (ad 2), .ref (ad 3), .ref (ad 4), .ref (ad 6), .ref (ad 7)])) :: []) (va_A (((ad 0), .inr (5, [.null, .null, .null, .null, .null, .null])) :: []) s.heap.size) s _ _ := gW_setq (i := 28) (g := fun j => some (ad (10 + j))) rfl (by intro j hj; rcases (show j = 0 ∨ j = 1 ∨ j = 2 by omega) with rfl | rfl | rfl <;> rfl) G
          have G : gW D ((q10, .inl (cy 0, 16, .inl (fun _ => 0))) :: (ad 7, .inr (0, [.ref q10, .int 0, .int 0, .int (nI 0)])) :: (ad 6, .inr (3, [.int (nI 0), .int (nI 0), .int (bI false), .int (nI 0), .int (nI 0), .int (nI 0)])) :: (ad (10 + 20), .inr (1, [.long 0, .long 0, .int (nI 0)])) :: (ad (10 + 19), .inr (1, [.long 0, .long 0, .int (nI 0)])) :: (ad (10 + 18), .inr (1, [.long 0, .long 0, .int (nI 0)])) :: (ad (10 + 17), .inr (1, [.long 0, .long 0, .int (nI 0)])) :: (ad (10 + 16), .inr (1, [.long 0, .long 0, .int (nI 0)])) :: (ad (10 + 15), .inr (1, [.long 0, .long 0, .int (nI 0)])) :: (ad (10 + 14), .inr (1, [.long 0, .long 0, .int (nI 0)])) :: (ad (10 + 13), .inr (1, [.long 0, .long 0, .int (nI 0)])) :: (ad (10 + 12), .inr (1, [.long 0, .long 0, .int (nI 0)])) :: (ad (10 + 11), .inr (1, [.long 0, .long 0, .int (nI 0)])) :: (ad (10 + 10), .inr (1, [.long 0, .long 0, .int (nI 0)])) :: (ad (10 + 9), .inr (1, [.long 0, .long 0, .int (nI 0)])) :: (ad (10 + 8), .inr (1, [.long 0, .long 0, .int (nI 0)])) :: (ad (10 + 7), .inr (1, [.long 0, .long 0, .int (nI 0)])) :: (ad (10 + 6), .inr (1, [.long 0, .long 0, .int (nI 0)])) :: (ad (10 + 5), .inr (1, [.long 0, .long 0, .int (nI 0)])) :: (ad (10 + 4), .inr (1, [.long 0, .long 0, .int (nI 0)])) :: (ad (10 + 3), .inr (1, [.long 0, .long 0, .int (nI 0)])) :: (ad 5, .inl (cy 4, 18, .inr (.inr (.inr (.inr (fun j => some (ad (10 + (3 + j))))))))) :: (ad 4, .inr (2, [.ref (ad 5), .int (nI 0)])) :: (ad 3, .inr (4, [.long 0, .long 0])) :: (ad 2, .inr (4, [.long 0, .long 0])) :: (ad (10 + 2), .inr (1, [.long 0, .long 0, .int (nI 0)])) :: (ad (10 + 1), .inr (1, [.long 0, .long 0, .int (nI 0)])) :: (ad (10 + 0), .inr (1, [.long 0, .long 0, .int (nI 0)])) :: (ad 1, .inl (cy 4, 3, .inr (.inr (.inr (.inr (fun j => some (ad (10 + j)))))))) :: (ad 0, .inr (5, [.ref (ad 1), .ref (ad 2), .ref (ad 3), .ref (ad 4), .ref (ad 6), .ref (ad 7)])) :: []) (va_A (((ad 0), .inr (5, [.null, .null, .null, .null, .null, .null])) :: []) s.heap.size) s _ _ := gW_setq (i := 21) (g := fun j => some (ad (10 + (3 + j)))) rfl (by intro j hj; rcases (show j = 0 ∨ j = 1 ∨ j = 2 ∨ j = 3 ∨ j = 4 ∨ j = 5 ∨ j = 6 ∨ j = 7 ∨ j = 8 ∨ j = 9 ∨ j = 10 ∨ j = 11 ∨ j = 12 ∨ j = 13 ∨ j = 14 ∨ j = 15 ∨ j = 16 ∨ j = 17 by omega) with rfl | rfl | rfl | rfl | rfl | rfl | rfl | rfl | rfl | rfl | rfl | rfl | rfl | rfl | rfl | rfl | rfl | rfl <;> rfl) G
          have G : gW D (wC ad cy (fun _ => 0) (fun _ => 0) (fun _ => 0) 0 0 0 0 0 0 0 false 0 0 0 q10 16 (fun _ => 0) 0 0 ([])) (va_A (((ad 0), .inr (5, [.null, .null, .null, .null, .null, .null])) :: []) s.heap.size) s _ _ := ⟨G.1.sub [29, 28, 24, 23, 22, 21, 2, 1, 0, 27, 26, 25, 20, 19, 18, 17, 16, 15, 14, 13, 12, 11, 10, 9, 8, 7, 6, 5, 4, 3] rfl, G.2.1.sub [29, 28, 24, 23, 22, 21, 2, 1, 0, 27, 26, 25, 20, 19, 18, 17, 16, 15, 14, 13, 12, 11, 10, 9, 8, 7, 6, 5, 4, 3] (by decide) rfl, G.2.2⟩
          refine W.widen (k := 40) (n := 200) (Nat.le_of_ble_eq_true rfl) (Nat.le_of_ble_eq_true rfl) ?_
          exact g_vret C0 G ⟨rfl, ad, q10, rfl, rfl⟩ dX4_init_93
        · exact absurd c_16 (by decide)
