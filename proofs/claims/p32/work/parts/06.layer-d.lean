/-! more calls: of the superclass's method by super, of an inherited one, of a private one of the superclass; statics -/
theorem sel_pv {s : State} {args : Array Value} {C : String} {cC : ClassId} {y z : MethodName} (hC : s.vm.findClass C = some cC) (hi : (Cond.instanceMethod y).before args s = true) (hp : (Cond.privateMethod y).before args s = true)
    (hd : y.cls ≠ "java/lang/invoke/MethodHandle" ∧ y.cls ≠ "java/lang/invoke/VarHandle") (hz : (Cond.selects C z z).before args s = true) (hzc : z.cls = y.cls) : (Cond.selects C y y).before args s = true := by
  obtain ⟨mk, methM, hnamed, hmethM, hstM, habM⟩ := Cond.instanceMethod_spec hi
  have hf := State.methodFound?_of_named hnamed hd
  have hpr : methM.isPrivate = true := by simpa [Cond.before, Cond.holds, Cond.value, hnamed, hmethM] using hp
  have hs : selectMethod {} s.vm cC mk = .method mk := by simp [selectMethod, hmethM, hpr]
  obtain ⟨c2, r2, m2, -, -, q3, -, kP, hkP, hkPi⟩ := Cond.selects_spec hz
  have e1 := findClass_of_methodNamed q3
  have e2 := findClass_of_methodNamed hnamed
  rw [hzc, e2] at e1
  have e3 : mk.cls = m2.cls := Option.some.inj e1
  have hany : (s.vm.classes[mk.cls]?).any (fun k => !k.isInterface) = true := by rw [e3, hkP]; simp [hkPi]
  simp only [Cond.before, Cond.holds, Cond.value, hC, hf, hnamed, hs, decide_true, Bool.true_and, hany, beq_self_eq_true]
section GD
variable {p : Program} {l : Launch} {e : Env} {R : Room} {s : State} {m : MethodId} {args : Array Value} {below : List Frame} {meth : Method} {c : Code} {H : Heap} {locs : List Loc} {cells slots : Nat} {Q : State → Prop}
variable {cc : ByteArray} {nL : Nat} {ret : Option FieldType} {own : String} {D : va_G} {ts : gY} {A : Nat → Prop} {W1 W2 : va_W} {pc : Nat} {ls : Array Slot} {rest st0 : List Value}
variable {C : String} {y z : MethodName} {bytes : ByteArray} {maxL L mc ms n index b q0 ci N : Nat} {rt : Option FieldType} {As : List Value} {post : Option Value → va_W → Prop} {fs : List Value} {T : u_T}
theorem g_callU (C0 : gC p s m args meth c cc nL ret own D ts A) (G : gW D W1 A s H locs) (hM : GE l D ts y bytes maxL rt L mc ms (.ref b :: As) W1 post) (hk : gKU own y bytes maxL rt n) (hl : Cond.methodLink own index y ∈ gTs)
    (he : W1[q0]? = some (b, .inr (ci, fs))) (hc : vwCl[ci]? = some (C, T, N)) (hdg : decode cc pc = .ok (.invokespecial index, 3)) (hst : st0 = As.reverse ++ .ref b :: rest) (hn : As.length = n) (hsz : ls.size = nL) (hcat : (rest.map fun v => v.category).sum ≤ 8)
    (hR : 2 + L + 1 ≤ R.frames ∧ 8 + (maxL + 11) + (100 + 40 * L) ≤ R.locals) (hf : cells + mc ≤ R.cells ∧ slots + ms ≤ R.slots)
    (kk : ∀ (r : Option Value) (W2 : va_W) (H1 : Heap) (locs1 : List Loc), post r W2 → gW D W2 A s H1 locs1 → W p l e R s m args below meth c H1 locs1 (cells + mc) (slots + ms) Q (F0 m (pc + 3) ls (r.toList ++ rest))) : W p l e R s m args below meth c H locs cells slots Q (F0 m pc ls st0) := by
  obtain ⟨hx, hb, hml, hr, hlk, hown, hts, hK, hT, hS, hA⟩ := id C0
  obtain ⟨⟨k1, k2, k3, k4, k5⟩, k6⟩ := hk
  have hg : GoodIn gTs (va_wsSU own index y (gws y bytes maxL rt)) := by
    intro w hw
    unfold va_wsSU at hw
    rcases List.mem_append.mp hw with h | h
    · simp only [List.mem_cons, List.not_mem_nil, or_false] at h
      rcases h with rfl | rfl | rfl | rfl | rfl
      · exact gTs_self _ hl
      · exact gTs_self _ k2
      · exact gTs_self _ k3
      · exact gTs_self _ k1
      · exact gTs_self _ k4
    · exact gws_good k5 w h
  have cw := va_cwSU (s := s) (args := args) (R := R) (rm := gR L mc ms) (mc := mc) (ms := ms) n hts hg rfl rfl rfl k6 hR
  exact g_go (va_runSU (hK.1 ci _ hc).2 ⟨hx, hb, hml, hown, hts⟩ (hM H.size) cw ⟨gP_blind, va_recv hK G.1 hc he, fun U hU hW => ⟨rfl, g_pre C0 G hU hW⟩⟩ rfl hn hsz hst (lv_room hcat) hdg hf) G hA kk
theorem g_callW (C0 : gC p s m args meth c cc nL ret own D ts A) (G : gW D W1 A s H locs) (hM : GE l D ts y bytes maxL rt L mc ms (.ref b :: As) W1 post) (hk : gKW C y bytes maxL rt n) (hl : Cond.methodLink own index y ∈ gTs)
    (he : W1[q0]? = some (b, .inr (ci, fs))) (hc : vwCl[ci]? = some (C, T, N)) (hdg : decode cc pc = .ok (.invokevirtual index, 3)) (hst : st0 = As.reverse ++ .ref b :: rest) (hn : As.length = n) (hsz : ls.size = nL) (hcat : (rest.map fun v => v.category).sum ≤ 8)
    (hR : 2 + L + 1 ≤ R.frames ∧ 8 + (maxL + 11) + (100 + 40 * L) ≤ R.locals) (hf : cells + mc ≤ R.cells ∧ slots + ms ≤ R.slots)
    (kk : ∀ (r : Option Value) (W2 : va_W) (H1 : Heap) (locs1 : List Loc), post r W2 → gW D W2 A s H1 locs1 → W p l e R s m args below meth c H1 locs1 (cells + mc) (slots + ms) Q (F0 m (pc + 3) ls (r.toList ++ rest))) : W p l e R s m args below meth c H locs cells slots Q (F0 m pc ls st0) := by
  obtain ⟨hx, hb, hml, hr, hlk, hown, hts, hK, hT, hS, hA⟩ := id C0
  obtain ⟨⟨k1, k2, k3, k4⟩, k6, k7, k8⟩ := hk
  have cw : CallW R s args own C index y bytes maxL rt (gws y bytes maxL rt) (gR L mc ms) mc ms n := ⟨callB_of n hts (gws_good k4) rfl rfl rfl (hts _ k3) (hts _ hl) ⟨k6, k7, k8⟩ hR, hts _ k1, hts _ k2⟩
  exact g_go (va_runV ⟨hx, hb, hml, hown, hts⟩ (hM H.size) cw ⟨gP_blind, va_recv hK G.1 hc he, fun U hU hW => ⟨rfl, g_pre C0 G hU hW⟩⟩ rfl hn hsz hst (lv_room hcat) hdg hf) G hA kk
theorem g_callP (C0 : gC p s m args meth c cc nL ret own D ts A) (G : gW D W1 A s H locs) (hM : GE l D ts y bytes maxL rt L mc ms (.ref b :: As) W1 post) (hk : gKP y bytes maxL rt n) (hz : Cond.selects C z z ∈ gTs) (hzc : z.cls = y.cls) (hl : Cond.methodLink own index y ∈ gTs)
    (he : W1[q0]? = some (b, .inr (ci, fs))) (hc : vwCl[ci]? = some (C, T, N)) (hdg : decode cc pc = .ok (.invokevirtual index, 3)) (hst : st0 = As.reverse ++ .ref b :: rest) (hn : As.length = n) (hsz : ls.size = nL) (hcat : (rest.map fun v => v.category).sum ≤ 8)
    (hR : 2 + L + 1 ≤ R.frames ∧ 8 + (maxL + 11) + (100 + 40 * L) ≤ R.locals) (hf : cells + mc ≤ R.cells ∧ slots + ms ≤ R.slots)
    (kk : ∀ (r : Option Value) (W2 : va_W) (H1 : Heap) (locs1 : List Loc), post r W2 → gW D W2 A s H1 locs1 → W p l e R s m args below meth c H1 locs1 (cells + mc) (slots + ms) Q (F0 m (pc + 3) ls (r.toList ++ rest))) : W p l e R s m args below meth c H locs cells slots Q (F0 m pc ls st0) := by
  obtain ⟨hx, hb, hml, hr, hlk, hown, hts, hK, hT, hS, hA⟩ := id C0
  obtain ⟨⟨k1, k2, k3, k4⟩, k6, k7, k8⟩ := hk
  have hs : (Cond.selects C y y).before args s = true := sel_pv (hK.1 ci _ hc).2.1 (hts _ k1) (hT.word k2) ⟨k6, k7⟩ (hts _ hz) hzc
  have cw : CallW R s args own C index y bytes maxL rt (gws y bytes maxL rt) (gR L mc ms) mc ms n := ⟨callB_of n hts (gws_good k4) rfl rfl rfl (hts _ k3) (hts _ hl) ⟨k6, k7, k8⟩ hR, hts _ k1, hs⟩
  exact g_go (va_runV ⟨hx, hb, hml, hown, hts⟩ (hM H.size) cw ⟨gP_blind, va_recv hK G.1 hc he, fun U hU hW => ⟨rfl, g_pre C0 G hU hW⟩⟩ rfl hn hsz hst (lv_room hcat) hdg hf) G hA kk
theorem g_getsC (C0 : gC p s m args meth c cc nL ret own D ts A) (G : gW D W1 A s H locs) (hl : Cond.fieldLink own index "java/lang/String" "COMPACT_STRINGS" "Z" ∈ gTs) (hdg : decode cc pc = .ok (.getstatic index, 3))
    (kk : W p l e R s m args below meth c H locs cells slots Q (F0 m (pc + 3) ls (.int 1 :: rest))) : W p l e R s m args below meth c H locs cells slots Q (F0 m pc ls rest) :=
  va_gets C0.1 C0.2.1 C0.2.2.2.2.2.2.2.2.2.1.2.2 G.2.2 C0.2.2.2.2.2.1 (C0.2.2.2.2.2.2.1 _ hl) (fun _ h => h) hdg kk
end GD
