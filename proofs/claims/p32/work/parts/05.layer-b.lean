/-! the rows of the layer: calls, fields, arrays, ends -/
section GB
variable {p : Program} {l : Launch} {e : Env} {R : Room} {s : State} {m : MethodId} {args : Array Value} {below : List Frame} {meth : Method} {c : Code} {H : Heap} {locs : List Loc} {cells slots : Nat} {Q : State → Prop}
variable {cc : ByteArray} {nL : Nat} {ret : Option FieldType} {own : String} {D : va_G} {ts : gY} {A : Nat → Prop} {W1 W2 : va_W} {pc : Nat} {ls : Array Slot} {rest st0 : List Value}
variable {C : String} {y : MethodName} {bytes : ByteArray} {maxL L mc ms n index b q0 ci N : Nat} {rt : Option FieldType} {As : List Value} {post : Option Value → va_W → Prop} {fs : List Value} {T : u_T}
theorem gws_good (k4 : Cond.code y bytes maxL rt ∈ gTs) : GoodIn gTs (gws y bytes maxL rt) := by
  intro w hw
  rcases List.mem_cons.mp hw with rfl | h
  · exact gTs_self _ k4
  · exact gTs_self _ h
theorem gwh_good {hh : List (Nat × Nat × Nat × Nat)} (k4 : Cond.codeWith y bytes maxL rt hh ∈ gTs) : GoodIn gTs (gwh y bytes maxL rt hh) := by
  intro w hw
  rcases List.mem_cons.mp hw with rfl | h
  · exact gTs_self _ k4
  · exact gTs_self _ h
theorem g_len (h : (parseMethodDescriptor y.desc).map (fun d => d.parameters.length) = some n) : ∀ sig, parseMethodDescriptor y.desc = some sig → n = sig.parameters.length := fun sig h2 => by
  rw [h2] at h
  exact (Option.some.inj h).symm
/-- a class's fields: their types, their names apart -/
def gFT (T : u_T) (N : Nat) (ty : Nat → FieldType) : Prop := (∀ k, k < N → parseFieldDescriptor (T k).2.2.1 = some (ty k)) ∧ (∀ a, a < N → ∀ b, b < N → a ≠ b → (T a).2.1 ≠ (T b).2.1)
theorem g_callV (C0 : gC p s m args meth c cc nL ret own D ts A) (G : gW D W1 A s H locs) (hM : GE l D ts y bytes maxL rt L mc ms (.ref b :: As) W1 post) (hk : gKV C y bytes maxL rt n) (hl : Cond.methodLink own index y ∈ gTs)
    (he : W1[q0]? = some (b, .inr (ci, fs))) (hc : vwCl[ci]? = some (C, T, N)) (hdg : decode cc pc = .ok (.invokevirtual index, 3)) (hst : st0 = As.reverse ++ .ref b :: rest) (hn : As.length = n) (hsz : ls.size = nL) (hcat : (rest.map fun v => v.category).sum ≤ 8)
    (hR : 2 + L + 1 ≤ R.frames ∧ 8 + (maxL + 11) + (100 + 40 * L) ≤ R.locals) (hf : cells + mc ≤ R.cells ∧ slots + ms ≤ R.slots)
    (kk : ∀ (r : Option Value) (W2 : va_W) (H1 : Heap) (locs1 : List Loc), post r W2 → gW D W2 A s H1 locs1 → W p l e R s m args below meth c H1 locs1 (cells + mc) (slots + ms) Q (F0 m (pc + 3) ls (r.toList ++ rest))) : W p l e R s m args below meth c H locs cells slots Q (F0 m pc ls st0) := by
  obtain ⟨hx, hb, hml, hr, hlk, hown, hts, hK, hT, hS, hA⟩ := id C0
  obtain ⟨⟨k1, k2, k3, k4⟩, k5, k6, k7, k8⟩ := hk
  have cw : CallW R s args own C index y bytes maxL rt (gws y bytes maxL rt) (gR L mc ms) mc ms n := ⟨callB_of n hts (gws_good k4) rfl rfl rfl (hts _ (by rw [k5]; exact k3)) (hts _ hl) ⟨k6, k7, k8⟩ hR, hts _ k1, hts _ k2⟩
  exact g_go (va_runV ⟨hx, hb, hml, hown, hts⟩ (hM H.size) cw ⟨gP_blind, va_recv hK G.1 hc he, fun U hU hW => ⟨rfl, g_pre C0 G hU hW⟩⟩ rfl hn hsz hst (lv_room hcat) hdg hf) G hA kk
theorem g_callVN {host : String} (C0 : gC p s m args meth c cc nL ret own D ts A) (G : gW D W1 A s H locs) (hM : GE l D ts y bytes maxL rt L mc ms (.ref b :: As) W1 post) (hk : gKV C y bytes maxL rt n) (hl : Cond.methodLinkNest own index y host ∈ gN)
    (he : W1[q0]? = some (b, .inr (ci, fs))) (hc : vwCl[ci]? = some (C, T, N)) (hdg : decode cc pc = .ok (.invokevirtual index, 3)) (hst : st0 = As.reverse ++ .ref b :: rest) (hn : As.length = n) (hsz : ls.size = nL) (hcat : (rest.map fun v => v.category).sum ≤ 8)
    (hR : 2 + L + 1 ≤ R.frames ∧ 8 + (maxL + 11) + (100 + 40 * L) ≤ R.locals) (hf : cells + mc ≤ R.cells ∧ slots + ms ≤ R.slots)
    (kk : ∀ (r : Option Value) (W2 : va_W) (H1 : Heap) (locs1 : List Loc), post r W2 → gW D W2 A s H1 locs1 → W p l e R s m args below meth c H1 locs1 (cells + mc) (slots + ms) Q (F0 m (pc + 3) ls (r.toList ++ rest))) : W p l e R s m args below meth c H locs cells slots Q (F0 m pc ls st0) := by
  obtain ⟨hx, hb, hml, hr, hlk, hown, hts, hK, hT, hS, hA⟩ := id C0
  obtain ⟨⟨k1, k2, k3, k4⟩, k5, k6, k7, k8⟩ := hk
  have cw := va_cnB (s := s) (args := args) (R := R) (rm := gR L mc ms) (mc := mc) (ms := ms) n hts (gws_good k4) rfl rfl rfl (hT.nw hl) (hts _ (by rw [k5]; exact k3)) ⟨k6, k7, k8⟩ hR
  exact g_go (va_runVN ⟨hx, hb, hml, hown, hts⟩ (hM H.size) ⟨cw, hts _ k1, hts _ k2⟩ ⟨gP_blind, va_recv hK G.1 hc he, fun U hU hW => ⟨rfl, g_pre C0 G hU hW⟩⟩ rfl hn hsz hst (lv_room hcat) hdg hf) G hA kk
theorem g_callS (C0 : gC p s m args meth c cc nL ret own D ts A) (G : gW D W1 A s H locs) (hM : GE l D ts y bytes maxL rt L mc ms As W1 post) (hk : gKS y bytes maxL rt n) (hl : Cond.methodLink own index y ∈ gTs)
    (hdg : decode cc pc = .ok (.invokestatic index, 3)) (hst : st0 = As.reverse ++ rest) (hn : As.length = n) (hsz : ls.size = nL) (hcat : (rest.map fun v => v.category).sum ≤ 8)
    (hR : 2 + L + 1 ≤ R.frames ∧ 8 + (maxL + 11) + (100 + 40 * L) ≤ R.locals) (hf : cells + mc ≤ R.cells ∧ slots + ms ≤ R.slots)
    (kk : ∀ (r : Option Value) (W2 : va_W) (H1 : Heap) (locs1 : List Loc), post r W2 → gW D W2 A s H1 locs1 → W p l e R s m args below meth c H1 locs1 (cells + mc) (slots + ms) Q (F0 m (pc + 3) ls (r.toList ++ rest))) : W p l e R s m args below meth c H locs cells slots Q (F0 m pc ls st0) := by
  obtain ⟨hx, hb, hml, hr, hlk, hown, hts, hK, hT, hS, hA⟩ := id C0
  obtain ⟨⟨k1, k3, k4⟩, k6, k7, k8⟩ := hk
  exact g_go (va_runS ⟨hx, hb, hml, hown, hts⟩ (hM H.size) ⟨callB_of n hts (gws_good k4) rfl rfl rfl (hts _ k3) (hts _ hl) ⟨k6, k7, k8⟩ hR, hts _ k1⟩ ⟨gP_blind, fun U hU hW => ⟨rfl, g_pre C0 G hU hW⟩⟩ rfl hn hsz hst (lv_room hcat) hdg hf) G hA kk
theorem g_callSN {host : String} (C0 : gC p s m args meth c cc nL ret own D ts A) (G : gW D W1 A s H locs) (hM : GE l D ts y bytes maxL rt L mc ms As W1 post) (hk : gKS y bytes maxL rt n) (hl : Cond.methodLinkNest own index y host ∈ gN)
    (hdg : decode cc pc = .ok (.invokestatic index, 3)) (hst : st0 = As.reverse ++ rest) (hn : As.length = n) (hsz : ls.size = nL) (hcat : (rest.map fun v => v.category).sum ≤ 8)
    (hR : 2 + L + 1 ≤ R.frames ∧ 8 + (maxL + 11) + (100 + 40 * L) ≤ R.locals) (hf : cells + mc ≤ R.cells ∧ slots + ms ≤ R.slots)
    (kk : ∀ (r : Option Value) (W2 : va_W) (H1 : Heap) (locs1 : List Loc), post r W2 → gW D W2 A s H1 locs1 → W p l e R s m args below meth c H1 locs1 (cells + mc) (slots + ms) Q (F0 m (pc + 3) ls (r.toList ++ rest))) : W p l e R s m args below meth c H locs cells slots Q (F0 m pc ls st0) := by
  obtain ⟨hx, hb, hml, hr, hlk, hown, hts, hK, hT, hS, hA⟩ := id C0
  obtain ⟨⟨k1, k3, k4⟩, k6, k7, k8⟩ := hk
  have cw := va_cnB (s := s) (args := args) (R := R) (rm := gR L mc ms) (mc := mc) (ms := ms) n hts (gws_good k4) rfl rfl rfl (hT.nw hl) (hts _ k3) ⟨k6, k7, k8⟩ hR
  exact g_go (va_runSN ⟨hx, hb, hml, hown, hts⟩ (hM H.size) ⟨cw, hts _ k1, trivial⟩ ⟨gP_blind, fun U hU hW => ⟨rfl, g_pre C0 G hU hW⟩⟩ rfl hn hsz hst (lv_room hcat) hdg hf) G hA kk
theorem g_callI (C0 : gC p s m args meth c cc nL ret own D ts A) (G : gW D W1 A s H locs) (hM : GE l D ts y bytes maxL none L mc ms (.ref b :: As) W1 post) (hk : gKI y bytes maxL n) (hl : Cond.methodLink own index y ∈ gTs)
    (hdg : decode cc pc = .ok (.invokespecial index, 3)) (hst : st0 = As.reverse ++ .ref b :: rest) (hn : As.length = n) (hsz : ls.size = nL) (hcat : (rest.map fun v => v.category).sum ≤ 8)
    (hR : 2 + L + 1 ≤ R.frames ∧ 8 + (maxL + 11) + (100 + 40 * L) ≤ R.locals) (hf : cells + mc ≤ R.cells ∧ slots + ms ≤ R.slots)
    (kk : ∀ (r : Option Value) (W2 : va_W) (H1 : Heap) (locs1 : List Loc), post r W2 → gW D W2 A s H1 locs1 → W p l e R s m args below meth c H1 locs1 (cells + mc) (slots + ms) Q (F0 m (pc + 3) ls (r.toList ++ rest))) : W p l e R s m args below meth c H locs cells slots Q (F0 m pc ls st0) := by
  obtain ⟨hx, hb, hml, hr, hlk, hown, hts, hK, hT, hS, hA⟩ := id C0
  obtain ⟨⟨k1, k3, k4⟩, k5, k6, k7, k8⟩ := hk
  exact g_go (va_runI ⟨hx, hb, hml, hown, hts⟩ (hM H.size) ⟨callB_of n hts (gws_good k4) rfl rfl rfl (hts _ k3) (hts _ hl) ⟨k6, k7, k8⟩ hR, k5, hts _ k1⟩ ⟨gP_blind, fun U hU hW => ⟨rfl, g_pre C0 G hU hW⟩⟩ rfl hn hsz hst (lv_room hcat) hdg hf) G hA kk
theorem g_callIN {host : String} (C0 : gC p s m args meth c cc nL ret own D ts A) (G : gW D W1 A s H locs) (hM : GE l D ts y bytes maxL none L mc ms (.ref b :: As) W1 post) (hk : gKI y bytes maxL n) (hl : Cond.methodLinkNest own index y host ∈ gN)
    (hdg : decode cc pc = .ok (.invokespecial index, 3)) (hst : st0 = As.reverse ++ .ref b :: rest) (hn : As.length = n) (hsz : ls.size = nL) (hcat : (rest.map fun v => v.category).sum ≤ 8)
    (hR : 2 + L + 1 ≤ R.frames ∧ 8 + (maxL + 11) + (100 + 40 * L) ≤ R.locals) (hf : cells + mc ≤ R.cells ∧ slots + ms ≤ R.slots)
    (kk : ∀ (r : Option Value) (W2 : va_W) (H1 : Heap) (locs1 : List Loc), post r W2 → gW D W2 A s H1 locs1 → W p l e R s m args below meth c H1 locs1 (cells + mc) (slots + ms) Q (F0 m (pc + 3) ls (r.toList ++ rest))) : W p l e R s m args below meth c H locs cells slots Q (F0 m pc ls st0) := by
  obtain ⟨hx, hb, hml, hr, hlk, hown, hts, hK, hT, hS, hA⟩ := id C0
  obtain ⟨⟨k1, k3, k4⟩, k5, k6, k7, k8⟩ := hk
  have cw := va_cnB (s := s) (args := args) (R := R) (rm := gR L mc ms) (mc := mc) (ms := ms) n hts (gws_good k4) rfl rfl rfl (hT.nw hl) (hts _ k3) ⟨k6, k7, k8⟩ hR
  exact g_go (va_runIN ⟨hx, hb, hml, hown, hts⟩ (hM H.size) ⟨cw, k5, hts _ k1⟩ ⟨gP_blind, fun U hU hW => ⟨rfl, g_pre C0 G hU hW⟩⟩ rfl hn hsz hst (lv_room hcat) hdg hf) G hA kk
/-- a static method with handlers -/
theorem g_callH {hh : List (Nat × Nat × Nat × Nat)} (C0 : gC p s m args meth c cc nL ret own D ts A) (G : gW D W1 A s H locs) (hM : GH l D ts y bytes maxL rt hh L mc ms As W1 post) (hk : gKH y bytes maxL rt hh n) (hl : Cond.methodLink own index y ∈ gTs)
    (hdg : decode cc pc = .ok (.invokestatic index, 3)) (hst : st0 = As.reverse ++ rest) (hn : As.length = n) (hsz : ls.size = nL) (hcat : (rest.map fun v => v.category).sum ≤ 8)
    (hR : 2 + L + 1 ≤ R.frames ∧ 8 + (maxL + 11) + (100 + 40 * L) ≤ R.locals) (hf : cells + mc ≤ R.cells ∧ slots + ms ≤ R.slots)
    (kk : ∀ (r : Option Value) (W2 : va_W) (H1 : Heap) (locs1 : List Loc), post r W2 → gW D W2 A s H1 locs1 → W p l e R s m args below meth c H1 locs1 (cells + mc) (slots + ms) Q (F0 m (pc + 3) ls (r.toList ++ rest))) : W p l e R s m args below meth c H locs cells slots Q (F0 m pc ls st0) := by
  obtain ⟨hx, hb, hml, hr, hlk, hown, hts, hK, hT, hS, hA⟩ := id C0
  obtain ⟨⟨k1, k3, k4⟩, k6, k7, k8⟩ := hk
  have cw : vx_CSW R s args own index y bytes maxL rt hh (gwh y bytes maxL rt hh) (gR L mc ms) mc ms n := ⟨⟨rfl, rfl, hR.1, hR.2, pay_in hts (gwh_good k4), List.mem_cons_self⟩, hts _ k4, hts _ k3, ⟨k6, k7⟩, g_len k8, hts _ hl, hts _ k1⟩
  exact g_go (vx_runSW ⟨hx, hb, hml, hown, hts⟩ (hM H.size) cw ⟨gP_blind, fun U hU hW => ⟨rfl, g_pre C0 G hU hW⟩⟩ rfl hn hsz hst (lv_room hcat) hdg hf) G hA kk
theorem g_callXV {px : String → Prop} (C0 : gC p s m args meth c cc nL ret own D ts A) (G : gW D W1 A s H locs) (hM : GX l D ts y bytes maxL rt L mc ms (.ref b :: As) W1 post px) (hk : gKV C y bytes maxL rt n) (hl : Cond.methodLink own index y ∈ gTs)
    (he : W1[q0]? = some (b, .inr (ci, fs))) (hc : vwCl[ci]? = some (C, T, N)) (hdg : decode cc pc = .ok (.invokevirtual index, 3)) (hst : st0 = As.reverse ++ .ref b :: rest) (hn : As.length = n) (hsz : ls.size = nL) (hcat : (rest.map fun v => v.category).sum ≤ 8)
    (hR : 2 + L + 1 ≤ R.frames ∧ 8 + (maxL + 11) + (100 + 40 * L) ≤ R.locals) (hf : cells + mc ≤ R.cells ∧ slots + ms ≤ R.slots)
    (kx : ∀ (E : String) (ce : Cell) (q9 : Addr) (H1 : Heap) (locs1 : List Loc), px E → gW D W1 A s H1 locs1 → H1[q9]? = some ce → ce.vm = .none → s.vm.findClass E = some ce.cls → vx_W p l e R s m args below meth c H1 locs1 (cells + mc) (slots + ms) Q (F0 m pc ls rest) q9)
    (kk : ∀ (r : Option Value) (W2 : va_W) (H1 : Heap) (locs1 : List Loc), post r W2 → gW D W2 A s H1 locs1 → W p l e R s m args below meth c H1 locs1 (cells + mc) (slots + ms) Q (F0 m (pc + 3) ls (r.toList ++ rest))) : W p l e R s m args below meth c H locs cells slots Q (F0 m pc ls st0) := by
  obtain ⟨hx, hb, hml, hr, hlk, hown, hts, hK, hT, hS, hA⟩ := id C0
  obtain ⟨⟨k1, k2, k3, k4⟩, k5, k6, k7, k8⟩ := hk
  have cw : CallW R s args own C index y bytes maxL rt (gws y bytes maxL rt) (gR L mc ms) mc ms n := ⟨callB_of n hts (gws_good k4) rfl rfl rfl (hts _ (by rw [k5]; exact k3)) (hts _ hl) ⟨k6, k7, k8⟩ hR, hts _ k1, hts _ k2⟩
  exact g_goX (vx_runV ⟨hx, hb, hml, hown, hts⟩ (hM H.size) cw ⟨gP_blind, va_recv hK G.1 hc he, fun U hU hW => ⟨rfl, g_pre C0 G hU hW⟩⟩ rfl hn hsz hst (lv_room hcat) hdg hf) G hA kx kk
theorem g_callXS {px : String → Prop} (C0 : gC p s m args meth c cc nL ret own D ts A) (G : gW D W1 A s H locs) (hM : GX l D ts y bytes maxL rt L mc ms As W1 post px) (hk : gKS y bytes maxL rt n) (hl : Cond.methodLink own index y ∈ gTs)
    (hdg : decode cc pc = .ok (.invokestatic index, 3)) (hst : st0 = As.reverse ++ rest) (hn : As.length = n) (hsz : ls.size = nL) (hcat : (rest.map fun v => v.category).sum ≤ 8)
    (hR : 2 + L + 1 ≤ R.frames ∧ 8 + (maxL + 11) + (100 + 40 * L) ≤ R.locals) (hf : cells + mc ≤ R.cells ∧ slots + ms ≤ R.slots)
    (kx : ∀ (E : String) (ce : Cell) (q9 : Addr) (H1 : Heap) (locs1 : List Loc), px E → gW D W1 A s H1 locs1 → H1[q9]? = some ce → ce.vm = .none → s.vm.findClass E = some ce.cls → vx_W p l e R s m args below meth c H1 locs1 (cells + mc) (slots + ms) Q (F0 m pc ls rest) q9)
    (kk : ∀ (r : Option Value) (W2 : va_W) (H1 : Heap) (locs1 : List Loc), post r W2 → gW D W2 A s H1 locs1 → W p l e R s m args below meth c H1 locs1 (cells + mc) (slots + ms) Q (F0 m (pc + 3) ls (r.toList ++ rest))) : W p l e R s m args below meth c H locs cells slots Q (F0 m pc ls st0) := by
  obtain ⟨hx, hb, hml, hr, hlk, hown, hts, hK, hT, hS, hA⟩ := id C0
  obtain ⟨⟨k1, k3, k4⟩, k6, k7, k8⟩ := hk
  exact g_goX (vx_runS ⟨hx, hb, hml, hown, hts⟩ (hM H.size) ⟨callB_of n hts (gws_good k4) rfl rfl rfl (hts _ k3) (hts _ hl) ⟨k6, k7, k8⟩ hR, hts _ k1⟩ ⟨gP_blind, fun U hU hW => ⟨rfl, g_pre C0 G hU hW⟩⟩ rfl hn hsz hst (lv_room hcat) hdg hf) G hA kx kk
variable {a : Nat} {ref : String}
theorem g_get (C0 : gC p s m args meth c cc nL ret own D ts A) (G : gW D W1 A s H locs) (hin : ∀ w ∈ u_ws C T N, w ∈ gTs) (he : W1[q0]? = some (a, .inr (ci, fs))) (hc : vwCl[ci]? = some (C, T, N)) (k : Nat) (hk : k < N) (hlink : Cond.fieldLink own index ref (T k).2.1 (T k).2.2.1 ∈ gTs)
    (hsame : ∀ x, s.fieldFound? (T k).1 (T k).2.1 (T k).2.2.1 = some x → s.fieldFound? ref (T k).2.1 (T k).2.2.1 = some x) {v : Value} (hv : fs[k]? = some v) (hdg : decode cc pc = .ok (.getfield index, 3))
    (kk : W p l e R s m args below meth c H locs cells slots Q (F0 m (pc + 3) ls (v :: rest))) : W p l e R s m args below meth c H locs cells slots Q (F0 m pc ls (.ref a :: rest)) := by
  obtain ⟨hx, hb, hml, hr, hlk, hown, hts, hK, hT, hS, hA⟩ := id C0
  exact va_get hx hb hts hin hown hK G.1 q0 he hc k hk (hts _ hlink) hsame hv hdg kk
theorem g_getN {host : String} (C0 : gC p s m args meth c cc nL ret own D ts A) (G : gW D W1 A s H locs) (hin : ∀ w ∈ u_ws C T N, w ∈ gTs) (he : W1[q0]? = some (a, .inr (ci, fs))) (hc : vwCl[ci]? = some (C, T, N)) (k : Nat) (hk : k < N) (hlink : Cond.fieldLinkNest own index ref (T k).2.1 (T k).2.2.1 host ∈ gN)
    (hsame : ∀ x, s.fieldFound? (T k).1 (T k).2.1 (T k).2.2.1 = some x → s.fieldFound? ref (T k).2.1 (T k).2.2.1 = some x) {v : Value} (hv : fs[k]? = some v) (hdg : decode cc pc = .ok (.getfield index, 3))
    (kk : W p l e R s m args below meth c H locs cells slots Q (F0 m (pc + 3) ls (v :: rest))) : W p l e R s m args below meth c H locs cells slots Q (F0 m pc ls (.ref a :: rest)) := by
  obtain ⟨hx, hb, hml, hr, hlk, hown, hts, hK, hT, hS, hA⟩ := id C0
  exact va_getN hx hb hts hin hown hK G.1 q0 he hc k hk (hT.word hlink) hsame hv hdg kk
theorem g_put {ty : Nat → FieldType} (C0 : gC p s m args meth c cc nL ret own D ts A) (G : gW D W1 A s H locs) (hF : gFT T N ty) (hin : ∀ w ∈ u_ws C T N, w ∈ gTs) (he : W1[q0]? = some (a, .inr (ci, fs))) (hc : vwCl[ci]? = some (C, T, N)) (k : Nat) (hk : k < N) (hlink : Cond.fieldLink own index ref (T k).2.1 (T k).2.2.1 ∈ gTs)
    (hsame : ∀ x, s.fieldFound? (T k).1 (T k).2.1 (T k).2.2.1 = some x → s.fieldFound? ref (T k).2.1 (T k).2.2.1 = some x) (hfin : (T k).2.2.2 = false) {v : Value} (hn : narrow (ty k) v = v) (hfit : fits (ty k) v = true) (hl : k < fs.length) (hw : W1.set q0 (a, .inr (ci, fs.set k v)) = W2) (hdg : decode cc pc = .ok (.putfield index, 3))
    (kk : ∀ (H1 : Heap) (locs1 : List Loc), gW D W2 A s H1 locs1 → W p l e R s m args below meth c H1 locs1 cells slots Q (F0 m (pc + 3) ls rest)) : W p l e R s m args below meth c H locs cells slots Q (F0 m pc ls (v :: .ref a :: rest)) := by
  obtain ⟨hx, hb, hml, hr, hlk, hown, hts, hK, hT, hS, hA⟩ := id C0
  subst hw
  exact va_put hx hb hts hin ty hF.1 hF.2 hown hK G.1 G.2.1 G.2.2 q0 he hc k hk (hts _ hlink) hsame hfin (hF.1 k hk) hn hfit hl hdg (fun H1 locs1 h1 h2 h3 => kk H1 locs1 ⟨h1, h2, h3⟩)
theorem g_putN {ty : Nat → FieldType} {host : String} (C0 : gC p s m args meth c cc nL ret own D ts A) (G : gW D W1 A s H locs) (hF : gFT T N ty) (hin : ∀ w ∈ u_ws C T N, w ∈ gTs) (he : W1[q0]? = some (a, .inr (ci, fs))) (hc : vwCl[ci]? = some (C, T, N)) (k : Nat) (hk : k < N) (hlink : Cond.fieldLinkNest own index ref (T k).2.1 (T k).2.2.1 host ∈ gN)
    (hsame : ∀ x, s.fieldFound? (T k).1 (T k).2.1 (T k).2.2.1 = some x → s.fieldFound? ref (T k).2.1 (T k).2.2.1 = some x) (hfin : (T k).2.2.2 = false) {v : Value} (hn : narrow (ty k) v = v) (hfit : fits (ty k) v = true) (hl : k < fs.length) (hw : W1.set q0 (a, .inr (ci, fs.set k v)) = W2) (hdg : decode cc pc = .ok (.putfield index, 3))
    (kk : ∀ (H1 : Heap) (locs1 : List Loc), gW D W2 A s H1 locs1 → W p l e R s m args below meth c H1 locs1 cells slots Q (F0 m (pc + 3) ls rest)) : W p l e R s m args below meth c H locs cells slots Q (F0 m pc ls (v :: .ref a :: rest)) := by
  obtain ⟨hx, hb, hml, hr, hlk, hown, hts, hK, hT, hS, hA⟩ := id C0
  subst hw
  exact va_putN hx hb hts hin ty hF.1 hF.2 hown hK G.1 G.2.1 G.2.2 q0 he hc k hk (hT.word hlink) hsame hfin (hF.1 k hk) hn hfit hl hdg (fun H1 locs1 h1 h2 h3 => kk H1 locs1 ⟨h1, h2, h3⟩)
variable {cA : ClassId}
theorem g_iald {f : Nat → Int32} {i : Int32} (C0 : gC p s m args meth c cc nL ret own D ts A) (G : gW D W1 A s H locs) (ha : W1[q0]? = some (a, .inl (cA, n, .inl f))) (t0 : Nat) (ht : ts[t0]? = some (cA, .int)) (hin : vp_in i n) (hdg : decode cc pc = .ok (.iaload, 1))
    (kk : W p l e R s m args below meth c H locs cells slots Q (F0 m (pc + 1) ls (.int (f i.toNatClampNeg) :: rest))) : W p l e R s m args below meth c H locs cells slots Q (F0 m pc ls (.int i :: .ref a :: rest)) := by
  obtain ⟨hx, hb, hml, hr, hlk, hown, hts, hK, hT, hS, hA⟩ := id C0
  exact va_iald hx hb hK G.1 q0 t0 ha ht hin hdg kk
theorem g_iast {f : Nat → Int32} {i x : Int32} (C0 : gC p s m args meth c cc nL ret own D ts A) (G : gW D W1 A s H locs) (ha : W1[q0]? = some (a, .inl (cA, n, .inl f))) (t0 : Nat) (ht : ts[t0]? = some (cA, .int)) (hin : vp_in i n) (hw : W1.set q0 (a, .inl (cA, n, .inl (upd f i.toNatClampNeg x))) = W2) (hdg : decode cc pc = .ok (.iastore, 1))
    (kk : ∀ (H1 : Heap) (locs1 : List Loc), gW D W2 A s H1 locs1 → W p l e R s m args below meth c H1 locs1 cells slots Q (F0 m (pc + 1) ls rest)) : W p l e R s m args below meth c H locs cells slots Q (F0 m pc ls (.int x :: .int i :: .ref a :: rest)) := by
  obtain ⟨hx, hb, hml, hr, hlk, hown, hts, hK, hT, hS, hA⟩ := id C0
  subst hw
  exact va_iast hx hb hK G.1 G.2.1 G.2.2 q0 t0 ha ht hin hdg (fun H1 locs1 h1 h2 h3 => kk H1 locs1 ⟨h1, h2, h3⟩)
theorem g_aldq {E : String} {f : Nat → Option Nat} {i : Int32} (C0 : gC p s m args meth c cc nL ret own D ts A) (G : gW D W1 A s H locs) (ha : W1[q0]? = some (a, .inl (cA, n, .inr (.inr (.inr (.inr f)))))) (t0 : Nat) (ht : ts[t0]? = some (cA, .object E)) (hin : vp_in i n) (hdg : decode cc pc = .ok (.aaload, 1))
    (kk : W p l e R s m args below meth c H locs cells slots Q (F0 m (pc + 1) ls (va_rf (f i.toNatClampNeg) :: rest))) : W p l e R s m args below meth c H locs cells slots Q (F0 m pc ls (.int i :: .ref a :: rest)) := by
  obtain ⟨hx, hb, hml, hr, hlk, hown, hts, hK, hT, hS, hA⟩ := id C0
  exact va_aldq hx hb hK G.1 q0 t0 ha ht hin hdg kk
theorem g_alen {x : vp_A} {ty : FieldType} {v : Int32} (C0 : gC p s m args meth c cc nL ret own D ts A) (G : gW D W1 A s H locs) (ha : W1[q0]? = some (a, .inl (cA, x))) (t0 : Nat) (ht : ts[t0]? = some (cA, ty)) (hv : Int32.ofNat x.1 = v) (hdg : decode cc pc = .ok (.arraylength, 1))
    (kk : W p l e R s m args below meth c H locs cells slots Q (F0 m (pc + 1) ls (.int v :: rest))) : W p l e R s m args below meth c H locs cells slots Q (F0 m pc ls (.ref a :: rest)) := by
  obtain ⟨hx, hb, hml, hr, hlk, hown, hts, hK, hT, hS, hA⟩ := id C0
  exact va_alen hx hb hK G.1 q0 t0 ha ht hv hdg kk
theorem g_lald {f : Nat → Int64} {i : Int32} (C0 : gC p s m args meth c cc nL ret own D ts A) (G : gW D W1 A s H locs) (ha : W1[q0]? = some (a, .inl (cA, n, .inr (.inl f)))) (t0 : Nat) (ht : ts[t0]? = some (cA, .long)) (hin : vp_in i n) (hdg : decode cc pc = .ok (.laload, 1))
    (kk : W p l e R s m args below meth c H locs cells slots Q (F0 m (pc + 1) ls (.long (f i.toNatClampNeg) :: rest))) : W p l e R s m args below meth c H locs cells slots Q (F0 m pc ls (.int i :: .ref a :: rest)) := by
  obtain ⟨hx, hb, hml, hr, hlk, hown, hts, hK, hT, hS, hA⟩ := id C0
  exact va_lald hx hb hK G.1 q0 t0 ha ht hin hdg kk
theorem g_last {f : Nat → Int64} {i : Int32} {x : Int64} (C0 : gC p s m args meth c cc nL ret own D ts A) (G : gW D W1 A s H locs) (ha : W1[q0]? = some (a, .inl (cA, n, .inr (.inl f)))) (t0 : Nat) (ht : ts[t0]? = some (cA, .long)) (hin : vp_in i n) (hw : W1.set q0 (a, .inl (cA, n, .inr (.inl (vp_updL f i.toNatClampNeg x)))) = W2) (hdg : decode cc pc = .ok (.lastore, 1))
    (kk : ∀ (H1 : Heap) (locs1 : List Loc), gW D W2 A s H1 locs1 → W p l e R s m args below meth c H1 locs1 cells slots Q (F0 m (pc + 1) ls rest)) : W p l e R s m args below meth c H locs cells slots Q (F0 m pc ls (.long x :: .int i :: .ref a :: rest)) := by
  obtain ⟨hx, hb, hml, hr, hlk, hown, hts, hK, hT, hS, hA⟩ := id C0
  subst hw
  exact va_last hx hb hK G.1 G.2.1 G.2.2 q0 t0 ha ht hin hdg (fun H1 locs1 h1 h2 h3 => kk H1 locs1 ⟨h1, h2, h3⟩)
-- ends
variable {W0 : va_W}
theorem g_end (G : gW D W2 A s H locs) {r : Option Value} (hp : post r W2) : ∀ t : State, t.heap = H → s.WarmedH t.vm → gQ D post A args s (.returned r) t := fun t ht _ => ⟨⟨r, W2, rfl, hp, by rw [ht]; exact G.1, G.2.1⟩, G.2.2.F ht⟩
theorem g_iret {v : Int32} (C0 : gC p s m args meth c cc nL (some .int) own D ts A) (G : gW D W2 A s H locs) (hp : post (some (.int v)) W2) (hdg : decode cc pc = .ok (.ireturn, 1)) : W p l e R s m args below meth c H locs cells slots (MQ below (gQ D post A) args s cells slots A) (F0 m pc ls [.int v]) :=
  W.iret C0.1 C0.2.1 C0.2.2.2.1 (g_end G hp) G.2.2.2.2 hdg C0.2.2.2.2.1
theorem g_zret {v : Int32} {ty : FieldType} (C0 : gC p s m args meth c cc nL (some ty) own D ts A) (G : gW D W2 A s H locs) (hz : narrow ty (.int v) = .int v) (hp : post (some (.int v)) W2) (hdg : decode cc pc = .ok (.ireturn, 1)) : W p l e R s m args below meth c H locs cells slots (MQ below (gQ D post A) args s cells slots A) (F0 m pc ls [.int v]) :=
  W.zret C0.1 C0.2.1 C0.2.2.2.1 hz (g_end G hp) G.2.2.2.2 hdg C0.2.2.2.2.1
theorem g_lret {v : Int64} (C0 : gC p s m args meth c cc nL (some .long) own D ts A) (G : gW D W2 A s H locs) (hp : post (some (.long v)) W2) (hdg : decode cc pc = .ok (.lreturn, 1)) : W p l e R s m args below meth c H locs cells slots (MQ below (gQ D post A) args s cells slots A) (F0 m pc ls [.long v]) :=
  W.lret C0.1 C0.2.1 C0.2.2.2.1 (g_end G hp) G.2.2.2.2 hdg C0.2.2.2.2.1
theorem g_dret {v : UInt64} (C0 : gC p s m args meth c cc nL (some .double) own D ts A) (G : gW D W2 A s H locs) (hp : post (some (.double v)) W2) (hdg : decode cc pc = .ok (.dreturn, 1)) : W p l e R s m args below meth c H locs cells slots (MQ below (gQ D post A) args s cells slots A) (F0 m pc ls [.double v]) :=
  W.dret C0.1 C0.2.1 C0.2.2.2.1 (g_end G hp) G.2.2.2.2 hdg C0.2.2.2.2.1
theorem g_vret (C0 : gC p s m args meth c cc nL none own D ts A) (G : gW D W2 A s H locs) (hp : post none W2) (hdg : decode cc pc = .ok (.return_, 1)) : W p l e R s m args below meth c H locs cells slots (MQ below (gQ D post A) args s cells slots A) (F0 m pc ls []) :=
  W.vret C0.1 C0.2.1 C0.2.2.2.1 (g_end G hp) G.2.2.2.2 hdg C0.2.2.2.2.1
theorem g_aret {v : Nat} {rt : FieldType} (C0 : gC p s m args meth c cc nL (some rt) own D ts A) (G : gW D W2 A s H locs) (hrt : (∃ n, rt = .object n) ∨ ∃ t, rt = .array t) (hp : post (some (.ref v)) W2) (hdg : decode cc pc = .ok (.areturn, 1)) : W p l e R s m args below meth c H locs cells slots (MQ below (gQ D post A) args s cells slots A) (F0 m pc ls [.ref v]) :=
  W.aret C0.1 C0.2.1 C0.2.2.2.1 hrt (Or.inr ⟨v, rfl⟩) (g_end G hp) G.2.2.2.2 hdg C0.2.2.2.2.1
/-- a thrown one goes on to the caller -/
theorem g_out {px : String → Prop} {E : String} {ce : Cell} {q : Nat} (C0 : gC p s m args meth c cc nL ret own D ts A) (G : gW D W0 A s H locs) (hno : ∀ x ∈ c.exceptionTable.toList, False) (hp : px E) (hce : H[q]? = some ce) (hcv : ce.vm = .none) (hcl : s.vm.findClass E = some ce.cls) {mc ms : Nat} (h1 : cells ≤ mc) (h2 : slots ≤ ms) :
    vx_W p l e R s m args below meth c H locs cells slots (vx_MQ below (gQ D post A) (gX D px W0 A) args s mc ms A) (F0 m pc ls rest) q :=
  vx_out (fun x hx => absurd (hno x hx) id) C0.2.2.2.2.1 hce hcv hcl (fun t ht _ => ⟨hp, by rw [ht]; exact G.1, G.2.1, G.2.2.F ht⟩) G.2.2.2.2 h1 h2
end GB
section GI
variable {l : Launch} {D : va_G} {ts : gY} {y : MethodName} {cc : ByteArray} {maxL : Nat} {ret : Option FieldType} {L mc ms : Nat} {av : List Value} {W1 : va_W} {post : Option Value → va_W → Prop} {px : String → Prop} {lv : List (Nat × Value)}
theorem g_C {p : Program} {e : Env} {s s₁ : State} {m : MethodId} {args : Array Value} {below : List Frame} {meth : Method} {c : Code} {ws : List Cond} {rm : Room} (B : BodyLoose p l y (headSpec ws rm) cc maxL ret e s m args below meth c s₁) (hml : c.maxLocals = maxL) (hws : ∀ w ∈ gTs, w ∈ ws) {sz : Nat} (hv : gP D ts W1 sz s) : gC p s m args meth c cc maxL ret y.cls D ts (va_A W1 sz) := by
  have hts := atoms_spec (ws := ws) B.pre
  obtain ⟨h0, h1, h2, h3, h4, h5⟩ := hv
  exact ⟨B.exec, B.bytes, hml, B.returns, B.notSynchronized, findClass_of_methodNamed B.named, fun w hw => hts w (hws w hw), h2, h4, h5, fun q hq => Or.inr (by rw [← h0]; exact hq)⟩
theorem g_intro (hy : plainName y.cls = true) (hlv : lv_args 0 av = lv) (hlen : (lg_sl av).length ≤ maxL)
    (body : ∀ (p : Program) (e : Env) (s : State) (m : MethodId) (below : List Frame) (meth : Method) (c : Code), gC p s m av.toArray meth c cc maxL ret y.cls D ts (va_A W1 s.heap.size) → gW D W1 (va_A W1 s.heap.size) s s.heap [] → ∀ ls : Array Slot, lv_has ls maxL lv →
      W p l e (gR L mc ms) s m av.toArray below meth c s.heap [] 0 0 (MQ below (gQ D post (va_A W1 s.heap.size)) av.toArray s mc ms (va_A W1 s.heap.size)) (F0 m 0 ls [])) : GE l D ts y cc maxL ret L mc ms av W1 post := by
  intro sz
  refine Met.ofW (cc := cc) (maxL := maxL) (ret := ret) hy rfl ?_
  intro p e s m args below meth c s₁ B hml hv
  obtain ⟨rfl, hv⟩ := hv
  have C0 := g_C B hml (fun w hw => List.mem_cons_of_mem _ hw) hv
  obtain ⟨rfl, h1, h2, h3, h4, h5⟩ := hv
  rw [lg_entry_eq]
  have hl := lv_entry av hlen
  rw [hlv] at hl
  exact body p e s m below meth c C0 ⟨h1, h3.self, va_S.rf⟩ _ hl
theorem g_introX (hy : plainName y.cls = true) (hlv : lv_args 0 av = lv) (hlen : (lg_sl av).length ≤ maxL)
    (body : ∀ (p : Program) (e : Env) (s : State) (m : MethodId) (below : List Frame) (meth : Method) (c : Code), gC p s m av.toArray meth c cc maxL ret y.cls D ts (va_A W1 s.heap.size) → (∀ x ∈ c.exceptionTable.toList, False) → gW D W1 (va_A W1 s.heap.size) s s.heap [] → ∀ ls : Array Slot, lv_has ls maxL lv →
      W p l e (gR L mc ms) s m av.toArray below meth c s.heap [] 0 0 (vx_MQ below (gQ D post (va_A W1 s.heap.size)) (gX D px W1 (va_A W1 s.heap.size)) av.toArray s mc ms (va_A W1 s.heap.size)) (F0 m 0 ls [])) : GX l D ts y cc maxL ret L mc ms av W1 post px := by
  intro sz
  refine vx_ofW (cc := cc) (maxL := maxL) (ret := ret) hy rfl ?_
  intro p e s m args below meth c s₁ B hml hno hv
  obtain ⟨rfl, hv⟩ := hv
  have C0 := g_C B hml (fun w hw => List.mem_cons_of_mem _ hw) hv
  obtain ⟨rfl, h1, h2, h3, h4, h5⟩ := hv
  rw [lg_entry_eq]
  have hl := lv_entry av hlen
  rw [hlv] at hl
  exact body p e s m below meth c C0 hno ⟨h1, h3.self, va_S.rf⟩ _ hl
end GI
