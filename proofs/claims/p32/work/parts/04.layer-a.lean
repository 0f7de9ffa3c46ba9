/-! THE LAYER: one form of contract for every method; the words are the law's own list for all of them -/
/-- words of the tables alone: warmth keeps them -/
def gWk : Cond → Bool
  | .methodLinkNest _ _ _ _ => true
  | .fieldLinkNest _ _ _ _ _ _ => true
  | .castable _ _ => true
  | .declares _ => true
  | .privateMethod _ => true
  | _ => false
theorem pv_warm {y : MethodName} {s U : State} (hW : s.WarmedH U.vm) (h : va_Nw (.privateMethod y) s) : va_Nw (.privateMethod y) U := va_tabs rfl (rfl : (s.setVm U.vm).vm = U.vm) (by rw [Cond.privateMethod_setVm hW.alike]; exact h)
theorem gWk_warm {w : Cond} (hk : gWk w = true) {s U : State} (hW : s.WarmedH U.vm) (h : va_Nw w s) : va_Nw w U := by
  cases w <;> first | exact pv_warm hW h | exact va_Nw.warmM hW h | exact va_Nw.warmF hW h | exact va_Nw.warmC hW h | exact va_Nw.warmD hW h | cases hk
theorem gWk_tab {w : Cond} (hk : gWk w = true) : w.onTables = true := by
  cases w <;> first | rfl | cases hk
theorem gN_wk : gN.all gWk = true := by decide +kernel
def gT (U : State) : Prop := (∀ w ∈ gN, va_Nw w U) ∧ (∀ q ∈ gNc, va_Nc q.1 q.2 U) ∧ (∀ q ∈ gSR, ∃ a : Nat, vk_R RX4 q.1 q.2 a U)
theorem gT.warm {s U : State} (hW : s.WarmedH U.vm) (h : gT s) : gT U := by
  refine ⟨fun w hw => gWk_warm (List.all_eq_true.mp gN_wk w hw) hW (h.1 w hw), fun q hq => va_Nc.moved hW.alike (h.2.1 q hq), fun q hq => ?_⟩
  obtain ⟨a, ha⟩ := h.2.2 q hq
  exact ⟨a, vk_R.warm hW ha⟩
theorem gT.nw {U : State} (h : gT U) {w : Cond} (hw : w ∈ gN) : va_Nw w U := h.1 w hw
theorem gT.word {U : State} (h : gT U) {args : Array Value} {w : Cond} (hw : w ∈ gN) : w.before args U = true := va_Nw.use (gWk_tab (List.all_eq_true.mp gN_wk w hw)) (h.1 w hw)
/-- the statics that are read, or that a throw speaks of -/
def gS (A : Nat → Prop) (U : State) (H : Heap) : Prop := vx_Zq Bundle.tN "UNASSIGNED_STACK" Bundle.steD A U H ∧ vx_Zq Bundle.tN "SUPPRESSED_SENTINEL" Bundle.listD A U H ∧ va_Z "java/lang/String" "COMPACT_STRINGS" "Z" (.int 1) A U H
theorem gS.moved {A : Nat → Prop} {u U : State} {H : Heap} (hvm : u.vm.Alike U.vm) (h : gS A u H) : gS A U H := ⟨h.1.moved hvm, h.2.1.moved hvm, h.2.2.moved hvm⟩
theorem gS.kept {A : Nat → Prop} {U : State} {H H1 : Heap} (h : gS A U H) (hq : ∀ a : Nat, a < H.size → ¬ A a → H1[a]? = H[a]?) : gS A U H1 := ⟨h.1.kept hq, h.2.1.kept hq, h.2.2.kept hq⟩
theorem gS.narrow {A B : Nat → Prop} {U : State} {H : Heap} (h : gS A U H) (hAB : ∀ q, B q → A q) : gS B U H := ⟨h.1.narrow hAB, h.2.1.narrow hAB, h.2.2.narrow hAB⟩
abbrev gY : Type := List (ClassId × FieldType)
def gP (D : va_G) (ts : gY) (W1 : va_W) (sz : Nat) (U : State) : Prop :=
  U.heap.size = sz ∧ va_P D vwCl W1 U.heap ∧ va_K D vwCl ts U ∧ va_D (fun _ => True) W1 ∧ gT U ∧ gS (va_A W1 sz) U U.heap
def gQ (D : va_G) (post : Option Value → va_W → Prop) (A : Nat → Prop) : Array Value → State → Outcome → State → Prop := fun _ st oc t =>
  (∃ (r : Option Value) (W2 : va_W), oc = .returned r ∧ post r W2 ∧ va_P D vwCl W2 t.heap ∧ va_D A W2) ∧ va_F A st t
def gX (D : va_G) (px : String → Prop) (W1 : va_W) (A : Nat → Prop) : String → State → State → Prop := fun E st t => px E ∧ va_P D vwCl W1 t.heap ∧ va_D A W1 ∧ va_F A st t
abbrev gR (L mc ms : Nat) : Room := { frames := 2 + L, cells := mc, slots := ms, locals := 100 + 40 * L }
def gws (y : MethodName) (cc : ByteArray) (maxL : Nat) (ret : Option FieldType) : List Cond := Cond.code y cc maxL ret :: gTs
def gwh (y : MethodName) (cc : ByteArray) (maxL : Nat) (ret : Option FieldType) (hh : List (Nat × Nat × Nat × Nat)) : List Cond := Cond.codeWith y cc maxL ret hh :: gTs
/-- a contract: it returns; what and with which world, says post -/
def GE (l : Launch) (D : va_G) (ts : gY) (y : MethodName) (cc : ByteArray) (maxL : Nat) (ret : Option FieldType) (L mc ms : Nat) (av : List Value) (W1 : va_W) (post : Option Value → va_W → Prop) : Prop :=
  ∀ sz : Nat, Met l y (gws y cc maxL ret) (gR L mc ms) (va_Pc av (gP D ts W1 sz)) (gQ D post (va_A W1 sz)) mc ms (va_A W1 sz)
/-- the same of a method with handlers -/
def GH (l : Launch) (D : va_G) (ts : gY) (y : MethodName) (cc : ByteArray) (maxL : Nat) (ret : Option FieldType) (hh : List (Nat × Nat × Nat × Nat)) (L mc ms : Nat) (av : List Value) (W1 : va_W) (post : Option Value → va_W → Prop) : Prop :=
  ∀ sz : Nat, Met l y (gwh y cc maxL ret hh) (gR L mc ms) (va_Pc av (gP D ts W1 sz)) (gQ D post (va_A W1 sz)) mc ms (va_A W1 sz)
/-- it returns, or throws (px: what), its world as it was -/
def GX (l : Launch) (D : va_G) (ts : gY) (y : MethodName) (cc : ByteArray) (maxL : Nat) (ret : Option FieldType) (L mc ms : Nat) (av : List Value) (W1 : va_W) (post : Option Value → va_W → Prop) (px : String → Prop) : Prop :=
  ∀ sz : Nat, vx_Met l y (gws y cc maxL ret) (gR L mc ms) (va_Pc av (gP D ts W1 sz)) (gQ D post (va_A W1 sz)) (gX D px W1 (va_A W1 sz)) mc ms (va_A W1 sz)
/-- a plain answer and a plain new world -/
abbrev gF (r : Option Value) (W2 : va_W) : Option Value → va_W → Prop := fun r' W' => r' = r ∧ W' = W2
theorem GE.weak {l : Launch} {D : va_G} {ts : gY} {y : MethodName} {cc : ByteArray} {maxL : Nat} {ret : Option FieldType} {L mc ms : Nat} {av : List Value} {W1 : va_W} {post post' : Option Value → va_W → Prop} (h : GE l D ts y cc maxL ret L mc ms av W1 post) (hw : ∀ r W2, post r W2 → post' r W2) : GE l D ts y cc maxL ret L mc ms av W1 post' := by
  intro sz p e ha hc hk s m args below hf happ hP hX
  obtain ⟨t, o, a1, a2, a3, ⟨⟨⟨r, W2, b1, b2, b3⟩, b4⟩, b5⟩⟩ := h sz p e ha hc hk s m args below hf happ hP hX
  exact ⟨t, o, a1, a2, a3, ⟨⟨⟨r, W2, b1, hw r W2 b2, b3⟩, b4⟩, b5⟩⟩
/-- what stands fixed while a body runs -/
def gC (p : Program) (s : State) (m : MethodId) (args : Array Value) (meth : Method) (c : Code) (cc : ByteArray) (nL : Nat) (ret : Option FieldType) (own : String) (D : va_G) (ts : gY) (A : Nat → Prop) : Prop :=
  p.tables.exec = Jvm.exec ∧ c.code = cc ∧ c.maxLocals = nL ∧ meth.sig.returnType = ret ∧ meth.locks = false ∧ s.vm.findClass own = some m.cls ∧ (∀ w ∈ gTs, w.before args s = true) ∧ va_K D vwCl ts s ∧ gT s ∧ gS A s s.heap ∧ ∀ q : Nat, s.heap.size ≤ q → A q
/-- the world, here -/
def gW (D : va_G) (W1 : va_W) (A : Nat → Prop) (s : State) (H : Heap) (locs : List Loc) : Prop := va_P D vwCl W1 H ∧ va_D A W1 ∧ va_S A s.heap H locs
theorem gP_blind {D : va_G} {ts : gY} {W1 : va_W} {sz : Nat} {av : List Value} : FrameBlind (va_Pc av (gP D ts W1 sz)) := by
  intro a U g mk h
  obtain ⟨h0, h1, h2, h3, h4, h5, h6⟩ := h
  exact ⟨h0, h1, h2, va_K.moved (u := U) (U := U.calling g mk a) (Vm.Alike.refl U.vm) h3, h4, gT.warm (s := U) (U := U.calling g mk a) (State.WarmedH.refl U) h5, gS.moved (u := U) (U := U.calling g mk a) (Vm.Alike.refl U.vm) h6⟩
section GL
variable {p : Program} {l : Launch} {e : Env} {R : Room} {s : State} {m : MethodId} {args : Array Value} {below : List Frame} {meth : Method} {c : Code} {H : Heap} {locs : List Loc} {cells slots : Nat} {Q : State → Prop}
variable {cc : ByteArray} {nL : Nat} {ret : Option FieldType} {own : String} {D : va_G} {ts : gY} {A : Nat → Prop} {W1 : va_W} {pc : Nat} {ls : Array Slot} {rest st0 : List Value} {a : Array Value}
theorem g_free (G : gW D W1 A s H locs) (hA : ∀ q : Nat, s.heap.size ≤ q → A q) : ∀ q, va_A W1 H.size q → A q := by
  intro q h
  rcases h with ⟨k, e, h⟩ | h
  · exact G.2.1.2 k _ h
  · exact hA q (Nat.le_trans G.2.2.1 h)
theorem g_pre (C0 : gC p s m args meth c cc nL ret own D ts A) (G : gW D W1 A s H locs) {U : State} (hU : U.heap = H) (hW : s.WarmedH U.vm) : gP D ts W1 H.size U := by
  obtain ⟨-, -, -, -, -, -, -, hK, hT, hS, hA⟩ := C0
  have h1 : gS A s H := hS.kept G.2.2.2.1
  refine ⟨by rw [hU], by rw [hU]; exact G.1, va_K.moved hW.alike hK, G.2.1.weaken (fun _ _ _ _ => trivial), gT.warm hW hT, ?_⟩
  rw [hU]
  exact (h1.moved hW.alike).narrow (g_free G hA)
theorem g_keep {st₀ t T' : State} {L : List Loc} {W2 : va_W} (G : gW D W1 A s H locs) (hA : ∀ q : Nat, s.heap.size ≤ q → A q) (h0 : st₀.heap = H) (e1 : T'.heap = t.heap) (hL : ∀ q ∈ L, va_A W1 H.size q.base) (hF : va_F (va_A W1 H.size) st₀ t) (hP : va_P D vwCl W2 t.heap) (hD : va_D (va_A W1 H.size) W2) : gW D W2 A s T'.heap (locs ++ L) := by
  obtain ⟨k1, k2, k3⟩ := vx_keep h0 e1 G.2.2 (fun q _ h => g_free G hA q h) (fun q h => g_free G hA q h) hL hF
  exact ⟨by rw [e1]; exact hP, hD.weaken (fun _ _ _ h => g_free G hA _ h), k3⟩
theorem g_go {mc ms : Nat} {post : Option Value → va_W → Prop} (hr : va_Run p l e R s m args below meth c H locs cells slots mc ms (F0 m pc ls st0) rest (gQ D post (va_A W1 H.size) a) (va_A W1 H.size)) (G : gW D W1 A s H locs) (hA : ∀ q : Nat, s.heap.size ≤ q → A q)
    (kk : ∀ (r : Option Value) (W2 : va_W) (H1 : Heap) (locs1 : List Loc), post r W2 → gW D W2 A s H1 locs1 → W p l e R s m args below meth c H1 locs1 (cells + mc) (slots + ms) Q (F0 m (pc + 3) ls (r.toList ++ rest))) : W p l e R s m args below meth c H locs cells slots Q (F0 m pc ls st0) := by
  intro T hT X
  obtain ⟨v, st₀, t, T', L, h0, X', hL, e1, e2, ⟨⟨r, W2, hv, hp, hP, hD⟩, hF⟩, st⟩ := hr T hT X
  cases hv
  obtain ⟨t2, a1, b1⟩ := kk _ W2 T'.heap (locs ++ L) hp (g_keep G hA h0 e1 hL hF hP hD) T' rfl X'
  exact ⟨t2, st t2 a1, b1⟩
theorem g_goX {mc ms : Nat} {post : Option Value → va_W → Prop} {px : String → Prop} (hr : vx_Run p l e R s m args below meth c H locs cells slots mc ms (F0 m pc ls st0) rest (gQ D post (va_A W1 H.size) a) (gX D px W1 (va_A W1 H.size)) (va_A W1 H.size)) (G : gW D W1 A s H locs) (hA : ∀ q : Nat, s.heap.size ≤ q → A q)
    (kx : ∀ (E : String) (ce : Cell) (q9 : Addr) (H1 : Heap) (locs1 : List Loc), px E → gW D W1 A s H1 locs1 → H1[q9]? = some ce → ce.vm = .none → s.vm.findClass E = some ce.cls → vx_W p l e R s m args below meth c H1 locs1 (cells + mc) (slots + ms) Q (F0 m pc ls rest) q9)
    (kk : ∀ (r : Option Value) (W2 : va_W) (H1 : Heap) (locs1 : List Loc), post r W2 → gW D W2 A s H1 locs1 → W p l e R s m args below meth c H1 locs1 (cells + mc) (slots + ms) Q (F0 m (pc + 3) ls (r.toList ++ rest))) : W p l e R s m args below meth c H locs cells slots Q (F0 m pc ls st0) := by
  intro T hT X
  rcases hr T hT X with ⟨v, st₀, t, T', L, h0, X', hL, e1, e2, ⟨⟨r, W2, hv, hp, hP, hD⟩, hF⟩, st⟩ | ⟨q, st₀, t, T', L, E, ce, h0, X', hL, e1, e2, ⟨hp, hP, hD, hF⟩, hce, hcv, hcl, st⟩
  · cases hv
    obtain ⟨t2, a1, b1⟩ := kk _ W2 T'.heap (locs ++ L) hp (g_keep G hA h0 e1 hL hF hP hD) T' rfl X'
    exact ⟨t2, st t2 a1, b1⟩
  · obtain ⟨t2, a1, b1⟩ := kx E ce q T'.heap (locs ++ L) hp (g_keep G hA h0 e1 hL hF hP hD) (by rw [e1]; exact hce) hcv hcl T' rfl X'
    exact ⟨t2, st.trans a1, b1⟩
end GL
