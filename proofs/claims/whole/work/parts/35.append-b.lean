/-! throws behind which the world is another; methods with handlers; a caught one -/
def gX2 (D : va_G) (px : String → va_W → Prop) (A : Nat → Prop) : String → State → State → Prop := fun E st t => ∃ W2 : va_W, px E W2 ∧ va_P D vwCl W2 t.heap ∧ va_D A W2 ∧ va_F A st t
/-- it returns, or throws (px: what, with which world) -/
def GX2 (l : Launch) (D : va_G) (ts : gY) (y : MethodName) (cc : ByteArray) (maxL : Nat) (ret : Option FieldType) (L mc ms : Nat) (av : List Value) (W1 : va_W) (post : Option Value → va_W → Prop) (px : String → va_W → Prop) : Prop :=
  ∀ sz : Nat, vx_Met l y (gws y cc maxL ret) (gR L mc ms) (va_Pc av (gP D ts W1 sz)) (gQ D post (va_A W1 sz)) (gX2 D px (va_A W1 sz)) mc ms (va_A W1 sz)
theorem GX.two {l : Launch} {D : va_G} {ts : gY} {y : MethodName} {cc : ByteArray} {maxL : Nat} {ret : Option FieldType} {L mc ms : Nat} {av : List Value} {W1 : va_W} {post : Option Value → va_W → Prop} {px : String → Prop} (h : GX l D ts y cc maxL ret L mc ms av W1 post px) : GX2 l D ts y cc maxL ret L mc ms av W1 post (fun E W2 => px E ∧ W2 = W1) := by
  intro sz p e ha hc hk s m args below hf happ hP hX
  obtain ⟨t, o, a1, a2, a3, hq⟩ := h sz p e ha hc hk s m args below hf happ hP hX
  refine ⟨t, o, a1, a2, a3, ?_⟩
  rcases hq with hq | ⟨q, ho, E, ce, L1, ⟨b1, b2, b3, b4⟩, b5⟩
  · exact Or.inl hq
  · exact Or.inr ⟨q, ho, E, ce, L1, ⟨W1, ⟨b1, rfl⟩, b2, b3, b4⟩, b5⟩
section GH2
variable {p : Program} {l : Launch} {e : Env} {R : Room} {s : State} {m : MethodId} {args : Array Value} {below : List Frame} {meth : Method} {c : Code} {H : Heap} {locs : List Loc} {cells slots : Nat} {Q : State → Prop}
variable {cc : ByteArray} {nL : Nat} {ret : Option FieldType} {own : String} {D : va_G} {ts : gY} {A : Nat → Prop} {W1 W2 : va_W} {pc : Nat} {ls : Array Slot} {rest st0 : List Value} {a : Array Value}
variable {C : String} {y : MethodName} {bytes : ByteArray} {maxL L mc ms n index b q0 ci N : Nat} {rt : Option FieldType} {As : List Value} {post : Option Value → va_W → Prop} {px : String → va_W → Prop} {fs : List Value} {T : u_T}
theorem g_goX2 (hr : vx_Run p l e R s m args below meth c H locs cells slots mc ms (F0 m pc ls st0) rest (gQ D post (va_A W1 H.size) a) (gX2 D px (va_A W1 H.size)) (va_A W1 H.size)) (G : gW D W1 A s H locs) (hA : ∀ q : Nat, s.heap.size ≤ q → A q)
    (kx : ∀ (E : String) (ce : Cell) (q9 : Addr) (W2 : va_W) (H1 : Heap) (locs1 : List Loc), px E W2 → gW D W2 A s H1 locs1 → H1[q9]? = some ce → ce.vm = .none → s.vm.findClass E = some ce.cls → vx_W p l e R s m args below meth c H1 locs1 (cells + mc) (slots + ms) Q (F0 m pc ls rest) q9)
    (kk : ∀ (r : Option Value) (W2 : va_W) (H1 : Heap) (locs1 : List Loc), post r W2 → gW D W2 A s H1 locs1 → W p l e R s m args below meth c H1 locs1 (cells + mc) (slots + ms) Q (F0 m (pc + 3) ls (r.toList ++ rest))) : W p l e R s m args below meth c H locs cells slots Q (F0 m pc ls st0) := by
  intro T hT X
  rcases hr T hT X with ⟨v, st₀, t, T', L, h0, X', hL, e1, e2, ⟨⟨r, W2, hv, hp, hP, hD⟩, hF⟩, st⟩ | ⟨q, st₀, t, T', L, E, ce, h0, X', hL, e1, e2, ⟨W2, hp, hP, hD, hF⟩, hce, hcv, hcl, st⟩
  · cases hv
    obtain ⟨t2, a1, b1⟩ := kk _ W2 T'.heap (locs ++ L) hp (g_keep G hA h0 e1 hL hF hP hD) T' rfl X'
    exact ⟨t2, st t2 a1, b1⟩
  · obtain ⟨t2, a1, b1⟩ := kx E ce q W2 T'.heap (locs ++ L) hp (g_keep G hA h0 e1 hL hF hP hD) (by rw [e1]; exact hce) hcv hcl T' rfl X'
    exact ⟨t2, st.trans a1, b1⟩
theorem g_callX2V (C0 : gC p s m args meth c cc nL ret own D ts A) (G : gW D W1 A s H locs) (hM : GX2 l D ts y bytes maxL rt L mc ms (.ref b :: As) W1 post px) (hk : gKV C y bytes maxL rt n) (hl : Cond.methodLink own index y ∈ gTs)
    (he : W1[q0]? = some (b, .inr (ci, fs))) (hc : vwCl[ci]? = some (C, T, N)) (hdg : decode cc pc = .ok (.invokevirtual index, 3)) (hst : st0 = As.reverse ++ .ref b :: rest) (hn : As.length = n) (hsz : ls.size = nL) (hcat : (rest.map fun v => v.category).sum ≤ 8)
    (hR : 8 + L + 1 ≤ R.frames ∧ 8 + (maxL + 11) + (100 + 40 * L) ≤ R.locals) (hf : cells + mc ≤ R.cells ∧ slots + ms ≤ R.slots)
    (kx : ∀ (E : String) (ce : Cell) (q9 : Addr) (W2 : va_W) (H1 : Heap) (locs1 : List Loc), px E W2 → gW D W2 A s H1 locs1 → H1[q9]? = some ce → ce.vm = .none → s.vm.findClass E = some ce.cls → vx_W p l e R s m args below meth c H1 locs1 (cells + mc) (slots + ms) Q (F0 m pc ls rest) q9)
    (kk : ∀ (r : Option Value) (W2 : va_W) (H1 : Heap) (locs1 : List Loc), post r W2 → gW D W2 A s H1 locs1 → W p l e R s m args below meth c H1 locs1 (cells + mc) (slots + ms) Q (F0 m (pc + 3) ls (r.toList ++ rest))) : W p l e R s m args below meth c H locs cells slots Q (F0 m pc ls st0) := by
  obtain ⟨hx, hb, hml, hr, hlk, hown, hts, hK, hT, hS, hA⟩ := id C0
  obtain ⟨⟨k1, k2, k3, k4⟩, k5, k6, k7, k8⟩ := hk
  have cw : CallW R s args own C index y bytes maxL rt (gws y bytes maxL rt) (gR L mc ms) mc ms n := ⟨callB_of n hts (gws_good k4) rfl rfl rfl (hts _ (by rw [k5]; exact k3)) (hts _ hl) ⟨k6, k7, k8⟩ hR, hts _ k1, hts _ k2⟩
  exact g_goX2 (vx_runV ⟨hx, hb, hml, hown, hts⟩ (hM H.size) cw ⟨gP_blind, va_recv hK G.1 hc he, fun U hU hW => ⟨rfl, g_pre C0 G hU hW⟩⟩ rfl hn hsz hst (lv_room hcat) hdg hf) G hA kx kk
theorem g_throwS2 {W0 : va_W} {cls text : String} {names : List String} {ik is ic : Nat} (C0 : gC p s m args meth c cc nL ret own D ts A) (hst : l.stackTraces = false) (hno : ∀ x ∈ c.exceptionTable.toList, False) (G : gW D W0 A s H locs) (hsz : ls.size = nL)
    (hcls : Bundle.fit cls = true) (hnames : ∀ n ∈ names, Bundle.fit n = true) (hT : ∀ w ∈ vx_atS own ic cls names, w ∈ gTs ∨ w ∈ gN) (hk : Cond.classLink own ik cls ∈ gTs) (hini : Cond.initialized cls ∈ gTs) (hstr : own = RX4 ∧ (is, text) ∈ gSR)
    (d0 : decode cc pc = .ok (.new ik, 3)) (d3 : decode cc (pc + 3) = .ok (.dup, 1)) (d4 : decode cc (pc + 4) = .ok (.ldc is, 2)) (d6 : decode cc (pc + 6) = .ok (.invokespecial ic, 3)) (d9 : decode cc (pc + 9) = .ok (.athrow, 1))
    (hR : names.length + 3 < R.frames ∧ 13 * (names.length + 1) + 43 ≤ R.locals) (hRc : cells + 1 ≤ R.cells) (hRs : slots + 6 ≤ R.slots) (hp : px cls W0) {mc ms : Nat} (hc : cells + 1 ≤ mc) (hs : slots + 6 ≤ ms) :
    W p l e R s m args below meth c H locs cells slots (vx_MQ below (gQ D post A) (gX2 D px A) args s mc ms A) (F0 m pc ls []) := by
  obtain ⟨hx, hb, hml, hr, hlk, hown, hts, hK, hT0, hS, hA⟩ := id C0
  obtain ⟨rfl, hstr⟩ := hstr
  obtain ⟨sa, hsa⟩ := hT0.2.2 _ hstr
  have hat : ∀ w ∈ vx_atS RX4 ic cls names, w.before args s = true := fun w hw => (hT w hw).elim (fun h => hts w h) (fun h => hT0.word h)
  refine vx_throwS (text := text) (names := names) hx hb hst hown hcls hnames (hts _ hk) (hts _ hini) hsa hat ?_ hS.1 hS.2.1 G.2.2 (hsz.trans hml.symm) d0 d3 d4 d6 d9 (fun x hx => absurd (hno x hx) id) hR.1 (by simpa using hR.2) hRc hRs hlk ?_ G.2.2.2.2 hc hs
  · intro w hw
    rcases List.mem_cons.mp hw with rfl | hw
    · exact g_ot (Or.inl hk)
    · rcases List.mem_cons.mp hw with rfl | hw
      · exact g_ot (Or.inl hini)
      · exact g_ot (hT w hw)
  · intro t hW hsz hq
    refine ⟨W0, hp, ?_, G.2.1, ⟨Nat.le_trans G.2.2.1 hsz, fun q h1 h2 => by rw [hq q (Nat.lt_of_lt_of_le h1 G.2.2.1)]; exact G.2.2.2.1 q h1 h2⟩⟩
    intro k q hkq
    exact (G.1 k q hkq).kept (hq _ (G.1 k q hkq).lt)
theorem g_out2 {W0 : va_W} {E : String} {ce : Cell} {q : Nat} (C0 : gC p s m args meth c cc nL ret own D ts A) (G : gW D W0 A s H locs) (hno : ∀ x ∈ c.exceptionTable.toList, False) (hp : px E W0) (hce : H[q]? = some ce) (hcv : ce.vm = .none) (hcl : s.vm.findClass E = some ce.cls) {mc ms : Nat} (h1 : cells ≤ mc) (h2 : slots ≤ ms) :
    vx_W p l e R s m args below meth c H locs cells slots (vx_MQ below (gQ D post A) (gX2 D px A) args s mc ms A) (F0 m pc ls rest) q :=
  vx_out (fun x hx => absurd (hno x hx) id) C0.2.2.2.2.1 hce hcv hcl (fun t ht _ => ⟨W0, hp, by rw [ht]; exact G.1, G.2.1, G.2.2.F ht⟩) G.2.2.2.2 h1 h2
end GH2
section GI2
variable {l : Launch} {D : va_G} {ts : gY} {y : MethodName} {cc : ByteArray} {maxL : Nat} {ret : Option FieldType} {L mc ms : Nat} {av : List Value} {W1 : va_W} {post : Option Value → va_W → Prop} {px : String → va_W → Prop} {lv : List (Nat × Value)}
theorem g_introX2 (hy : plainName y.cls = true) (hlv : lv_args 0 av = lv) (hlen : (lg_sl av).length ≤ maxL)
    (body : ∀ (p : Program) (e : Env) (s : State) (m : MethodId) (below : List Frame) (meth : Method) (c : Code), gC p s m av.toArray meth c cc maxL ret y.cls D ts (va_A W1 s.heap.size) → (∀ x ∈ c.exceptionTable.toList, False) → gW D W1 (va_A W1 s.heap.size) s s.heap [] → ∀ ls : Array Slot, lv_has ls maxL lv →
      W p l e (gR L mc ms) s m av.toArray below meth c s.heap [] 0 0 (vx_MQ below (gQ D post (va_A W1 s.heap.size)) (gX2 D px (va_A W1 s.heap.size)) av.toArray s mc ms (va_A W1 s.heap.size)) (F0 m 0 ls [])) : GX2 l D ts y cc maxL ret L mc ms av W1 post px := by
  intro sz
  refine vx_ofW (cc := cc) (maxL := maxL) (ret := ret) hy rfl ?_
  intro p e s m args below meth c s₁ B hml hno hv
  obtain ⟨rfl, hv⟩ := hv
  have C0 := g_C B hml (fun w hw => List.mem_cons_of_mem _ hw) hv
  obtain ⟨rfl, h1, h2, h3, h4, h5⟩ := hv
  rw [lg_entry_eq]
  have hl := lv_entry av hlen
  rw [hlv] at hl
  exact body p e s m below meth c C0 hno ⟨h1, h3.self, va_S.rf⟩ _ hl
theorem g_ofWH {ws ws' : List Cond} {rm : Room} {Pc : Array Value → State → Prop} {Qc : Array Value → State → Outcome → State → Prop} {free : Addr → Prop} {hh : List (Nat × Nat × Nat × Nat)}
    (hy : plainName y.cls = true) (hw : ws = Cond.codeWith y cc maxL ret hh :: ws')
    (body : ∀ p e s m args below meth c s₁, BodyLoose p l y (headSpec ws rm) cc maxL ret e s m args below meth c s₁ → c.maxLocals = maxL → Pc args s →
      W p l e (headSpec ws rm).room s m args below meth c s.heap [] 0 0 (MQ below Qc args s mc ms free) (entryFrame m args maxL)) : Met l y ws rm Pc Qc mc ms free := by
  refine MetFree.of_bodyS (code := cc) (maxLocals := maxL) (ret := ret) hy ?_ ?_
  · intro args s m h hn
    obtain ⟨m9, meth, c, hn9, h1, h2, h3, h4, -, h5, h6, -⟩ := Cond.codeWith_spec (atoms_spec (ws := ws) h _ (by rw [hw]; exact List.mem_cons_self))
    cases hn.symm.trans hn9
    exact ⟨meth, c, h1, h2, h3, h4, h5, h6⟩
  · intro p e s m args below meth c s₁ B hml hP _
    have hh0 : s₁.heap = s.heap := by rw [B.state]; rfl
    obtain ⟨t, a1, o, b1, b2, b3⟩ := body p e s m args below meth c s₁ B hml hP s₁ hh0 (Stand.of_body B)
    exact ⟨t, o, a1, b1, b2, ⟨b3.1, b3.2⟩⟩
theorem g_introH {hh : List (Nat × Nat × Nat × Nat)} (hy : plainName y.cls = true) (hlv : lv_args 0 av = lv) (hlen : (lg_sl av).length ≤ maxL)
    (body : ∀ (p : Program) (e : Env) (s : State) (m : MethodId) (below : List Frame) (meth : Method) (c : Code), gC p s m av.toArray meth c cc maxL ret y.cls D ts (va_A W1 s.heap.size) → c.exceptionTable.toList = tableOf hh → gW D W1 (va_A W1 s.heap.size) s s.heap [] → ∀ ls : Array Slot, lv_has ls maxL lv →
      W p l e (gR L mc ms) s m av.toArray below meth c s.heap [] 0 0 (MQ below (gQ D post (va_A W1 s.heap.size)) av.toArray s mc ms (va_A W1 s.heap.size)) (F0 m 0 ls [])) : GH l D ts y cc maxL ret hh L mc ms av W1 post := by
  intro sz
  refine g_ofWH (cc := cc) (maxL := maxL) (ret := ret) hy rfl ?_
  intro p e s m args below meth c s₁ B hml hv
  obtain ⟨rfl, hv⟩ := hv
  have C0 := g_C B hml (fun w hw => List.mem_cons_of_mem _ hw) hv
  obtain ⟨rfl, h1, h2, h3, h4, h5⟩ := hv
  have hex := vx_table (x := y) B (atoms_spec (ws := gwh y cc maxL ret hh) B.pre _ List.mem_cons_self)
  rw [lg_entry_eq]
  have hl := lv_entry av hlen
  rw [hlv] at hl
  exact body p e s m below meth c C0 hex ⟨h1, h3.self, va_S.rf⟩ _ hl
end GI2
/-! appending, running: the class -/
theorem ap_rng {x : Int32} (h1 : ¬ x < 33) (h2 : x ≤ 126) : ∃ u, 33 ≤ u ∧ u ≤ 126 ∧ x = nI u := by
  have h0 : ¬ x < 0 := by
    intro h
    apply h1
    rw [Int32.lt_iff_toInt_lt] at h ⊢
    have e0 : (0 : Int32).toInt = 0 := by decide
    have e3 : (33 : Int32).toInt = 33 := by decide
    omega
  obtain ⟨j, hj, rfl⟩ := nI_of2 (n := 126) (by decide) h0 h2
  refine ⟨j, ?_, hj, rfl⟩
  rcases Nat.lt_or_ge j 33 with h | h
  · exact absurd (nI_lt (a := j) (b := 33) h (by decide)) h1
  · exact h
theorem inB_lo {x lo hi : Int32} (h : x < lo) : inB x lo hi = false := by unfold inB; rw [decide_eq_true h]; rfl
theorem inB_hi {x lo hi : Int32} (h : ¬ x ≤ hi) : inB x lo hi = false := by unfold inB; rw [decide_eq_true (Int32.not_le.mp h), Bool.not_true, Bool.and_false]
theorem inB_t {x lo hi : Int32} (h : ¬ x < lo) (h2 : x ≤ hi) : inB x lo hi = true := by unfold inB; rw [decide_eq_false h, decide_eq_false (Int32.not_lt.mpr h2)]; rfl
theorem inB_u {u : Nat} (h : 33 ≤ u) (h2 : u ≤ 126) : inB (nI u) 33 126 = true := inB_t (nI_nlt h (by omega)) (nI_le h2 (by decide))
theorem fit_u : ∀ u, u < 128 → fits .byte (.int (nI u)) = true := by decide +kernel
theorem fit_upd {ta : Nat → Int32} {tm tn u : Nat} (hu : u < 128) (h : ∀ i, i < tm → fits .byte (.int (ta i)) = true) : ∀ i, i < tm → fits .byte (.int (upd ta tn (nI u) i)) = true := by
  intro i hi
  by_cases e : i = tn
  · rw [show upd ta tn (nI u) i = nI u from if_pos e]; exact fit_u u hu
  · rw [show upd ta tn (nI u) i = ta i from if_neg e]; exact h i hi
theorem fit_cpy {ta : Nat → Int32} {tm M : Nat} (h : ∀ i, i < tm → fits .byte (.int (ta i)) = true) : ∀ i, i < M → fits .byte (.int (va_cpy ta (fun _ => 0) 0 0 tm i)) = true := by
  intro i _
  unfold va_cpy
  by_cases e : 0 ≤ i ∧ i < 0 + tm
  · rw [if_pos e]; exact h _ (by omega)
  · rw [if_neg e]; exact fit_u 0 (by decide)
theorem cpy_at {ta : Nat → Int32} {tm j : Nat} (h : j < tm) : va_cpy ta (fun _ => 0) 0 0 tm j = ta j := by
  unfold va_cpy
  rw [if_pos (by omega)]
  congr 1; omega
theorem ap_cap {tm tn : Nat} (h : tm = 16 ∨ tm = 34 ∨ tm = 70) (e : tn = tm) (h2 : tn < 60) : (nlN tm (tn + 1 - tm) (tm + 2) = 16 ∨ nlN tm (tn + 1 - tm) (tm + 2) = 34 ∨ nlN tm (tn + 1 - tm) (tm + 2) = 70) ∧ tn + 1 ≤ nlN tm (tn + 1 - tm) (tm + 2) := by
  subst e
  unfold nlN
  rw [if_neg (by omega)]
  omega
theorem dp_ix (tx : Nat → Nat) (q : RS) (tn : Nat) (f b : Int64) (v : Nat) : ∀ j, (dpS tx q tn f b v j).2.2.2.2.2 ≤ j
  | 0 => Nat.le_refl _
  | j + 1 => by
    have ih := dp_ix tx q tn f b v j
    by_cases h : (dpS tx q tn f b v j).2.2.2.2.1 = true
    · rw [show dpS tx q tn f b v (j + 1) = dpS tx q tn f b v j from if_pos h]; omega
    · have h' : (dpS tx q tn f b v j).2.2.2.2.1 = false := by simpa using h
      by_cases hb : dpB tx tn j = true
      · rw [dp_u h' hb]; exact Nat.le_refl _
      · rw [dp_n h' (by simpa using hb)]; exact Nat.le_refl _
theorem n0_of {k : Nat} (hk : k < 3) (h : (0 : Int32) = nI k) : k = 0 := by
  have h2 : nI 0 = nI k := h
  exact ((nI_eq (by decide) (by omega)).mp h2).symm
theorem rdE_le (p : Nat → Bool) (n : Nat) : rdE p n ≤ n := by
  have := ldN_le p n
  unfold rdE; split <;> omega
theorem wk_lt0 {tx : Nat → Nat} {q : RS} {n : Nat} (h : ldN (rdOk tx q) n < n) : wkB tx q n = false := by
  unfold wkB; rw [decide_eq_false (by omega)]; rfl
theorem wk_nf {tx : Nat → Nat} {q : RS} {n : Nat} (h : ¬ ldN (rdOk tx q) n < n) (h2 : (decide ((rdS tx q (rdE (rdOk tx q) n)).1 = 6) || decide ((rdS tx q (rdE (rdOk tx q) n)).1 = 8)) = false) : wkB tx q n = false := by
  have h3 := ldN_le (rdOk tx q) n
  have h4 : ldN (rdOk tx q) n = n := by omega
  rw [show rdE (rdOk tx q) n = n from if_pos h4] at h2
  unfold wkB; rw [h2, Bool.and_false]
theorem wk_y {tx : Nat → Nat} {q : RS} {n : Nat} (h4 : ldN (rdOk tx q) n = n) (h2 : (decide ((rdS tx q n).1 = 6) || decide ((rdS tx q n).1 = 8)) = true) : wkB tx q n = true := by
  unfold wkB; rw [h2, decide_eq_true h4]; rfl
set_option maxHeartbeats 4000000 in
set_option maxRecDepth 100000 in
theorem c_X4_append (l : Launch) (D : va_G) (cy : Nat → ClassId) (ad : Nat → Nat) (fr : Nat → Int64) (bk : Nat → Int64) (vw : Nat → Nat) (tk : Int64) (to : Int64) (fk : Int64) (fo : Int64) (kp : Nat) (sp : Nat) (lt : Nat) (ib : Bool) (rw : Nat) (cl : Nat) (nu : Nat) (tv : Nat) (tm : Nat) (ta : Nat → Int32) (ml : Int32) (tn : Nat) (R : va_W) (p0 : Int32) (hst : l.stackTraces = false) (htm : tm = 16 ∨ tm = 34 ∨ tm = 70) (htn : tn ≤ tm) (h60 : tn ≤ 60) (hfit : ∀ i, i < tm → fits .byte (.int (ta i)) = true) : GX l D (gts cy) yX4_append cX4_append 2 (some .int) 5 4 300 [.ref (ad 0), .int p0] (wC ad cy fr bk vw tk to fk fo kp sp lt ib rw cl nu tv tm ta ml tn R) (fun r W2 => ∃ (u t2 m2 : Nat) (a2 : Nat → Int32), 33 ≤ u ∧ u ≤ 126 ∧ p0 = nI u ∧ tn < 60 ∧ r = some (.int (nI (tn + 1))) ∧ W2 = wC ad cy fr bk vw tk to fk fo kp sp lt ib rw cl nu t2 m2 a2 ml (tn + 1) R ∧ (m2 = 16 ∨ m2 = 34 ∨ m2 = 70) ∧ tn + 1 ≤ m2 ∧ (∀ j, j < tn → a2 j = ta j) ∧ a2 tn = nI u ∧ (∀ i, i < m2 → fits .byte (.int (a2 i)) = true)) (fun E => E = "java/lang/IllegalArgumentException" ∧ inB p0 33 126 = false ∨ E = "java/lang/IllegalStateException" ∧ inB p0 33 126 = true ∧ tn = 60) := by
  refine g_introX (by decide +kernel) (lv := [(0, .ref (ad 0)), (1, .int p0)]) rfl (Nat.le_of_ble_eq_true rfl) ?_
  intro p e s m below meth c C0 hno G ls hl
  have hx := C0.1
  have hb := C0.2.1
  have hown := C0.2.2.2.2.2.1
  have hts := C0.2.2.2.2.2.2.1
  refine lv_iload_n hx hb dX4_append_0 rfl (lv_at hl 1 rfl) ?_
  refine lv_bipush (v := 33) hx hb dX4_append_1 (by decide) ?_
  refine lv_icmp_lt (tgt := 12) hx hb dX4_append_3 (by decide) (fun c_3 => ?_) (fun c_3 => ?_)
  · skip
    exact g_throwS (names := ["java/lang/RuntimeException", "java/lang/Exception"]) C0 hst hno G hl.1 (by decide +kernel) (by decide +kernel) tw_iae xl_X4_55 ti_iae ⟨rfl, sr_210⟩ dX4_append_12 dX4_append_15 dX4_append_16 dX4_append_18 dX4_append_21 ⟨(Nat.le_of_ble_eq_true rfl), (Nat.le_of_ble_eq_true rfl)⟩ (Nat.le_of_ble_eq_true rfl) (Nat.le_of_ble_eq_true rfl) (Or.inl ⟨rfl, by first | exact inB_lo c_3 | exact inB_hi c_9⟩) (Nat.le_of_ble_eq_true rfl) (Nat.le_of_ble_eq_true rfl)
  · skip
    refine lv_iload_n hx hb dX4_append_6 rfl (lv_at hl 1 rfl) ?_
    refine lv_bipush (v := 126) hx hb dX4_append_7 (by decide) ?_
    refine lv_icmp_le (tgt := 22) hx hb dX4_append_9 (by decide) (fun c_9 => ?_) (fun c_9 => ?_)
    · skip
      obtain ⟨u, hu1, hu2, rfl⟩ := ap_rng c_3 c_9
      refine lv_aload_n hx hb dX4_append_22 rfl (lv_at hl 0 rfl) ?_
      refine g_get (q0 := 0) (v := .ref (ad 7)) C0 G in_X4 rfl rfl 5 (by decide) fl_X4_43 (fun _ h => h) rfl dX4_append_23 ?_
      refine g_callV (As := []) (rest := []) (q0 := 7) C0 G (c_J4_length_8abf5 l D cy (ad := ad) (fr := fr) (bk := bk) (vw := vw) (tk := tk) (to := to) (fk := fk) (fo := fo) (kp := kp) (sp := sp) (lt := lt) (ib := ib) (rw := rw) (cl := cl) (nu := nu) (tv := tv) (tm := tm) (ta := ta) (ml := ml) (tn := tn) (R := R)  ) k_J4_length_8abf5 ml_X4_212 rfl rfl dX4_append_26 rfl rfl hl.1 (Nat.le_of_ble_eq_true rfl) ⟨Nat.le_of_ble_eq_true rfl, Nat.le_of_ble_eq_true rfl⟩ ⟨Nat.le_of_ble_eq_true rfl, Nat.le_of_ble_eq_true rfl⟩ (fun r W2 H locs hp G => ?_)
      obtain ⟨rfl, hw⟩ := hp
      have G := g_wc hw G
      refine W.eq (g2 := F0 m 29 ls [.int (nI tn)]) rfl ?_
      refine lv_bipush (v := 60) hx hb dX4_append_29 (by decide) ?_
      refine lv_icmp_lt (tgt := 44) hx hb dX4_append_31 (by decide) (fun c_31 => ?_) (fun c_31 => ?_)
      · skip
        have c_31 : tn < 60 := (nI_ltI (a := tn) (b := 60) (by omega) (by omega)).mp c_31
        by_cases hft : tn + 1 ≤ tm
        · skip
          refine lv_aload_n hx hb dX4_append_44 rfl (lv_at hl 0 rfl) ?_
          refine g_get (q0 := 0) (v := .ref (ad 7)) C0 G in_X4 rfl rfl 5 (by decide) fl_X4_43 (fun _ h => h) rfl dX4_append_45 ?_
          refine lv_iload_n hx hb dX4_append_48 rfl (lv_at hl 1 rfl) ?_
          refine lv_i2c hx hb dX4_append_49 rfl ?_
          refine g_topi (x' := nI u) (i2c_s u (by omega)) ?_
          refine g_callV (As := [.int (nI u)]) (rest := []) (q0 := 7) C0 G (c_J4_append_cf468_f l D cy (ad := ad) (fr := fr) (bk := bk) (vw := vw) (tk := tk) (to := to) (fk := fk) (fo := fo) (kp := kp) (sp := sp) (lt := lt) (ib := ib) (rw := rw) (cl := cl) (nu := nu) (tv := tv) (tm := tm) (ta := ta) (ml := ml) (tn := tn) (R := R) (ch := u) (by omega) (by omega) (by omega)) k_J4_append_cf468 ml_X4_217 rfl rfl dX4_append_50 rfl rfl hl.1 (Nat.le_of_ble_eq_true rfl) ⟨Nat.le_of_ble_eq_true rfl, Nat.le_of_ble_eq_true rfl⟩ ⟨Nat.le_of_ble_eq_true rfl, Nat.le_of_ble_eq_true rfl⟩ (fun r W2 H locs hp G => ?_)
          obtain ⟨rfl, hw⟩ := hp
          have G := g_wc hw G
          refine W.eq (g2 := F0 m 53 ls [.ref (ad 7)]) rfl ?_
          refine lv_pop hx hb dX4_append_53 rfl ?_
          refine lv_aload_n hx hb dX4_append_54 rfl (lv_at hl 0 rfl) ?_
          refine g_get (q0 := 0) (v := .ref (ad 7)) C0 G in_X4 rfl rfl 5 (by decide) fl_X4_43 (fun _ h => h) rfl dX4_append_55 ?_
          refine g_callV (As := []) (rest := []) (q0 := 7) C0 G (c_J4_length_8abf5 l D cy (ad := ad) (fr := fr) (bk := bk) (vw := vw) (tk := tk) (to := to) (fk := fk) (fo := fo) (kp := kp) (sp := sp) (lt := lt) (ib := ib) (rw := rw) (cl := cl) (nu := nu) (tv := tv) (tm := tm) (ta := upd ta tn (nI u)) (ml := ml) (tn := (tn + 1)) (R := R)  ) k_J4_length_8abf5 ml_X4_212 rfl rfl dX4_append_58 rfl rfl hl.1 (Nat.le_of_ble_eq_true rfl) ⟨Nat.le_of_ble_eq_true rfl, Nat.le_of_ble_eq_true rfl⟩ ⟨Nat.le_of_ble_eq_true rfl, Nat.le_of_ble_eq_true rfl⟩ (fun r W2 H locs hp G => ?_)
          obtain ⟨rfl, hw⟩ := hp
          have G := g_wc hw G
          refine W.eq (g2 := F0 m 61 ls [.int (nI (tn + 1))]) rfl ?_
          refine W.widen (k := 4) (n := 300) (Nat.le_of_ble_eq_true rfl) (Nat.le_of_ble_eq_true rfl) ?_
          exact vx_ret (g_iret C0 G (by first | exact ⟨u, tv, tm, _, hu1, hu2, rfl, c_31, rfl, rfl, htm, hft, fun j hj => if_neg (by omega), if_pos rfl, fit_upd (by omega) hfit⟩ | exact ⟨u, t, _, _, hu1, hu2, rfl, c_31, rfl, rfl, (ap_cap htm hge c_31).1, (ap_cap htm hge c_31).2, fun j hj => (if_neg (by omega)).trans (cpy_at (by omega)), if_pos rfl, fit_upd (by omega) (fit_cpy hfit)⟩) dX4_append_61)
        · skip
          have hge : tn = tm := by omega
          refine lv_aload_n hx hb dX4_append_44 rfl (lv_at hl 0 rfl) ?_
          refine g_get (q0 := 0) (v := .ref (ad 7)) C0 G in_X4 rfl rfl 5 (by decide) fl_X4_43 (fun _ h => h) rfl dX4_append_45 ?_
          refine lv_iload_n hx hb dX4_append_48 rfl (lv_at hl 1 rfl) ?_
          refine lv_i2c hx hb dX4_append_49 rfl ?_
          refine g_topi (x' := nI u) (i2c_s u (by omega)) ?_
          refine g_callV (As := [.int (nI u)]) (rest := []) (q0 := 7) C0 G (c_J4_append_cf468_g l D cy (ad := ad) (fr := fr) (bk := bk) (vw := vw) (tk := tk) (to := to) (fk := fk) (fo := fo) (kp := kp) (sp := sp) (lt := lt) (ib := ib) (rw := rw) (cl := cl) (nu := nu) (tv := tv) (tm := tm) (ta := ta) (ml := ml) (tn := tn) (R := R) (ch := u) (by omega) (by omega) (by omega) (by omega) hfit) k_J4_append_cf468 ml_X4_217 rfl rfl dX4_append_50 rfl rfl hl.1 (Nat.le_of_ble_eq_true rfl) ⟨Nat.le_of_ble_eq_true rfl, Nat.le_of_ble_eq_true rfl⟩ ⟨Nat.le_of_ble_eq_true rfl, Nat.le_of_ble_eq_true rfl⟩ (fun r W2 H locs hp G => ?_)
          obtain ⟨t, rfl, hw⟩ := hp
          have G := g_wc hw G
          refine W.eq (g2 := F0 m 53 ls [.ref (ad 7)]) rfl ?_
          refine lv_pop hx hb dX4_append_53 rfl ?_
          refine lv_aload_n hx hb dX4_append_54 rfl (lv_at hl 0 rfl) ?_
          refine g_get (q0 := 0) (v := .ref (ad 7)) C0 G in_X4 rfl rfl 5 (by decide) fl_X4_43 (fun _ h => h) rfl dX4_append_55 ?_
          refine g_callV (As := []) (rest := []) (q0 := 7) C0 G (c_J4_length_8abf5 l D cy (ad := ad) (fr := fr) (bk := bk) (vw := vw) (tk := tk) (to := to) (fk := fk) (fo := fo) (kp := kp) (sp := sp) (lt := lt) (ib := ib) (rw := rw) (cl := cl) (nu := nu) (tv := t) (tm := (nlN tm ((tn + 1) - tm) (tm + 2))) (ta := (upd (va_cpy ta (fun _ => 0) 0 0 tm) tn (nI u))) (ml := ml) (tn := (tn + 1)) (R := R)  ) k_J4_length_8abf5 ml_X4_212 rfl rfl dX4_append_58 rfl rfl hl.1 (Nat.le_of_ble_eq_true rfl) ⟨Nat.le_of_ble_eq_true rfl, Nat.le_of_ble_eq_true rfl⟩ ⟨Nat.le_of_ble_eq_true rfl, Nat.le_of_ble_eq_true rfl⟩ (fun r W2 H locs hp G => ?_)
          obtain ⟨rfl, hw⟩ := hp
          have G := g_wc hw G
          refine W.eq (g2 := F0 m 61 ls [.int (nI (tn + 1))]) rfl ?_
          refine W.widen (k := 4) (n := 300) (Nat.le_of_ble_eq_true rfl) (Nat.le_of_ble_eq_true rfl) ?_
          exact vx_ret (g_iret C0 G (by first | exact ⟨u, tv, tm, _, hu1, hu2, rfl, c_31, rfl, rfl, htm, hft, fun j hj => if_neg (by omega), if_pos rfl, fit_upd (by omega) hfit⟩ | exact ⟨u, t, _, _, hu1, hu2, rfl, c_31, rfl, rfl, (ap_cap htm hge c_31).1, (ap_cap htm hge c_31).2, fun j hj => (if_neg (by omega)).trans (cpy_at (by omega)), if_pos rfl, fit_upd (by omega) (fit_cpy hfit)⟩) dX4_append_61)
      · skip
        have c_31 : ¬ (tn < 60) := fun h => c_31 ((nI_ltI (a := tn) (b := 60) (by omega) (by omega)).mpr h)
        exact g_throwS (names := ["java/lang/RuntimeException", "java/lang/Exception"]) C0 hst hno G hl.1 (by decide +kernel) (by decide +kernel) tw_ise xl_X4_66 ti_ise ⟨rfl, sr_215⟩ dX4_append_34 dX4_append_37 dX4_append_38 dX4_append_40 dX4_append_43 ⟨(Nat.le_of_ble_eq_true rfl), (Nat.le_of_ble_eq_true rfl)⟩ (Nat.le_of_ble_eq_true rfl) (Nat.le_of_ble_eq_true rfl) (Or.inr ⟨rfl, inB_u hu1 hu2, by omega⟩) (Nat.le_of_ble_eq_true rfl) (Nat.le_of_ble_eq_true rfl)
    · skip
      exact g_throwS (names := ["java/lang/RuntimeException", "java/lang/Exception"]) C0 hst hno G hl.1 (by decide +kernel) (by decide +kernel) tw_iae xl_X4_55 ti_iae ⟨rfl, sr_210⟩ dX4_append_12 dX4_append_15 dX4_append_16 dX4_append_18 dX4_append_21 ⟨(Nat.le_of_ble_eq_true rfl), (Nat.le_of_ble_eq_true rfl)⟩ (Nat.le_of_ble_eq_true rfl) (Nat.le_of_ble_eq_true rfl) (Or.inl ⟨rfl, by first | exact inB_lo c_3 | exact inB_hi c_9⟩) (Nat.le_of_ble_eq_true rfl) (Nat.le_of_ble_eq_true rfl)

set_option maxHeartbeats 4000000 in
set_option maxRecDepth 100000 in
theorem c_X4_run (l : Launch) (D : va_G) (cy : Nat → ClassId) (ad : Nat → Nat) (fr : Nat → Int64) (bk : Nat → Int64) (vw : Nat → Nat) (tk : Int64) (to : Int64) (fk : Int64) (fo : Int64) (kp : Nat) (sp : Nat) (lt : Nat) (ib : Bool) (rw : Nat) (cl : Nat) (nu : Nat) (tv : Nat) (tm : Nat) (ta : Nat → Int32) (ml : Int32) (tn : Nat) (R : va_W) (tx : Nat → Nat) (hst : l.stackTraces = false) (hkp : kp ≤ 6) (htm : tn ≤ tm) (htm2 : tm < 2147483648) (htx : ∀ j, j < tn → ta j = nI (tx j) ∧ tx j < 128) (hq : rsOk (0, lt, ib, rw, cl, nu)) : GX2 l D (gts cy) yX4_run cX4_run 2 (some .int) 6 4 24 [.ref (ad 0)] (wC ad cy fr bk vw tk to fk fo kp sp lt ib rw cl nu tv tm ta ml tn R) (fun r W2 => wkB tx (0, lt, ib, rw, cl, nu) tn = true ∧ ∃ (q1 : RS) (sp2 lt2 : Nat) (ib2 : Bool) (rw2 cl2 nu2 : Nat) (ml2 : Int32), q1.1 = 0 ∧ rsOk q1 ∧ rsOk (sp2, lt2, ib2, rw2, cl2, nu2) ∧ r = some (.int (nI (dpS tx q1 tn (saU fr kp 0) (saU bk kp 0) (saU vw kp 0) tn).2.2.2.1)) ∧ W2 = wC ad cy (va_up (saU fr kp) 0 (dpS tx q1 tn (saU fr kp 0) (saU bk kp 0) (saU vw kp 0) tn).1) (va_up (saU bk kp) 0 (dpS tx q1 tn (saU fr kp 0) (saU bk kp 0) (saU vw kp 0) tn).2.1) (va_up (saU vw kp) 0 (dpS tx q1 tn (saU fr kp 0) (saU bk kp 0) (saU vw kp 0) tn).2.2.1) tk to fk fo (saK kp) sp2 lt2 ib2 rw2 cl2 nu2 tv tm ta ml2 0 R) (fun E W2 => E = "java/lang/IllegalArgumentException" ∧ wkB tx (0, lt, ib, rw, cl, nu) tn = false ∧ ∃ (sp2 lt2 : Nat) (ib2 : Bool) (rw2 cl2 nu2 : Nat), rsOk (sp2, lt2, ib2, rw2, cl2, nu2) ∧ W2 = wC ad cy fr bk vw tk to fk fo kp sp2 lt2 ib2 rw2 cl2 nu2 tv tm ta ml tn R) := by
  refine g_introX2 (by decide +kernel) (lv := [(0, .ref (ad 0))]) rfl (Nat.le_of_ble_eq_true rfl) ?_
  intro p e s m below meth c C0 hno G ls hl
  have hx := C0.1
  have hb := C0.2.1
  have hown := C0.2.2.2.2.2.1
  have hts := C0.2.2.2.2.2.2.1
  have hld := ldN_le (rdOk tx (0, lt, ib, rw, cl, nu)) tn
  refine lv_aload_n hx hb dX4_run_0 rfl (lv_at hl 0 rfl) ?_
  refine g_callV (As := []) (rest := []) (q0 := 0) C0 G (c_X4_readText l D cy (ad := ad) (fr := fr) (bk := bk) (vw := vw) (tk := tk) (to := to) (fk := fk) (fo := fo) (kp := kp) (sp := sp) (lt := lt) (ib := ib) (rw := rw) (cl := cl) (nu := nu) (tv := tv) (tm := tm) (ta := ta) (ml := ml) (tn := tn) (R := R) (tx := tx) (by omega) (by omega) htx hq) k_X4_readText ml_X4_224 rfl rfl dX4_run_1 rfl rfl hl.1 (Nat.le_of_ble_eq_true rfl) ⟨Nat.le_of_ble_eq_true rfl, Nat.le_of_ble_eq_true rfl⟩ ⟨Nat.le_of_ble_eq_true rfl, Nat.le_of_ble_eq_true rfl⟩ (fun r W2 H locs hp G => ?_)
  obtain ⟨rfl, hw⟩ := hp
  have G := g_wc hw G
  refine W.eq (g2 := F0 m 4 ls [.int (nI (ldN (rdOk tx (0, lt, ib, rw, cl, nu)) tn))]) rfl ?_
  have hre := rd_ok (fun j hj => (htx j hj).2) hq (rdE (rdOk tx (0, lt, ib, rw, cl, nu)) tn) (rdE_le _ _)
  have hre1 := hre.1
  refine lv_aload_n hx hb dX4_run_4 rfl (lv_at hl 0 rfl) ?_
  refine g_get (q0 := 0) (v := .ref (ad 7)) C0 G in_X4 rfl rfl 5 (by decide) fl_X4_43 (fun _ h => h) rfl dX4_run_5 ?_
  refine g_callV (As := []) (rest := [.int (nI (ldN (rdOk tx (0, lt, ib, rw, cl, nu)) tn))]) (q0 := 7) C0 G (c_J4_length_8abf5 l D cy (ad := ad) (fr := fr) (bk := bk) (vw := vw) (tk := tk) (to := to) (fk := fk) (fo := fo) (kp := kp) (sp := (rdS tx (0, lt, ib, rw, cl, nu) (rdE (rdOk tx (0, lt, ib, rw, cl, nu)) tn)).1) (lt := (rdS tx (0, lt, ib, rw, cl, nu) (rdE (rdOk tx (0, lt, ib, rw, cl, nu)) tn)).2.1) (ib := (rdS tx (0, lt, ib, rw, cl, nu) (rdE (rdOk tx (0, lt, ib, rw, cl, nu)) tn)).2.2.1) (rw := (rdS tx (0, lt, ib, rw, cl, nu) (rdE (rdOk tx (0, lt, ib, rw, cl, nu)) tn)).2.2.2.1) (cl := (rdS tx (0, lt, ib, rw, cl, nu) (rdE (rdOk tx (0, lt, ib, rw, cl, nu)) tn)).2.2.2.2.1) (nu := (rdS tx (0, lt, ib, rw, cl, nu) (rdE (rdOk tx (0, lt, ib, rw, cl, nu)) tn)).2.2.2.2.2) (tv := tv) (tm := tm) (ta := ta) (ml := ml) (tn := tn) (R := R)  ) k_J4_length_8abf5 ml_X4_212 rfl rfl dX4_run_8 rfl rfl hl.1 (Nat.le_of_ble_eq_true rfl) ⟨Nat.le_of_ble_eq_true rfl, Nat.le_of_ble_eq_true rfl⟩ ⟨Nat.le_of_ble_eq_true rfl, Nat.le_of_ble_eq_true rfl⟩ (fun r W2 H locs hp G => ?_)
  obtain ⟨rfl, hw⟩ := hp
  have G := g_wc hw G
  refine W.eq (g2 := F0 m 11 ls [.int (nI tn), .int (nI (ldN (rdOk tx (0, lt, ib, rw, cl, nu)) tn))]) rfl ?_
  refine lv_icmp_lt (tgt := 24) hx hb dX4_run_11 (by decide) (fun c_11 => ?_) (fun c_11 => ?_)
  · skip
    have c_11 : (ldN (rdOk tx (0, lt, ib, rw, cl, nu)) tn) < tn := (nI_ltI (a := ldN (rdOk tx (0, lt, ib, rw, cl, nu)) tn) (b := tn) (by omega) (by omega)).mp c_11
    exact g_throwS2 (names := ["java/lang/RuntimeException", "java/lang/Exception"]) C0 hst hno G hl.1 (by decide +kernel) (by decide +kernel) tw_iae xl_X4_55 ti_iae ⟨rfl, sr_230⟩ dX4_run_24 dX4_run_27 dX4_run_28 dX4_run_30 dX4_run_33 ⟨(Nat.le_of_ble_eq_true rfl), (Nat.le_of_ble_eq_true rfl)⟩ (Nat.le_of_ble_eq_true rfl) (Nat.le_of_ble_eq_true rfl) ⟨rfl, by first | exact wk_lt0 c_11 | exact wk_nf c_11 c_21, _, _, _, _, _, _, hre, rfl⟩ (Nat.le_of_ble_eq_true rfl) (Nat.le_of_ble_eq_true rfl)
  · skip
    have c_11 : ¬ ((ldN (rdOk tx (0, lt, ib, rw, cl, nu)) tn) < tn) := fun h => c_11 ((nI_ltI (a := ldN (rdOk tx (0, lt, ib, rw, cl, nu)) tn) (b := tn) (by omega) (by omega)).mpr h)
    refine lv_aload_n hx hb dX4_run_14 rfl (lv_at hl 0 rfl) ?_
    refine g_get (q0 := 0) (v := .ref (ad 6)) C0 G in_X4 rfl rfl 4 (by decide) fl_X4_36 (fun _ h => h) rfl dX4_run_15 ?_
    refine g_callVN (As := []) (rest := []) (q0 := 6) C0 G (GE.at (i := 6) rfl (fun R => (c_X2_isPartWhole l D cy (R := R) (h := ad 6) (sp := (rdS tx (0, lt, ib, rw, cl, nu) (rdE (rdOk tx (0, lt, ib, rw, cl, nu)) tn)).1) (lt := (rdS tx (0, lt, ib, rw, cl, nu) (rdE (rdOk tx (0, lt, ib, rw, cl, nu)) tn)).2.1) (ib := (rdS tx (0, lt, ib, rw, cl, nu) (rdE (rdOk tx (0, lt, ib, rw, cl, nu)) tn)).2.2.1) (rw := (rdS tx (0, lt, ib, rw, cl, nu) (rdE (rdOk tx (0, lt, ib, rw, cl, nu)) tn)).2.2.2.1) (cl := (rdS tx (0, lt, ib, rw, cl, nu) (rdE (rdOk tx (0, lt, ib, rw, cl, nu)) tn)).2.2.2.2.1) (nu := (rdS tx (0, lt, ib, rw, cl, nu) (rdE (rdOk tx (0, lt, ib, rw, cl, nu)) tn)).2.2.2.2.2)  (by omega)))) k_X2_isPartWhole nm_X4_227 rfl rfl dX4_run_18 rfl rfl hl.1 (Nat.le_of_ble_eq_true rfl) ⟨Nat.le_of_ble_eq_true rfl, Nat.le_of_ble_eq_true rfl⟩ ⟨Nat.le_of_ble_eq_true rfl, Nat.le_of_ble_eq_true rfl⟩ (fun r W2 H locs hp G => ?_)
    obtain ⟨rfl, hw⟩ := hp
    have G : gW D (wC ad cy fr bk vw tk to fk fo kp ((rdS tx (0, lt, ib, rw, cl, nu) (rdE (rdOk tx (0, lt, ib, rw, cl, nu)) tn)).1) ((rdS tx (0, lt, ib, rw, cl, nu) (rdE (rdOk tx (0, lt, ib, rw, cl, nu)) tn)).2.1) ((rdS tx (0, lt, ib, rw, cl, nu) (rdE (rdOk tx (0, lt, ib, rw, cl, nu)) tn)).2.2.1) ((rdS tx (0, lt, ib, rw, cl, nu) (rdE (rdOk tx (0, lt, ib, rw, cl, nu)) tn)).2.2.2.1) ((rdS tx (0, lt, ib, rw, cl, nu) (rdE (rdOk tx (0, lt, ib, rw, cl, nu)) tn)).2.2.2.2.1) ((rdS tx (0, lt, ib, rw, cl, nu) (rdE (rdOk tx (0, lt, ib, rw, cl, nu)) tn)).2.2.2.2.2) tv tm ta ml tn R) (va_A (wC ad cy fr bk vw tk to fk fo kp sp lt ib rw cl nu tv tm ta ml tn R) s.heap.size) s H locs := g_wc (hw.trans (by rfl)) G
    refine W.eq (g2 := F0 m 21 ls [.int (bI (decide (((rdS tx (0, lt, ib, rw, cl, nu) (rdE (rdOk tx (0, lt, ib, rw, cl, nu)) tn)).1) = 6) || decide (((rdS tx (0, lt, ib, rw, cl, nu) (rdE (rdOk tx (0, lt, ib, rw, cl, nu)) tn)).1) = 8)))]) rfl ?_
    refine lv_if_ne (tgt := 34) hx hb dX4_run_21 (by decide) (fun c_21 => ?_) (fun c_21 => ?_)
    · skip
      have c_21 : (decide (((rdS tx (0, lt, ib, rw, cl, nu) (rdE (rdOk tx (0, lt, ib, rw, cl, nu)) tn)).1) = 6) || decide (((rdS tx (0, lt, ib, rw, cl, nu) (rdE (rdOk tx (0, lt, ib, rw, cl, nu)) tn)).1) = 8)) = true := bI_t c_21
      have hfull : ldN (rdOk tx (0, lt, ib, rw, cl, nu)) tn = tn := by have h8 := ldN_le (rdOk tx (0, lt, ib, rw, cl, nu)) tn; omega
      have hE : rdE (rdOk tx (0, lt, ib, rw, cl, nu)) tn = tn := if_pos hfull
      rw [hE] at G c_21
      have G : gW D (wC ad cy fr bk vw tk to fk fo kp ((rdS tx (0, lt, ib, rw, cl, nu) tn).1) ((rdS tx (0, lt, ib, rw, cl, nu) tn).2.1) ((rdS tx (0, lt, ib, rw, cl, nu) tn).2.2.1) ((rdS tx (0, lt, ib, rw, cl, nu) tn).2.2.2.1) ((rdS tx (0, lt, ib, rw, cl, nu) tn).2.2.2.2.1) ((rdS tx (0, lt, ib, rw, cl, nu) tn).2.2.2.2.2) tv tm ta ml tn R) (va_A (wC ad cy fr bk vw tk to fk fo kp sp lt ib rw cl nu tv tm ta ml tn R) s.heap.size) s _ _ := G
      have hwk := wk_y hfull c_21
      have hrs := rd_ok (fun j hj => (htx j hj).2) hq tn (Nat.le_refl _)
      have hrs1 : rsOk (0, (rdS tx (0, lt, ib, rw, cl, nu) tn).2.1, (rdS tx (0, lt, ib, rw, cl, nu) tn).2.2.1, (rdS tx (0, lt, ib, rw, cl, nu) tn).2.2.2.1, (rdS tx (0, lt, ib, rw, cl, nu) tn).2.2.2.2.1, (rdS tx (0, lt, ib, rw, cl, nu) tn).2.2.2.2.2) := ⟨by show 0 < 9; decide, hrs.2.1, hrs.2.2.1, hrs.2.2.2.1, hrs.2.2.2.2⟩
      refine lv_aload_n hx hb dX4_run_34 rfl (lv_at hl 0 rfl) ?_
      refine g_get (q0 := 0) (v := .ref (ad 4)) C0 G in_X4 rfl rfl 3 (by decide) fl_X4_29 (fun _ h => h) rfl dX4_run_35 ?_
      refine lv_aload_n hx hb dX4_run_38 rfl (lv_at hl 0 rfl) ?_
      refine g_get (q0 := 0) (v := .ref (ad 1)) C0 G in_X4 rfl rfl 0 (by decide) fl_X4_11 (fun _ h => h) rfl dX4_run_39 ?_
      refine g_callVN (As := [.ref (ad 1)]) (rest := []) (q0 := 4) C0 G (c_X1_save l D cy (ad := ad) (fr := fr) (bk := bk) (vw := vw) (tk := tk) (to := to) (fk := fk) (fo := fo) (kp := kp) (sp := (rdS tx (0, lt, ib, rw, cl, nu) tn).1) (lt := (rdS tx (0, lt, ib, rw, cl, nu) tn).2.1) (ib := (rdS tx (0, lt, ib, rw, cl, nu) tn).2.2.1) (rw := (rdS tx (0, lt, ib, rw, cl, nu) tn).2.2.2.1) (cl := (rdS tx (0, lt, ib, rw, cl, nu) tn).2.2.2.2.1) (nu := (rdS tx (0, lt, ib, rw, cl, nu) tn).2.2.2.2.2) (tv := tv) (tm := tm) (ta := ta) (ml := ml) (tn := tn) (R := R)  (by omega)) k_X1_save nm_X4_71 rfl rfl dX4_run_42 rfl rfl hl.1 (Nat.le_of_ble_eq_true rfl) ⟨Nat.le_of_ble_eq_true rfl, Nat.le_of_ble_eq_true rfl⟩ ⟨Nat.le_of_ble_eq_true rfl, Nat.le_of_ble_eq_true rfl⟩ (fun r W2 H locs hp G => ?_)
      obtain ⟨rfl, hw⟩ := hp
      have G := g_wc hw G
      refine W.eq (g2 := F0 m 45 ls []) rfl ?_
      refine lv_aload_n hx hb dX4_run_45 rfl (lv_at hl 0 rfl) ?_
      refine lv_aload_n hx hb dX4_run_46 rfl (lv_at hl 0 rfl) ?_
      refine lv_iconst (v := 0) hx hb dX4_run_47 (by decide) ?_
      refine g_callXV (As := [.int 0]) (rest := [.ref (ad 0)]) (q0 := 0) C0 G (c_X4_cardAt l D cy (ad := ad) (fr := saU fr kp) (bk := saU bk kp) (vw := saU vw kp) (tk := tk) (to := to) (fk := fk) (fo := fo) (kp := saK kp) (sp := (rdS tx (0, lt, ib, rw, cl, nu) tn).1) (lt := (rdS tx (0, lt, ib, rw, cl, nu) tn).2.1) (ib := (rdS tx (0, lt, ib, rw, cl, nu) tn).2.2.1) (rw := (rdS tx (0, lt, ib, rw, cl, nu) tn).2.2.2.1) (cl := (rdS tx (0, lt, ib, rw, cl, nu) tn).2.2.2.2.1) (nu := (rdS tx (0, lt, ib, rw, cl, nu) tn).2.2.2.2.2) (tv := tv) (tm := tm) (ta := ta) (ml := ml) (tn := tn) (R := R) (p0 := (0 : Int32)) hst) k_X4_cardAt ml_X4_47 rfl rfl dX4_run_48 rfl rfl hl.1 (Nat.le_of_ble_eq_true rfl) ⟨Nat.le_of_ble_eq_true rfl, Nat.le_of_ble_eq_true rfl⟩ ⟨Nat.le_of_ble_eq_true rfl, Nat.le_of_ble_eq_true rfl⟩ (fun E ce q9 H locs hx9 G hce hcv hcl => ?_) (fun r W2 H locs hp G => ?_)
      · exact g_out2 C0 G hno (absurd hx9.2 (by decide)) hce hcv hcl (Nat.le_of_ble_eq_true rfl) (Nat.le_of_ble_eq_true rfl)
      obtain ⟨hw, k, hk, hk0, rfl⟩ := hp
      obtain rfl : k = 0 := n0_of hk hk0
      have G := g_wc hw G
      refine W.eq (g2 := F0 m 51 ls [.ref (ad (10 + 0)), .ref (ad 0)]) rfl ?_
      refine g_callV (As := [.ref (ad (10 + 0))]) (rest := []) (q0 := 0) C0 G (c_X4_doParts l D cy (ad := ad) (fr := saU fr kp) (bk := saU bk kp) (vw := saU vw kp) (tk := tk) (to := to) (fk := fk) (fo := fo) (kp := saK kp) (sp := (rdS tx (0, lt, ib, rw, cl, nu) tn).1) (lt := (rdS tx (0, lt, ib, rw, cl, nu) tn).2.1) (ib := (rdS tx (0, lt, ib, rw, cl, nu) tn).2.2.1) (rw := (rdS tx (0, lt, ib, rw, cl, nu) tn).2.2.2.1) (cl := (rdS tx (0, lt, ib, rw, cl, nu) tn).2.2.2.2.1) (nu := (rdS tx (0, lt, ib, rw, cl, nu) tn).2.2.2.2.2) (tv := tv) (tm := tm) (ta := ta) (ml := ml) (tn := tn) (R := R) (k := 0) (tx := tx) (by omega) (by omega) (by omega) htx hrs1 (fun j hj => (re_rdOk (re_0 (q := (0, lt, ib, rw, cl, nu)) (q' := (0, (rdS tx (0, lt, ib, rw, cl, nu) tn).2.1, (rdS tx (0, lt, ib, rw, cl, nu) tn).2.2.1, (rdS tx (0, lt, ib, rw, cl, nu) tn).2.2.2.1, (rdS tx (0, lt, ib, rw, cl, nu) tn).2.2.2.2.1, (rdS tx (0, lt, ib, rw, cl, nu) tn).2.2.2.2.2)) rfl rfl) tx j).symm.trans (ldN_ok hfull j hj)) (fun _ => by have h8 := (re_at (re_0 (q := (0, lt, ib, rw, cl, nu)) (q' := (0, (rdS tx (0, lt, ib, rw, cl, nu) tn).2.1, (rdS tx (0, lt, ib, rw, cl, nu) tn).2.2.1, (rdS tx (0, lt, ib, rw, cl, nu) tn).2.2.2.1, (rdS tx (0, lt, ib, rw, cl, nu) tn).2.2.2.2.1, (rdS tx (0, lt, ib, rw, cl, nu) tn).2.2.2.2.2)) rfl rfl) tx tn).1; rw [← h8]; simpa using c_21)) k_X4_doParts ml_X4_232 rfl rfl dX4_run_51 rfl rfl hl.1 (Nat.le_of_ble_eq_true rfl) ⟨Nat.le_of_ble_eq_true rfl, Nat.le_of_ble_eq_true rfl⟩ ⟨Nat.le_of_ble_eq_true rfl, Nat.le_of_ble_eq_true rfl⟩ (fun r W2 H locs hp G => ?_)
      obtain ⟨rfl, hw⟩ := hp
      have G := g_wc hw G
      refine W.eq (g2 := F0 m 54 ls [.int (nI ((dpS tx (0, ((rdS tx (0, lt, ib, rw, cl, nu) tn).2.1), ((rdS tx (0, lt, ib, rw, cl, nu) tn).2.2.1), ((rdS tx (0, lt, ib, rw, cl, nu) tn).2.2.2.1), ((rdS tx (0, lt, ib, rw, cl, nu) tn).2.2.2.2.1), ((rdS tx (0, lt, ib, rw, cl, nu) tn).2.2.2.2.2)) tn ((saU fr kp) 0) ((saU bk kp) 0) ((saU vw kp) 0) tn).2.2.2.1))]) rfl ?_
      refine lv_istore_n (lv' := [(1, .int (nI ((dpS tx (0, ((rdS tx (0, lt, ib, rw, cl, nu) tn).2.1), ((rdS tx (0, lt, ib, rw, cl, nu) tn).2.2.1), ((rdS tx (0, lt, ib, rw, cl, nu) tn).2.2.2.1), ((rdS tx (0, lt, ib, rw, cl, nu) tn).2.2.2.2.1), ((rdS tx (0, lt, ib, rw, cl, nu) tn).2.2.2.2.2)) tn ((saU fr kp) 0) ((saU bk kp) 0) ((saU vw kp) 0) tn).2.2.2.1))), (0, .ref (ad 0))]) hx hb dX4_run_54 rfl hl (by decide) rfl (fun ls hl => ?_)
      refine lv_aload_n hx hb dX4_run_55 rfl (lv_at hl 1 rfl) ?_
      refine g_get (q0 := 0) (v := .ref (ad 7)) C0 G in_X4 rfl rfl 5 (by decide) fl_X4_43 (fun _ h => h) rfl dX4_run_56 ?_
      refine lv_iconst (v := 0) hx hb dX4_run_59 (by decide) ?_
      refine g_callV (As := [.int 0]) (rest := []) (q0 := 7) C0 G (c_J4_setLength_d00df l D cy (ad := ad) (fr := va_up (saU fr kp) 0 (dpS tx (0, ((rdS tx (0, lt, ib, rw, cl, nu) tn).2.1), ((rdS tx (0, lt, ib, rw, cl, nu) tn).2.2.1), ((rdS tx (0, lt, ib, rw, cl, nu) tn).2.2.2.1), ((rdS tx (0, lt, ib, rw, cl, nu) tn).2.2.2.2.1), ((rdS tx (0, lt, ib, rw, cl, nu) tn).2.2.2.2.2)) tn ((saU fr kp) 0) ((saU bk kp) 0) ((saU vw kp) 0) tn).1) (bk := va_up (saU bk kp) 0 (dpS tx (0, ((rdS tx (0, lt, ib, rw, cl, nu) tn).2.1), ((rdS tx (0, lt, ib, rw, cl, nu) tn).2.2.1), ((rdS tx (0, lt, ib, rw, cl, nu) tn).2.2.2.1), ((rdS tx (0, lt, ib, rw, cl, nu) tn).2.2.2.2.1), ((rdS tx (0, lt, ib, rw, cl, nu) tn).2.2.2.2.2)) tn ((saU fr kp) 0) ((saU bk kp) 0) ((saU vw kp) 0) tn).2.1) (vw := va_up (saU vw kp) 0 (dpS tx (0, ((rdS tx (0, lt, ib, rw, cl, nu) tn).2.1), ((rdS tx (0, lt, ib, rw, cl, nu) tn).2.2.1), ((rdS tx (0, lt, ib, rw, cl, nu) tn).2.2.2.1), ((rdS tx (0, lt, ib, rw, cl, nu) tn).2.2.2.2.1), ((rdS tx (0, lt, ib, rw, cl, nu) tn).2.2.2.2.2)) tn ((saU fr kp) 0) ((saU bk kp) 0) ((saU vw kp) 0) tn).2.2.1) (tk := tk) (to := to) (fk := fk) (fo := fo) (kp := saK kp) (sp := (rdS tx (0, ((rdS tx (0, lt, ib, rw, cl, nu) tn).2.1), ((rdS tx (0, lt, ib, rw, cl, nu) tn).2.2.1), ((rdS tx (0, lt, ib, rw, cl, nu) tn).2.2.2.1), ((rdS tx (0, lt, ib, rw, cl, nu) tn).2.2.2.2.1), ((rdS tx (0, lt, ib, rw, cl, nu) tn).2.2.2.2.2)) ((dpS tx (0, ((rdS tx (0, lt, ib, rw, cl, nu) tn).2.1), ((rdS tx (0, lt, ib, rw, cl, nu) tn).2.2.1), ((rdS tx (0, lt, ib, rw, cl, nu) tn).2.2.2.1), ((rdS tx (0, lt, ib, rw, cl, nu) tn).2.2.2.2.1), ((rdS tx (0, lt, ib, rw, cl, nu) tn).2.2.2.2.2)) tn ((saU fr kp) 0) ((saU bk kp) 0) ((saU vw kp) 0) tn).2.2.2.2.2)).1) (lt := (rdS tx (0, ((rdS tx (0, lt, ib, rw, cl, nu) tn).2.1), ((rdS tx (0, lt, ib, rw, cl, nu) tn).2.2.1), ((rdS tx (0, lt, ib, rw, cl, nu) tn).2.2.2.1), ((rdS tx (0, lt, ib, rw, cl, nu) tn).2.2.2.2.1), ((rdS tx (0, lt, ib, rw, cl, nu) tn).2.2.2.2.2)) ((dpS tx (0, ((rdS tx (0, lt, ib, rw, cl, nu) tn).2.1), ((rdS tx (0, lt, ib, rw, cl, nu) tn).2.2.1), ((rdS tx (0, lt, ib, rw, cl, nu) tn).2.2.2.1), ((rdS tx (0, lt, ib, rw, cl, nu) tn).2.2.2.2.1), ((rdS tx (0, lt, ib, rw, cl, nu) tn).2.2.2.2.2)) tn ((saU fr kp) 0) ((saU bk kp) 0) ((saU vw kp) 0) tn).2.2.2.2.2)).2.1) (ib := (rdS tx (0, ((rdS tx (0, lt, ib, rw, cl, nu) tn).2.1), ((rdS tx (0, lt, ib, rw, cl, nu) tn).2.2.1), ((rdS tx (0, lt, ib, rw, cl, nu) tn).2.2.2.1), ((rdS tx (0, lt, ib, rw, cl, nu) tn).2.2.2.2.1), ((rdS tx (0, lt, ib, rw, cl, nu) tn).2.2.2.2.2)) ((dpS tx (0, ((rdS tx (0, lt, ib, rw, cl, nu) tn).2.1), ((rdS tx (0, lt, ib, rw, cl, nu) tn).2.2.1), ((rdS tx (0, lt, ib, rw, cl, nu) tn).2.2.2.1), ((rdS tx (0, lt, ib, rw, cl, nu) tn).2.2.2.2.1), ((rdS tx (0, lt, ib, rw, cl, nu) tn).2.2.2.2.2)) tn ((saU fr kp) 0) ((saU bk kp) 0) ((saU vw kp) 0) tn).2.2.2.2.2)).2.2.1) (rw := (rdS tx (0, ((rdS tx (0, lt, ib, rw, cl, nu) tn).2.1), ((rdS tx (0, lt, ib, rw, cl, nu) tn).2.2.1), ((rdS tx (0, lt, ib, rw, cl, nu) tn).2.2.2.1), ((rdS tx (0, lt, ib, rw, cl, nu) tn).2.2.2.2.1), ((rdS tx (0, lt, ib, rw, cl, nu) tn).2.2.2.2.2)) ((dpS tx (0, ((rdS tx (0, lt, ib, rw, cl, nu) tn).2.1), ((rdS tx (0, lt, ib, rw, cl, nu) tn).2.2.1), ((rdS tx (0, lt, ib, rw, cl, nu) tn).2.2.2.1), ((rdS tx (0, lt, ib, rw, cl, nu) tn).2.2.2.2.1), ((rdS tx (0, lt, ib, rw, cl, nu) tn).2.2.2.2.2)) tn ((saU fr kp) 0) ((saU bk kp) 0) ((saU vw kp) 0) tn).2.2.2.2.2)).2.2.2.1) (cl := (rdS tx (0, ((rdS tx (0, lt, ib, rw, cl, nu) tn).2.1), ((rdS tx (0, lt, ib, rw, cl, nu) tn).2.2.1), ((rdS tx (0, lt, ib, rw, cl, nu) tn).2.2.2.1), ((rdS tx (0, lt, ib, rw, cl, nu) tn).2.2.2.2.1), ((rdS tx (0, lt, ib, rw, cl, nu) tn).2.2.2.2.2)) ((dpS tx (0, ((rdS tx (0, lt, ib, rw, cl, nu) tn).2.1), ((rdS tx (0, lt, ib, rw, cl, nu) tn).2.2.1), ((rdS tx (0, lt, ib, rw, cl, nu) tn).2.2.2.1), ((rdS tx (0, lt, ib, rw, cl, nu) tn).2.2.2.2.1), ((rdS tx (0, lt, ib, rw, cl, nu) tn).2.2.2.2.2)) tn ((saU fr kp) 0) ((saU bk kp) 0) ((saU vw kp) 0) tn).2.2.2.2.2)).2.2.2.2.1) (nu := (rdS tx (0, ((rdS tx (0, lt, ib, rw, cl, nu) tn).2.1), ((rdS tx (0, lt, ib, rw, cl, nu) tn).2.2.1), ((rdS tx (0, lt, ib, rw, cl, nu) tn).2.2.2.1), ((rdS tx (0, lt, ib, rw, cl, nu) tn).2.2.2.2.1), ((rdS tx (0, lt, ib, rw, cl, nu) tn).2.2.2.2.2)) ((dpS tx (0, ((rdS tx (0, lt, ib, rw, cl, nu) tn).2.1), ((rdS tx (0, lt, ib, rw, cl, nu) tn).2.2.1), ((rdS tx (0, lt, ib, rw, cl, nu) tn).2.2.2.1), ((rdS tx (0, lt, ib, rw, cl, nu) tn).2.2.2.2.1), ((rdS tx (0, lt, ib, rw, cl, nu) tn).2.2.2.2.2)) tn ((saU fr kp) 0) ((saU bk kp) 0) ((saU vw kp) 0) tn).2.2.2.2.2)).2.2.2.2.2) (tv := tv) (tm := tm) (ta := ta) (ml := ml) (tn := tn) (R := R) (a1 := 0) (by omega) (by omega) (by omega)) k_J4_setLength_d00df ml_X4_221 rfl rfl dX4_run_60 rfl rfl hl.1 (Nat.le_of_ble_eq_true rfl) ⟨Nat.le_of_ble_eq_true rfl, Nat.le_of_ble_eq_true rfl⟩ ⟨Nat.le_of_ble_eq_true rfl, Nat.le_of_ble_eq_true rfl⟩ (fun r W2 H locs hp G => ?_)
      obtain ⟨rfl, hw⟩ := hp
      have G := g_wc hw G
      refine W.eq (g2 := F0 m 63 ls []) rfl ?_
      refine lv_iload_n hx hb dX4_run_63 rfl (lv_at hl 0 rfl) ?_
      refine W.widen (k := 4) (n := 24) (Nat.le_of_ble_eq_true rfl) (Nat.le_of_ble_eq_true rfl) ?_
      exact vx_ret (g_iret C0 G (by refine ⟨hwk, (0, (rdS tx (0, lt, ib, rw, cl, nu) tn).2.1, (rdS tx (0, lt, ib, rw, cl, nu) tn).2.2.1, (rdS tx (0, lt, ib, rw, cl, nu) tn).2.2.2.1, (rdS tx (0, lt, ib, rw, cl, nu) tn).2.2.2.2.1, (rdS tx (0, lt, ib, rw, cl, nu) tn).2.2.2.2.2), _, _, _, _, _, _, _, rfl, hrs1, ?_, rfl, rfl⟩; exact rd_ok (fun j hj => (htx j hj).2) hrs1 _ (dp_ix _ _ _ _ _ _ _)) dX4_run_64)
    · skip
      have c_21 : (decide (((rdS tx (0, lt, ib, rw, cl, nu) (rdE (rdOk tx (0, lt, ib, rw, cl, nu)) tn)).1) = 6) || decide (((rdS tx (0, lt, ib, rw, cl, nu) (rdE (rdOk tx (0, lt, ib, rw, cl, nu)) tn)).1) = 8)) = false := bI_f c_21
      exact g_throwS2 (names := ["java/lang/RuntimeException", "java/lang/Exception"]) C0 hst hno G hl.1 (by decide +kernel) (by decide +kernel) tw_iae xl_X4_55 ti_iae ⟨rfl, sr_230⟩ dX4_run_24 dX4_run_27 dX4_run_28 dX4_run_30 dX4_run_33 ⟨(Nat.le_of_ble_eq_true rfl), (Nat.le_of_ble_eq_true rfl)⟩ (Nat.le_of_ble_eq_true rfl) (Nat.le_of_ble_eq_true rfl) ⟨rfl, by first | exact wk_lt0 c_11 | exact wk_nf c_11 c_21, _, _, _, _, _, _, hre, rfl⟩ (Nat.le_of_ble_eq_true rfl) (Nat.le_of_ble_eq_true rfl)
