/-! THE LAW'S LAYER: the cards and the saved states as values; what each call does to them -/
abbrev Cd : Type := Int64 × Int64 × Nat
def tri (fr bk : Nat → Int64) (vw : Nat → Nat) (z : Nat) : Cd := (fr z, bk z, vw z)
def nrm (g : Nat → Cd) (k : Nat) : Cd := if k < 3 then g k else (0, 0, 0)
def Rp (fr bk : Nat → Int64) (vw : Nat → Nat) (kp : Nat) (cs : Nat → Cd) (hs : List (Nat → Cd)) : Prop :=
  hs.length = kp ∧ kp ≤ 6 ∧ cs = nrm (tri fr bk vw) ∧ ∀ (j : Nat) (c : Nat → Cd), hs[j]? = some c → c = nrm (fun k => tri fr bk vw (3 + 3 * (kp - 1 - j) + k))
def ps (cs : Nat → Cd) (hs : List (Nat → Cd)) : List (Nat → Cd) := (cs :: hs).take 6
def Vk (cs : Nat → Cd) : Prop := ∀ k, k < 3 → (cs k).2.2 < 4
section RP
variable {fr bk fr' bk' : Nat → Int64} {vw vw' : Nat → Nat} {kp : Nat} {cs : Nat → Cd} {hs : List (Nat → Cd)}
theorem Rp.at (h : Rp fr bk vw kp cs hs) {k : Nat} (hk : k < 3) : cs k = (fr k, bk k, vw k) := by
  rw [h.2.2.1]; exact if_pos hk
theorem sa_new {α : Type} {g : Nat → α} {kp k : Nat} (hkp : kp ≤ 6) (hk : k < 3) : saU g kp (3 + 3 * (saK kp - 1) + k) = g k := by
  unfold saU saK
  by_cases h : kp < 6
  · rw [if_pos h, if_pos h, svU_at 3 (Nat.le_refl _), if_pos (by omega)]
    exact congrArg g (by omega)
  · rw [if_neg h, if_neg h, svU_at 3 (Nat.le_refl _), if_pos (by omega), dcU_at, if_neg (by omega)]
    exact congrArg g (by omega)
theorem sa_old {α : Type} {g : Nat → α} {kp k j : Nat} (hkp : kp ≤ 6) (hk : k < 3) (hj : j < kp) (hj6 : j + 1 < 6) : saU g kp (3 + 3 * (saK kp - 1 - (j + 1)) + k) = g (3 + 3 * (kp - 1 - j) + k) := by
  unfold saU saK
  by_cases h : kp < 6
  · rw [if_pos h, if_pos h, svU_at 3 (Nat.le_refl _), if_neg (by omega)]
    exact congrArg g (by omega)
  · rw [if_neg h, if_neg h, svU_at 3 (Nat.le_refl _), if_neg (by omega), dcU_at, if_pos (by omega)]
    exact congrArg g (by omega)
theorem nrm_cong {g g' : Nat → Cd} (h : ∀ k, k < 3 → g k = g' k) : nrm g = nrm g' := by
  funext k
  unfold nrm
  by_cases hk : k < 3
  · rw [if_pos hk, if_pos hk, h k hk]
  · rw [if_neg hk, if_neg hk]
theorem Rp.save (h : Rp fr bk vw kp cs hs) : Rp (saU fr kp) (saU bk kp) (saU vw kp) (saK kp) cs (ps cs hs) := by
  obtain ⟨h1, h2, h3, h4⟩ := h
  refine ⟨?_, ?_, ?_, ?_⟩
  · show ((cs :: hs).take 6).length = _
    rw [List.length_take, List.length_cons, h1]
    unfold saK; split <;> omega
  · unfold saK; split <;> omega
  · rw [h3]
    exact nrm_cong (fun k hk => by unfold tri; rw [saU_lo hk, saU_lo hk, saU_lo hk])
  · intro j c hj
    have hj : ((cs :: hs).take 6)[j]? = some c := hj
    rw [List.getElem?_take] at hj
    by_cases hj6 : j < 6
    · rw [if_pos hj6] at hj
      cases j with
      | zero =>
        rw [List.getElem?_cons_zero] at hj
        cases hj
        rw [h3]
        exact nrm_cong (fun k hk => by
          have e := sa_new (g := fr) h2 hk
          have e1 := sa_new (g := bk) h2 hk
          have e2 := sa_new (g := vw) h2 hk
          unfold tri
          rw [show saK kp - 1 - 0 = saK kp - 1 from rfl, e, e1, e2])
      | succ j =>
        rw [List.getElem?_cons_succ] at hj
        have hjk : j < kp := by
          rw [← h1]; exact (List.getElem?_eq_some_iff.mp hj).1
        rw [h4 j c hj]
        exact nrm_cong (fun k hk => by
          unfold tri
          rw [sa_old h2 hk hjk hj6, sa_old h2 hk hjk hj6, sa_old h2 hk hjk hj6])
    · rw [if_neg hj6] at hj; cases hj
theorem Rp.up (h : Rp fr bk vw kp cs hs) {k : Nat} (hk : k < 3) {f b : Int64} {v : Nat} (hf : fr' = va_up fr k f) (hb : bk' = va_up bk k b) (hv : vw' = va_up vw k v) : Rp fr' bk' vw' kp (va_up cs k (f, b, v)) hs := by
  subst hf; subst hb; subst hv
  obtain ⟨h1, h2, h3, h4⟩ := h
  refine ⟨h1, h2, ?_, fun j c hj => ?_⟩
  · rw [h3]
    funext z
    unfold nrm tri va_up
    by_cases e : z = k
    · subst e; simp [hk]
    · simp [e]
  · rw [h4 j c hj]
    exact nrm_cong (fun z hz => by
      unfold tri
      rw [va_up_n _ _ (by omega), va_up_n _ _ (by omega), va_up_n _ _ (by omega)])
theorem Rp.undo {c : Nat → Cd} (h : Rp fr bk vw kp cs (c :: hs)) : Rp (if 0 < kp then rsU fr ((kp - 1) * 3) 3 else fr) (if 0 < kp then rsU bk ((kp - 1) * 3) 3 else bk) (if 0 < kp then rsU vw ((kp - 1) * 3) 3 else vw) (kp - 1) c hs := by
  obtain ⟨h1, h2, h3, h4⟩ := h
  rw [List.length_cons] at h1
  have h0 : 0 < kp := by omega
  rw [if_pos h0, if_pos h0, if_pos h0]
  refine ⟨by omega, by omega, ?_, fun j c' hj => ?_⟩
  · rw [h4 0 c rfl]
    exact nrm_cong (fun k hk => by
      unfold tri
      rw [rsU_at 3 (Nat.le_refl _), if_pos hk, rsU_at 3 (Nat.le_refl _), if_pos hk, rsU_at 3 (Nat.le_refl _), if_pos hk, show 3 + 3 * (kp - 1 - 0) + k = 3 + ((kp - 1) * 3 + k) by omega])
  · have hjl : j < hs.length := (List.getElem?_eq_some_iff.mp hj).1
    rw [h4 (j + 1) c' (by rw [List.getElem?_cons_succ]; exact hj)]
    exact nrm_cong (fun k hk => by
      unfold tri
      rw [rsU_at 3 (Nat.le_refl _), if_neg (by omega), rsU_at 3 (Nat.le_refl _), if_neg (by omega), rsU_at 3 (Nat.le_refl _), if_neg (by omega), show kp - 1 - (j + 1) = kp - 1 - 1 - j by omega])
theorem ps_len (cs : Nat → Cd) {hs : List (Nat → Cd)} (h : hs.length ≤ 6) : (ps cs hs).length = if hs.length < 6 then hs.length + 1 else 6 := by
  show ((cs :: hs).take 6).length = _
  rw [List.length_take, List.length_cons]
  split <;> omega
theorem ps_1 (a : Nat → Cd) (hs : List (Nat → Cd)) : ps a hs = a :: hs.take 5 := rfl
theorem ps_3 (a b c : Nat → Cd) (hs : List (Nat → Cd)) : ps c (ps b (ps a hs)) = c :: b :: a :: hs.take 3 := by
  simp [ps, List.take_take]
theorem ps_4 (a b c d : Nat → Cd) (hs : List (Nat → Cd)) : ps d (ps c (ps b (ps a hs))) = d :: c :: b :: a :: hs.take 2 := by
  simp [ps, List.take_take]
end RP
def wL (ad : Nat → Nat) (cy : Nat → ClassId) (tv : Nat) (fr bk : Nat → Int64) (vw : Nat → Nat) (kp : Nat) (tk to fk fo : Int64) : va_W := wC ad cy fr bk vw tk to fk fo kp 0 0 false 0 0 0 tv 16 (fun _ => 0) 0 0 []
/-- the world of the law's one object, here -/
def gL (D : va_G) (cy : Nat → ClassId) (ad : Nat → Nat) (tv : Nat) (cs : Nat → Cd) (hs : List (Nat → Cd)) (A : Nat → Prop) (s : State) (H : Heap) (locs : List Loc) : Prop :=
  ∃ (fr bk : Nat → Int64) (vw : Nat → Nat) (kp : Nat) (tk to fk fo : Int64), Rp fr bk vw kp cs hs ∧ gW D (wL ad cy tv fr bk vw kp tk to fk fo) A s H locs
def lP (cy : Nat → ClassId) (ad : Nat → Nat) (tv : Nat) (r : Value) (cs : Nat → Cd) (hs : List (Nat → Cd)) : Option Value → va_W → Prop := fun r' W2 =>
  r' = some r ∧ ∃ (fr bk : Nat → Int64) (vw : Nat → Nat) (kp : Nat) (tk to fk fo : Int64), Rp fr bk vw kp cs hs ∧ W2 = wL ad cy tv fr bk vw kp tk to fk fo
/-- a contract of the law's: cards cs and saved states hs before, cs' and hs' behind, the answer r -/
def GL (l : Launch) (D : va_G) (cy : Nat → ClassId) (ad : Nat → Nat) (tv : Nat) (y : MethodName) (cc : ByteArray) (maxL : Nat) (ret : Option FieldType) (L : Nat) (av : List Value) (cs : Nat → Cd) (hs : List (Nat → Cd)) (r : Value) (cs' : Nat → Cd) (hs' : List (Nat → Cd)) : Prop :=
  ∀ (fr bk : Nat → Int64) (vw : Nat → Nat) (kp : Nat) (tk to fk fo : Int64), Rp fr bk vw kp cs hs → GE l D (gts cy) y cc maxL ret L 0 0 av (wL ad cy tv fr bk vw kp tk to fk fo) (lP cy ad tv r cs' hs')
section LW
variable {p : Program} {l : Launch} {e : Env} {R : Room} {s : State} {m : MethodId} {args : Array Value} {below : List Frame} {meth : Method} {c : Code} {H : Heap} {locs : List Loc} {cells slots : Nat} {Q : State → Prop}
variable {cc : ByteArray} {nL : Nat} {ret : Option FieldType} {own : String} {D : va_G} {cy : Nat → ClassId} {ad : Nat → Nat} {tv : Nat} {A : Nat → Prop} {pc : Nat} {ls : Array Slot} {rest st0 : List Value} {cs cs' : Nat → Cd} {hs hs' : List (Nat → Cd)}
variable {y : MethodName} {bytes : ByteArray} {maxL L n index : Nat} {rt : Option FieldType} {As : List Value} {r : Value}
theorem l_eq (hc : cs = cs') (hh : hs = hs') (G : gL D cy ad tv cs hs A s H locs) : gL D cy ad tv cs' hs' A s H locs := hc ▸ hh ▸ G
theorem l_len (G : gL D cy ad tv cs hs A s H locs) : hs.length ≤ 6 := by
  obtain ⟨fr, bk, vw, kp, tk, to, fk, fo, h, -⟩ := G
  have h1 := h.1
  have h2 := h.2.1
  omega
theorem l_callV (C0 : gC p s m args meth c cc nL ret own D (gts cy) A) (G : gL D cy ad tv cs hs A s H locs) (hM : GL l D cy ad tv y bytes maxL rt L (.ref (ad 0) :: As) cs hs r cs' hs') (hk : gKV RX4 y bytes maxL rt n) (hl : Cond.methodLink own index y ∈ gTs)
    (hdg : decode cc pc = .ok (.invokevirtual index, 3)) (hst : st0 = As.reverse ++ .ref (ad 0) :: rest) (hn : As.length = n) (hsz : ls.size = nL) (hcat : (rest.map fun v => v.category).sum ≤ 8)
    (hR : 2 + L + 1 ≤ R.frames ∧ 8 + (maxL + 11) + (100 + 40 * L) ≤ R.locals) (hf : cells ≤ R.cells ∧ slots ≤ R.slots)
    (kk : ∀ (H1 : Heap) (locs1 : List Loc), gL D cy ad tv cs' hs' A s H1 locs1 → W p l e R s m args below meth c H1 locs1 cells slots Q (F0 m (pc + 3) ls (r :: rest))) : W p l e R s m args below meth c H locs cells slots Q (F0 m pc ls st0) := by
  obtain ⟨fr, bk, vw, kp, tk, to, fk, fo, hR0, G⟩ := G
  refine g_callV (q0 := 0) C0 G (hM fr bk vw kp tk to fk fo hR0) hk hl rfl rfl hdg hst hn hsz hcat hR hf (fun r' W2 H1 locs1 hp G1 => ?_)
  obtain ⟨rfl, fr', bk', vw', kp', tk', to', fk', fo', hR1, rfl⟩ := hp
  exact kk H1 locs1 ⟨fr', bk', vw', kp', tk', to', fk', fo', hR1, G1⟩
theorem l_callS (C0 : gC p s m args meth c cc nL ret own D (gts cy) A) (G : gL D cy ad tv cs hs A s H locs) (hM : GL l D cy ad tv y bytes maxL rt L As cs hs r cs' hs') (hk : gKS y bytes maxL rt n) (hl : Cond.methodLink own index y ∈ gTs)
    (hdg : decode cc pc = .ok (.invokestatic index, 3)) (hst : st0 = As.reverse ++ rest) (hn : As.length = n) (hsz : ls.size = nL) (hcat : (rest.map fun v => v.category).sum ≤ 8)
    (hR : 2 + L + 1 ≤ R.frames ∧ 8 + (maxL + 11) + (100 + 40 * L) ≤ R.locals) (hf : cells ≤ R.cells ∧ slots ≤ R.slots)
    (kk : ∀ (H1 : Heap) (locs1 : List Loc), gL D cy ad tv cs' hs' A s H1 locs1 → W p l e R s m args below meth c H1 locs1 cells slots Q (F0 m (pc + 3) ls (r :: rest))) : W p l e R s m args below meth c H locs cells slots Q (F0 m pc ls st0) := by
  obtain ⟨fr, bk, vw, kp, tk, to, fk, fo, hR0, G⟩ := G
  refine g_callS C0 G (hM fr bk vw kp tk to fk fo hR0) hk hl hdg hst hn hsz hcat hR hf (fun r' W2 H1 locs1 hp G1 => ?_)
  obtain ⟨rfl, fr', bk', vw', kp', tk', to', fk', fo', hR1, rfl⟩ := hp
  exact kk H1 locs1 ⟨fr', bk', vw', kp', tk', to', fk', fo', hR1, G1⟩
theorem l_iret {v : Int32} (C0 : gC p s m args meth c cc nL (some .int) own D (gts cy) A) (G : gL D cy ad tv cs hs A s H locs) (hdg : decode cc pc = .ok (.ireturn, 1)) : W p l e R s m args below meth c H locs cells slots (MQ below (gQ D (lP cy ad tv (.int v) cs hs) A) args s cells slots A) (F0 m pc ls [.int v]) := by
  obtain ⟨fr, bk, vw, kp, tk, to, fk, fo, hR0, G⟩ := G
  exact g_iret C0 G ⟨rfl, fr, bk, vw, kp, tk, to, fk, fo, hR0, rfl⟩ hdg
theorem l_zret {v : Int32} (C0 : gC p s m args meth c cc nL (some .boolean) own D (gts cy) A) (G : gL D cy ad tv cs hs A s H locs) (hz : narrow .boolean (.int v) = .int v) (hdg : decode cc pc = .ok (.ireturn, 1)) : W p l e R s m args below meth c H locs cells slots (MQ below (gQ D (lP cy ad tv (.int v) cs hs) A) args s cells slots A) (F0 m pc ls [.int v]) := by
  obtain ⟨fr, bk, vw, kp, tk, to, fk, fo, hR0, G⟩ := G
  exact g_zret C0 G hz ⟨rfl, fr, bk, vw, kp, tk, to, fk, fo, hR0, rfl⟩ hdg
theorem l_lret {v : Int64} (C0 : gC p s m args meth c cc nL (some .long) own D (gts cy) A) (G : gL D cy ad tv cs hs A s H locs) (hdg : decode cc pc = .ok (.lreturn, 1)) : W p l e R s m args below meth c H locs cells slots (MQ below (gQ D (lP cy ad tv (.long v) cs hs) A) args s cells slots A) (F0 m pc ls [.long v]) := by
  obtain ⟨fr, bk, vw, kp, tk, to, fk, fo, hR0, G⟩ := G
  exact g_lret C0 G ⟨rfl, fr, bk, vw, kp, tk, to, fk, fo, hR0, rfl⟩ hdg
theorem l_loop {σ : Type} (μ : σ → Nat) (lvf : σ → List (Nat × Value)) (I : σ → Prop)
    (step : ∀ x, I x → (∀ x', I x' → μ x' < μ x → ∀ (H : Heap) (locs : List Loc) (ls : Array Slot), gL D cy ad tv cs hs A s H locs → lv_has ls nL (lvf x') → W p l e R s m args below meth c H locs cells slots Q (F0 m pc ls [])) → ∀ (H : Heap) (locs : List Loc) (ls : Array Slot), gL D cy ad tv cs hs A s H locs → lv_has ls nL (lvf x) → W p l e R s m args below meth c H locs cells slots Q (F0 m pc ls []))
    (x0 : σ) (h0 : I x0) (G : gL D cy ad tv cs hs A s H locs) (hl : lv_has ls nL (lvf x0)) : W p l e R s m args below meth c H locs cells slots Q (F0 m pc ls []) := by
  have key : ∀ n x, μ x < n → I x → ∀ (H : Heap) (locs : List Loc) (ls : Array Slot), gL D cy ad tv cs hs A s H locs → lv_has ls nL (lvf x) → W p l e R s m args below meth c H locs cells slots Q (F0 m pc ls []) := by
    intro n
    induction n with
    | zero => intro x h; exact absurd h (Nat.not_lt_zero _)
    | succ n ih => intro x h hx; exact step x hx (fun x' hx' hm => ih x' (by omega) hx')
  exact key (μ x0 + 1) x0 (Nat.lt_succ_self _) h0 H locs ls G hl
theorem l_intro {lv : List (Nat × Value)} {av : List Value} (hy : plainName y.cls = true) (hlv : lv_args 0 av = lv) (hlen : (lg_sl av).length ≤ maxL)
    (body : ∀ (p : Program) (e : Env) (s : State) (m : MethodId) (below : List Frame) (meth : Method) (c : Code) (A : Nat → Prop), gC p s m av.toArray meth c bytes maxL rt y.cls D (gts cy) A → gL D cy ad tv cs hs A s s.heap [] → ∀ ls : Array Slot, lv_has ls maxL lv →
      W p l e (gR L 0 0) s m av.toArray below meth c s.heap [] 0 0 (MQ below (gQ D (lP cy ad tv r cs' hs') A) av.toArray s 0 0 A) (F0 m 0 ls [])) : GL l D cy ad tv y bytes maxL rt L av cs hs r cs' hs' := by
  intro fr bk vw kp tk to fk fo hR0
  exact g_intro hy hlv hlen (fun p e s m below meth c C0 G ls hl => body p e s m below meth c _ C0 ⟨fr, bk, vw, kp, tk, to, fk, fo, hR0, G⟩ ls hl)
theorem GL.pure {av : List Value} (h : ∀ W1 : va_W, GE l D (gts cy) y bytes maxL rt L 0 0 av W1 (gF (some r) W1)) : GL l D cy ad tv y bytes maxL rt L av cs hs r cs hs := by
  intro fr bk vw kp tk to fk fo hR0
  exact (h _).weak (fun r' W2 h2 => ⟨h2.1, fr, bk, vw, kp, tk, to, fk, fo, hR0, h2.2⟩)
end LW
