/-! catching; the two arrays behind the class's world; the two worlds in either order -/
theorem wC_o0 {ad : Nat → Nat} {cy : Nat → ClassId} {fr bk : Nat → Int64} {vw : Nat → Nat} {tk to fk fo : Int64} {kp sp lt : Nat} {ib : Bool} {rw cl nu tv tm : Nat} {ta : Nat → Int32} {ml : Int32} {tn : Nat} {R : va_W} {q : Nat × va_E} : (wC ad cy fr bk vw tk to fk fo kp sp lt ib rw cl nu tv tm ta ml tn (q :: R))[30]? = some q := by
  show (wK ad fr bk vw ++ (q :: R))[21]? = some q
  rw [List.getElem?_append_right (by rw [wK_len]; decide), wK_len]; rfl
theorem wC_o1 {ad : Nat → Nat} {cy : Nat → ClassId} {fr bk : Nat → Int64} {vw : Nat → Nat} {tk to fk fo : Int64} {kp sp lt : Nat} {ib : Bool} {rw cl nu tv tm : Nat} {ta : Nat → Int32} {ml : Int32} {tn : Nat} {R : va_W} {q q1 : Nat × va_E} : (wC ad cy fr bk vw tk to fk fo kp sp lt ib rw cl nu tv tm ta ml tn (q1 :: q :: R))[31]? = some q := by
  show (wK ad fr bk vw ++ (q1 :: q :: R))[22]? = some q
  rw [List.getElem?_append_right (by rw [wK_len]; decide), wK_len]; rfl
theorem wC_s0 {ad : Nat → Nat} {cy : Nat → ClassId} {fr bk : Nat → Int64} {vw : Nat → Nat} {tk to fk fo : Int64} {kp sp lt : Nat} {ib : Bool} {rw cl nu tv tm : Nat} {ta : Nat → Int32} {ml : Int32} {tn : Nat} {R : va_W} {q q' : Nat × va_E} : (wC ad cy fr bk vw tk to fk fo kp sp lt ib rw cl nu tv tm ta ml tn (q :: R)).set 30 q' = wC ad cy fr bk vw tk to fk fo kp sp lt ib rw cl nu tv tm ta ml tn (q' :: R) := by
  show _ :: _ :: _ :: _ :: _ :: _ :: _ :: _ :: _ :: ((wK ad fr bk vw ++ (q :: R)).set 21 q') = _
  rw [List.set_append_right _ _ (by rw [wK_len]; decide), wK_len]; rfl
theorem wC_s1 {ad : Nat → Nat} {cy : Nat → ClassId} {fr bk : Nat → Int64} {vw : Nat → Nat} {tk to fk fo : Int64} {kp sp lt : Nat} {ib : Bool} {rw cl nu tv tm : Nat} {ta : Nat → Int32} {ml : Int32} {tn : Nat} {R : va_W} {q q' q1 : Nat × va_E} : (wC ad cy fr bk vw tk to fk fo kp sp lt ib rw cl nu tv tm ta ml tn (q1 :: q :: R)).set 31 q' = wC ad cy fr bk vw tk to fk fo kp sp lt ib rw cl nu tv tm ta ml tn (q1 :: q' :: R) := by
  show _ :: _ :: _ :: _ :: _ :: _ :: _ :: _ :: _ :: ((wK ad fr bk vw ++ (q1 :: q :: R)).set 22 q') = _
  rw [List.set_append_right _ _ (by rw [wK_len]; decide), wK_len]; rfl
theorem g_permW {D : va_G} {W V : va_W} {A : Nat → Prop} {s : State} {H : Heap} {locs : List Loc} (hp : W.Perm V) (G : gW D W A s H locs) : gW D V A s H locs := ⟨gP_perm hp G.1, gD_perm hp G.2.1, G.2.2⟩
theorem pm_sw {α : Type} (X O M : List α) : (X ++ (O ++ M)).Perm (M ++ (O ++ X)) := by
  refine List.perm_append_comm.trans ?_
  rw [List.append_assoc]
  exact (List.perm_append_comm (l₁ := O) (l₂ := M ++ X)).trans (by rw [List.append_assoc]; exact List.Perm.append_left M List.perm_append_comm)
section SW
variable {ad : Nat → Nat} {cy : Nat → ClassId} {fr bk : Nat → Int64} {vw : Nat → Nat} {tk to fk fo : Int64} {kp sp lt : Nat} {ib : Bool} {rw cl nu tv tm : Nat} {ta : Nat → Int32} {ml : Int32} {tn : Nat}
variable {am : Nat → Nat} {th : Int32} {S : Nat → Int32} {sv : Nat} {X : Nat → Int32} {ln ap le fc : Nat} {f1 f2 : Int32} {B : Nat → Int32} {ha : Int64}
variable {D : va_G} {A : Nat → Prop} {s : State} {H : Heap} {locs : List Loc} {o1 o2 : Nat × va_E}
theorem wC_tail {R : va_W} : wC ad cy fr bk vw tk to fk fo kp sp lt ib rw cl nu tv tm ta ml tn R = wC ad cy fr bk vw tk to fk fo kp sp lt ib rw cl nu tv tm ta ml tn [] ++ R := by
  show _ :: _ :: _ :: _ :: _ :: _ :: _ :: _ :: _ :: (wK ad fr bk vw ++ R) = _ :: _ :: _ :: _ :: _ :: _ :: _ :: _ :: _ :: ((wK ad fr bk vw ++ []) ++ R)
  rw [List.append_nil]
theorem wM_tail {R : va_W} : wM am cy th S sv X ln ap le fc f1 f2 B ha R = wM am cy th S sv X ln ap le fc f1 f2 B ha [] ++ R := rfl
theorem g_swCM (G : gW D (wC ad cy fr bk vw tk to fk fo kp sp lt ib rw cl nu tv tm ta ml tn (o1 :: o2 :: wM am cy th S sv X ln ap le fc f1 f2 B ha [])) A s H locs) : gW D (wM am cy th S sv X ln ap le fc f1 f2 B ha (o1 :: o2 :: wC ad cy fr bk vw tk to fk fo kp sp lt ib rw cl nu tv tm ta ml tn [])) A s H locs := by
  refine g_permW ?_ G
  rw [wC_tail (R := o1 :: o2 :: _)]
  exact pm_sw (wC ad cy fr bk vw tk to fk fo kp sp lt ib rw cl nu tv tm ta ml tn []) [o1, o2] (wM am cy th S sv X ln ap le fc f1 f2 B ha [])
theorem g_swMC (G : gW D (wM am cy th S sv X ln ap le fc f1 f2 B ha (o1 :: o2 :: wC ad cy fr bk vw tk to fk fo kp sp lt ib rw cl nu tv tm ta ml tn [])) A s H locs) : gW D (wC ad cy fr bk vw tk to fk fo kp sp lt ib rw cl nu tv tm ta ml tn (o1 :: o2 :: wM am cy th S sv X ln ap le fc f1 f2 B ha [])) A s H locs := by
  refine g_permW ?_ G
  rw [wC_tail (R := o1 :: o2 :: _)]
  exact pm_sw (wM am cy th S sv X ln ap le fc f1 f2 B ha []) [o1, o2] (wC ad cy fr bk vw tk to fk fo kp sp lt ib rw cl nu tv tm ta ml tn [])
end SW
section GCA
variable {p : Program} {l : Launch} {e : Env} {R : Room} {s : State} {m : MethodId} {args : Array Value} {below : List Frame} {meth : Method} {c : Code} {H : Heap} {locs : List Loc} {cells slots : Nat} {Q : State → Prop}
variable {cc : ByteArray} {nL : Nat} {ret : Option FieldType} {own : String} {D : va_G} {ts : gY} {A : Nat → Prop} {W1 W2 : va_W} {pc : Nat} {ls : Array Slot} {rest st0 : List Value} {q0 n a : Nat} {cA : ClassId}
theorem g_catch {hh hp0 hs0 : List (Nat × Nat × Nat × Nat)} {x : Nat × Nat × Nat × Nat} {name E : String} {ce : Cell} {q : Nat} (C0 : gC p s m args meth c cc nL ret own D ts A) (hex : c.exceptionTable.toList = tableOf hh) (hsp : hh = hp0 ++ x :: hs0)
    (hpass : ∀ z ∈ hp0, z.2.2.2 ≠ 0 ∧ ∃ nm : String, Cond.classLink own z.2.2.2 nm ∈ gTs ∧ (E, nm) ∈ gNc) (hx : covers ⟨x.1, x.2.1, x.2.2.1, x.2.2.2⟩ pc = true) (h0 : x.2.2.2 ≠ 0) (hlink : Cond.classLink own x.2.2.2 name ∈ gTs) (hcast : Cond.castable E name ∈ gN)
    (hce : H[q]? = some ce) (hcv : ce.vm = .none) (hcl : s.vm.findClass E = some ce.cls) (kk : W p l e R s m args below meth c H locs cells slots Q (F0 m x.2.2.1 ls [.ref q])) : vx_W p l e R s m args below meth c H locs cells slots Q (F0 m pc ls rest) q := by
  obtain ⟨-, -, -, -, -, hown, hts, -, hT, -, -⟩ := id C0
  subst hsp
  refine vx_catch (own := own) (name := name) hown (tableOf hp0) ⟨x.1, x.2.1, x.2.2.1, x.2.2.2⟩ (tableOf hs0) (by rw [hex]; unfold tableOf; rw [List.map_append]; rfl) ?_ hx h0 (hts _ hlink) (hT.word hcast) hce hcv hcl kk
  intro z hz
  obtain ⟨w, hw, rfl⟩ := List.mem_map.mp hz
  obtain ⟨b1, nm, b2, b3⟩ := hpass w hw
  exact Or.inr ⟨b1, nm, hts _ b2, hT.2.1 _ b3⟩
theorem g_dast {f : Nat → UInt64} {i : Int32} {x : UInt64} (C0 : gC p s m args meth c cc nL ret own D ts A) (G : gW D W1 A s H locs) (ha : W1[q0]? = some (a, .inl (cA, n, .inr (.inr (.inr (.inl f)))))) (t0 : Nat) (ht : ts[t0]? = some (cA, .double)) (hin : vp_in i n) (hw : W1.set q0 (a, .inl (cA, n, .inr (.inr (.inr (.inl (vf_upd f i.toNatClampNeg x)))))) = W2) (hdg : decode cc pc = .ok (.dastore, 1))
    (kk : ∀ (H1 : Heap) (locs1 : List Loc), gW D W2 A s H1 locs1 → W p l e R s m args below meth c H1 locs1 cells slots Q (F0 m (pc + 1) ls rest)) : W p l e R s m args below meth c H locs cells slots Q (F0 m pc ls (.double x :: .int i :: .ref a :: rest)) := by
  obtain ⟨hx, hb, hml, hr, hlk, hown, hts, hK, hT, hS, hA⟩ := id C0
  subst hw
  exact va_dast hx hb hK G.1 G.2.1 G.2.2 q0 t0 ha ht hin hdg (fun H1 locs1 h1 h2 h3 => kk H1 locs1 ⟨h1, h2, h3⟩)
theorem g_dald {f : Nat → UInt64} {i : Int32} (C0 : gC p s m args meth c cc nL ret own D ts A) (G : gW D W1 A s H locs) (ha : W1[q0]? = some (a, .inl (cA, n, .inr (.inr (.inr (.inl f)))))) (t0 : Nat) (ht : ts[t0]? = some (cA, .double)) (hin : vp_in i n) (hdg : decode cc pc = .ok (.daload, 1))
    (kk : W p l e R s m args below meth c H locs cells slots Q (F0 m (pc + 1) ls (.double (f i.toNatClampNeg) :: rest))) : W p l e R s m args below meth c H locs cells slots Q (F0 m pc ls (.int i :: .ref a :: rest)) := by
  obtain ⟨hx, hb, hml, hr, hlk, hown, hts, hK, hT, hS, hA⟩ := id C0
  exact va_dald hx hb hK G.1 q0 t0 ha ht hin hdg kk
end GCA
def bL (b : Bool) : Int64 := if b then 1 else 0
set_option maxHeartbeats 4000000 in
set_option maxRecDepth 100000 in
theorem c_L_punch (l : Launch) (D : va_G) (cy : Nat → ClassId) (ad : Nat → Nat) (fr : Nat → Int64) (bk : Nat → Int64) (vw : Nat → Nat) (tk : Int64) (to : Int64) (fk : Int64) (fo : Int64) (kp : Nat) (sp : Nat) (lt : Nat) (ib : Bool) (rw : Nat) (cl : Nat) (nu : Nat) (tv : Nat) (tm : Nat) (ta : Nat → Int32) (ml : Int32) (tn : Nat) (R : va_W) (ou od : Nat) (og : Nat → Int64) (oh : Nat → UInt64) (p0 : Int32) (p1 : Int32) (p2 : Int32) (hst : l.stackTraces = false) (hkp : kp ≤ 6) : GH l D (gts cy) yL_punch cL_punch 6 (some .int) [((0 : Nat), (12 : Nat), (15 : Nat), (13 : Nat)), ((0 : Nat), (12 : Nat), (19 : Nat), (15 : Nat)), ((0 : Nat), (12 : Nat), (23 : Nat), (17 : Nat))] 4 4 24 [.ref (ad 0), .int p0, .int p1, .int p2, .ref ou] (wC ad cy fr bk vw tk to fk fo kp sp lt ib rw cl nu tv tm ta ml tn ((ou, .inl (cy 2, 1, .inr (.inl og))) :: (od, .inl (cy 3, 1, .inr (.inr (.inr (.inl oh))))) :: R)) (fun r W2 => (∃ k : Nat, k < 3 ∧ p0 = nI k ∧ ∃ row : Nat, row < 7 ∧ p1 = nI row ∧ ∃ u : Nat, u < 128 ∧ p2 = nI u ∧ cpB (fr k) (bk k) row = true ∧ r = some (.int 0) ∧ W2 = wC ad cy (va_up (saU fr kp) k (pwF ((saU fr kp) k) row u)) (va_up (saU bk kp) k (pwB ((saU bk kp) k) row u)) (saU vw kp) tk to fk fo (saK kp) sp lt ib rw cl nu tv tm ta ml tn ((ou, .inl (cy 2, 1, .inr (.inl (vp_updL og 0 ((nI (pc7 u % 2))).toInt64)))) :: (od, .inl (cy 3, 1, .inr (.inr (.inr (.inl oh))))) :: R)) ∨ (r = some (.int 1) ∧ W2 = wC ad cy fr bk vw tk to fk fo kp sp lt ib rw cl nu tv tm ta ml tn ((ou, .inl (cy 2, 1, .inr (.inl og))) :: (od, .inl (cy 3, 1, .inr (.inr (.inr (.inl oh))))) :: R) ∧ ((ir p0 3 && ir p1 7) = false)) ∨ (r = some (.int 2) ∧ W2 = wC ad cy fr bk vw tk to fk fo kp sp lt ib rw cl nu tv tm ta ml tn ((ou, .inl (cy 2, 1, .inr (.inl og))) :: (od, .inl (cy 3, 1, .inr (.inr (.inr (.inl oh))))) :: R) ∧ (ir p0 3 = true ∧ ir p1 7 = true ∧ ir p2 128 = false)) ∨ (r = some (.int 3) ∧ W2 = wC ad cy fr bk vw tk to fk fo kp sp lt ib rw cl nu tv tm ta ml tn ((ou, .inl (cy 2, 1, .inr (.inl og))) :: (od, .inl (cy 3, 1, .inr (.inr (.inr (.inl oh))))) :: R) ∧ (∃ k : Nat, k < 3 ∧ p0 = nI k ∧ ∃ row : Nat, row < 7 ∧ p1 = nI row ∧ ir p2 128 = true ∧ cpB (fr k) (bk k) row = false))) := by
  refine g_introH (by decide +kernel) (lv := [(0, .ref (ad 0)), (1, .int p0), (2, .int p1), (3, .int p2), (4, .ref ou)]) rfl (Nat.le_of_ble_eq_true rfl) ?_
  intro p e s m below meth c C0 hex G ls hl
  have hx := C0.1
  have hb := C0.2.1
  have hown := C0.2.2.2.2.2.1
  have hts := C0.2.2.2.2.2.2.1
  refine lv_aload hx hb dL_punch_0 (lv_at hl 4 rfl) ?_
  refine lv_iconst (v := 0) hx hb dL_punch_2 (by decide) ?_
  refine g_topi (x' := nI 0) rfl ?_
  refine lv_aload_n hx hb dL_punch_3 rfl (lv_at hl 0 rfl) ?_
  refine lv_iload_n hx hb dL_punch_4 rfl (lv_at hl 1 rfl) ?_
  refine lv_iload_n hx hb dL_punch_5 rfl (lv_at hl 2 rfl) ?_
  refine lv_iload_n hx hb dL_punch_6 rfl (lv_at hl 3 rfl) ?_
  refine g_callXV (As := [.int p0, .int p1, .int p2]) (rest := [.int (nI 0), .ref ou]) (q0 := 0) C0 G (c_X4_punch l D cy (ad := ad) (fr := fr) (bk := bk) (vw := vw) (tk := tk) (to := to) (fk := fk) (fo := fo) (kp := kp) (sp := sp) (lt := lt) (ib := ib) (rw := rw) (cl := cl) (nu := nu) (tv := tv) (tm := tm) (ta := ta) (ml := ml) (tn := tn) (R := ((ou, .inl (cy 2, 1, .inr (.inl og))) :: (od, .inl (cy 3, 1, .inr (.inr (.inr (.inl oh))))) :: R)) (p0 := p0) (p1 := p1) (p2 := p2) hst hkp) k_X4_punch ml_L_7 rfl rfl dL_punch_7 rfl rfl hl.1 (Nat.le_of_ble_eq_true rfl) ⟨Nat.le_of_ble_eq_true rfl, Nat.le_of_ble_eq_true rfl⟩ ⟨Nat.le_of_ble_eq_true rfl, Nat.le_of_ble_eq_true rfl⟩ (fun E ce q9 H locs hx9 G hce hcv hcl => ?_) (fun r W2 H locs hp G => ?_)
  · rcases hx9 with ⟨rfl, hx9⟩ | ⟨rfl, hx9⟩ | ⟨rfl, hx9⟩
    · skip
      refine g_catch (name := "java/lang/IndexOutOfBoundsException") (hp0 := []) (x := ((0 : Nat), (12 : Nat), (15 : Nat), (13 : Nat))) (hs0 := [((0 : Nat), (12 : Nat), (19 : Nat), (15 : Nat)), ((0 : Nat), (12 : Nat), (23 : Nat), (17 : Nat))]) C0 hex rfl (List.forall_mem_nil _) (by decide +kernel) (by decide) xl_L_13 ca_50 hce hcv hcl ?_
      refine lv_astore (lv' := [(5, .ref q9), (0, .ref (ad 0)), (1, .int p0), (2, .int p1), (3, .int p2), (4, .ref ou)]) hx hb dL_punch_15 hl (by decide) rfl (fun ls hl => ?_)
      refine lv_iconst (v := 1) hx hb dL_punch_17 (by decide) ?_
      exact g_iret C0 G (Or.inr (Or.inl ⟨rfl, rfl, hx9⟩)) dL_punch_18
    · skip
      refine g_catch (name := "java/lang/IllegalArgumentException") (hp0 := [((0 : Nat), (12 : Nat), (15 : Nat), (13 : Nat))]) (x := ((0 : Nat), (12 : Nat), (19 : Nat), (15 : Nat))) (hs0 := [((0 : Nat), (12 : Nat), (23 : Nat), (17 : Nat))]) C0 hex rfl (List.forall_mem_cons.mpr ⟨⟨by decide, "java/lang/IndexOutOfBoundsException", xl_L_13, by decide +kernel⟩, (List.forall_mem_nil _)⟩) (by decide +kernel) (by decide) xl_L_15 ca_23 hce hcv hcl ?_
      refine lv_astore (lv' := [(5, .ref q9), (0, .ref (ad 0)), (1, .int p0), (2, .int p1), (3, .int p2), (4, .ref ou)]) hx hb dL_punch_19 hl (by decide) rfl (fun ls hl => ?_)
      refine lv_iconst (v := 2) hx hb dL_punch_21 (by decide) ?_
      exact g_iret C0 G (Or.inr (Or.inr (Or.inl ⟨rfl, rfl, hx9⟩))) dL_punch_22
    · skip
      refine g_catch (name := "java/lang/IllegalStateException") (hp0 := [((0 : Nat), (12 : Nat), (15 : Nat), (13 : Nat)), ((0 : Nat), (12 : Nat), (19 : Nat), (15 : Nat))]) (x := ((0 : Nat), (12 : Nat), (23 : Nat), (17 : Nat))) (hs0 := []) C0 hex rfl (List.forall_mem_cons.mpr ⟨⟨by decide, "java/lang/IndexOutOfBoundsException", xl_L_13, by decide +kernel⟩, (List.forall_mem_cons.mpr ⟨⟨by decide, "java/lang/IllegalArgumentException", xl_L_15, by decide +kernel⟩, (List.forall_mem_nil _)⟩)⟩) (by decide +kernel) (by decide) xl_L_17 ca_53 hce hcv hcl ?_
      refine lv_astore (lv' := [(5, .ref q9), (0, .ref (ad 0)), (1, .int p0), (2, .int p1), (3, .int p2), (4, .ref ou)]) hx hb dL_punch_23 hl (by decide) rfl (fun ls hl => ?_)
      refine lv_iconst (v := 3) hx hb dL_punch_25 (by decide) ?_
      exact g_iret C0 G (Or.inr (Or.inr (Or.inr (⟨rfl, rfl, hx9⟩)))) dL_punch_26
  obtain ⟨k, hk, rfl, row, hrow, rfl, u, hu, rfl, hcd0, rfl, hw⟩ := hp
  have G := g_wc hw G
  refine W.eq (g2 := F0 m 10 ls [.int (nI (pc7 u % 2)), .int (nI 0), .ref ou]) rfl ?_
  refine lv_i2l hx hb dL_punch_10 rfl ?_
  refine g_last (q0 := 30) (n := 1) (W2 := wC ad cy (va_up (saU fr kp) k (pwF ((saU fr kp) k) row u)) (va_up (saU bk kp) k (pwB ((saU bk kp) k) row u)) (saU vw kp) tk to fk fo (saK kp) sp lt ib rw cl nu tv tm ta ml tn ((ou, .inl (cy 2, 1, .inr (.inl (vp_updL og 0 ((nI (pc7 u % 2)).toInt64))))) :: (od, .inl (cy 3, 1, .inr (.inr (.inr (.inl oh))))) :: R)) C0 G wC_o0 2 rfl (vp_in_nI (n := 0) (by omega) (by decide)) (by rw [nI_clamp (n := 0) (by omega)]; exact wC_s0) dL_punch_11 (fun H locs G => ?_)
  refine lv_goto (tgt := 27) hx hb dL_punch_12 (by decide) ?_
  refine lv_iconst (v := 0) hx hb dL_punch_27 (by decide) ?_
  exact g_iret C0 G (Or.inl ⟨k, hk, rfl, row, hrow, rfl, u, hu, rfl, hcd0, rfl, rfl⟩) dL_punch_28

set_option maxHeartbeats 4000000 in
set_option maxRecDepth 100000 in
theorem c_L_close (l : Launch) (D : va_G) (cy : Nat → ClassId) (ad : Nat → Nat) (fr : Nat → Int64) (bk : Nat → Int64) (vw : Nat → Nat) (tk : Int64) (to : Int64) (fk : Int64) (fo : Int64) (kp : Nat) (sp : Nat) (lt : Nat) (ib : Bool) (rw : Nat) (cl : Nat) (nu : Nat) (tv : Nat) (tm : Nat) (ta : Nat → Int32) (ml : Int32) (tn : Nat) (R : va_W) (ou od : Nat) (og : Nat → Int64) (oh : Nat → UInt64) (p0 : Int32) (hst : l.stackTraces = false) (hkp : kp ≤ 6) : GH l D (gts cy) yL_close cL_close 4 (some .int) [((0 : Nat), (9 : Nat), (12 : Nat), (13 : Nat)), ((0 : Nat), (9 : Nat), (15 : Nat), (17 : Nat))] 4 4 24 [.ref (ad 0), .int p0, .ref ou] (wC ad cy fr bk vw tk to fk fo kp sp lt ib rw cl nu tv tm ta ml tn ((ou, .inl (cy 2, 1, .inr (.inl og))) :: (od, .inl (cy 3, 1, .inr (.inr (.inr (.inl oh))))) :: R)) (fun r W2 => (∃ k : Nat, k < 3 ∧ p0 = nI k ∧ ccB (fr k) (bk k) = true ∧ r = some (.int 0) ∧ W2 = wC ad cy (va_up (saU fr kp) k (clF ((saU fr kp) k) ((saU bk kp) k))) (va_up (saU bk kp) k (clB ((saU fr kp) k) ((saU bk kp) k))) (saU vw kp) tk to fk fo (saK kp) sp lt ib rw cl nu tv tm ta ml tn ((ou, .inl (cy 2, 1, .inr (.inl (vp_updL og 0 ((nI (pc (onW (clF ((saU fr kp) k) ((saU bk kp) k)) (clB ((saU fr kp) k) ((saU bk kp) k)) &&& rowM 7)))).toInt64)))) :: (od, .inl (cy 3, 1, .inr (.inr (.inr (.inl oh))))) :: R)) ∨ (r = some (.int 1) ∧ W2 = wC ad cy fr bk vw tk to fk fo kp sp lt ib rw cl nu tv tm ta ml tn ((ou, .inl (cy 2, 1, .inr (.inl og))) :: (od, .inl (cy 3, 1, .inr (.inr (.inr (.inl oh))))) :: R) ∧ (ir p0 3 = false)) ∨ (r = some (.int 2) ∧ W2 = wC ad cy fr bk vw tk to fk fo kp sp lt ib rw cl nu tv tm ta ml tn ((ou, .inl (cy 2, 1, .inr (.inl og))) :: (od, .inl (cy 3, 1, .inr (.inr (.inr (.inl oh))))) :: R) ∧ (∃ k : Nat, k < 3 ∧ p0 = nI k ∧ ccB (fr k) (bk k) = false))) := by
  refine g_introH (by decide +kernel) (lv := [(0, .ref (ad 0)), (1, .int p0), (2, .ref ou)]) rfl (Nat.le_of_ble_eq_true rfl) ?_
  intro p e s m below meth c C0 hex G ls hl
  have hx := C0.1
  have hb := C0.2.1
  have hown := C0.2.2.2.2.2.1
  have hts := C0.2.2.2.2.2.2.1
  refine lv_aload_n hx hb dL_close_0 rfl (lv_at hl 2 rfl) ?_
  refine lv_iconst (v := 0) hx hb dL_close_1 (by decide) ?_
  refine g_topi (x' := nI 0) rfl ?_
  refine lv_aload_n hx hb dL_close_2 rfl (lv_at hl 0 rfl) ?_
  refine lv_iload_n hx hb dL_close_3 rfl (lv_at hl 1 rfl) ?_
  refine g_callXV (As := [.int p0]) (rest := [.int (nI 0), .ref ou]) (q0 := 0) C0 G (c_X4_close l D cy (ad := ad) (fr := fr) (bk := bk) (vw := vw) (tk := tk) (to := to) (fk := fk) (fo := fo) (kp := kp) (sp := sp) (lt := lt) (ib := ib) (rw := rw) (cl := cl) (nu := nu) (tv := tv) (tm := tm) (ta := ta) (ml := ml) (tn := tn) (R := ((ou, .inl (cy 2, 1, .inr (.inl og))) :: (od, .inl (cy 3, 1, .inr (.inr (.inr (.inl oh))))) :: R)) (p0 := p0) hst hkp) k_X4_close ml_L_19 rfl rfl dL_close_4 rfl rfl hl.1 (Nat.le_of_ble_eq_true rfl) ⟨Nat.le_of_ble_eq_true rfl, Nat.le_of_ble_eq_true rfl⟩ ⟨Nat.le_of_ble_eq_true rfl, Nat.le_of_ble_eq_true rfl⟩ (fun E ce q9 H locs hx9 G hce hcv hcl => ?_) (fun r W2 H locs hp G => ?_)
  · rcases hx9 with ⟨rfl, hx9⟩ | ⟨rfl, hx9⟩
    · skip
      refine g_catch (name := "java/lang/IndexOutOfBoundsException") (hp0 := []) (x := ((0 : Nat), (9 : Nat), (12 : Nat), (13 : Nat))) (hs0 := [((0 : Nat), (9 : Nat), (15 : Nat), (17 : Nat))]) C0 hex rfl (List.forall_mem_nil _) (by decide +kernel) (by decide) xl_L_13 ca_50 hce hcv hcl ?_
      refine lv_astore_n (lv' := [(3, .ref q9), (0, .ref (ad 0)), (1, .int p0), (2, .ref ou)]) hx hb dL_close_12 rfl hl (by decide) rfl (fun ls hl => ?_)
      refine lv_iconst (v := 1) hx hb dL_close_13 (by decide) ?_
      exact g_iret C0 G (Or.inr (Or.inl ⟨rfl, rfl, hx9⟩)) dL_close_14
    · skip
      refine g_catch (name := "java/lang/IllegalStateException") (hp0 := [((0 : Nat), (9 : Nat), (12 : Nat), (13 : Nat))]) (x := ((0 : Nat), (9 : Nat), (15 : Nat), (17 : Nat))) (hs0 := []) C0 hex rfl (List.forall_mem_cons.mpr ⟨⟨by decide, "java/lang/IndexOutOfBoundsException", xl_L_13, by decide +kernel⟩, (List.forall_mem_nil _)⟩) (by decide +kernel) (by decide) xl_L_17 ca_53 hce hcv hcl ?_
      refine lv_astore_n (lv' := [(3, .ref q9), (0, .ref (ad 0)), (1, .int p0), (2, .ref ou)]) hx hb dL_close_15 rfl hl (by decide) rfl (fun ls hl => ?_)
      refine lv_iconst (v := 2) hx hb dL_close_16 (by decide) ?_
      exact g_iret C0 G (Or.inr (Or.inr (⟨rfl, rfl, hx9⟩))) dL_close_17
  obtain ⟨k, hk, rfl, hcd0, rfl, hw⟩ := hp
  have G := g_wc hw G
  refine W.eq (g2 := F0 m 7 ls [.int (nI (pc (onW (clF ((saU fr kp) k) ((saU bk kp) k)) (clB ((saU fr kp) k) ((saU bk kp) k)) &&& rowM 7))), .int (nI 0), .ref ou]) rfl ?_
  refine lv_i2l hx hb dL_close_7 rfl ?_
  refine g_last (q0 := 30) (n := 1) (W2 := wC ad cy (va_up (saU fr kp) k (clF ((saU fr kp) k) ((saU bk kp) k))) (va_up (saU bk kp) k (clB ((saU fr kp) k) ((saU bk kp) k))) (saU vw kp) tk to fk fo (saK kp) sp lt ib rw cl nu tv tm ta ml tn ((ou, .inl (cy 2, 1, .inr (.inl (vp_updL og 0 ((nI (pc (onW (clF ((saU fr kp) k) ((saU bk kp) k)) (clB ((saU fr kp) k) ((saU bk kp) k)) &&& rowM 7))).toInt64))))) :: (od, .inl (cy 3, 1, .inr (.inr (.inr (.inl oh))))) :: R)) C0 G wC_o0 2 rfl (vp_in_nI (n := 0) (by omega) (by decide)) (by rw [nI_clamp (n := 0) (by omega)]; exact wC_s0) dL_close_8 (fun H locs G => ?_)
  refine lv_goto (tgt := 18) hx hb dL_close_9 (by decide) ?_
  refine lv_iconst (v := 0) hx hb dL_close_18 (by decide) ?_
  exact g_iret C0 G (Or.inl ⟨k, hk, rfl, hcd0, rfl, rfl⟩) dL_close_19

set_option maxHeartbeats 4000000 in
set_option maxRecDepth 100000 in
theorem c_L_renew (l : Launch) (D : va_G) (cy : Nat → ClassId) (ad : Nat → Nat) (fr : Nat → Int64) (bk : Nat → Int64) (vw : Nat → Nat) (tk : Int64) (to : Int64) (fk : Int64) (fo : Int64) (kp : Nat) (sp : Nat) (lt : Nat) (ib : Bool) (rw : Nat) (cl : Nat) (nu : Nat) (tv : Nat) (tm : Nat) (ta : Nat → Int32) (ml : Int32) (tn : Nat) (R : va_W) (ou od : Nat) (og : Nat → Int64) (oh : Nat → UInt64) (p0 : Int32) (hst : l.stackTraces = false) (hkp : kp ≤ 6) : GH l D (gts cy) yL_renew cL_renew 4 (some .int) [((0 : Nat), (9 : Nat), (12 : Nat), (13 : Nat))] 4 4 24 [.ref (ad 0), .int p0, .ref ou] (wC ad cy fr bk vw tk to fk fo kp sp lt ib rw cl nu tv tm ta ml tn ((ou, .inl (cy 2, 1, .inr (.inl og))) :: (od, .inl (cy 3, 1, .inr (.inr (.inr (.inl oh))))) :: R)) (fun r W2 => (∃ k : Nat, k < 3 ∧ p0 = nI k ∧ r = some (.int 0) ∧ W2 = wC ad cy (va_up (saU fr kp) k 0) (va_up (saU bk kp) k 0) (va_up (saU vw kp) k 0) tk to fk fo (saK kp) sp lt ib rw cl nu tv tm ta ml tn ((ou, .inl (cy 2, 1, .inr (.inl (vp_updL og 0 ((nI ((pc ((saU fr kp) k)) + (pc ((saU bk kp) k))))).toInt64)))) :: (od, .inl (cy 3, 1, .inr (.inr (.inr (.inl oh))))) :: R)) ∨ (r = some (.int 1) ∧ W2 = wC ad cy fr bk vw tk to fk fo kp sp lt ib rw cl nu tv tm ta ml tn ((ou, .inl (cy 2, 1, .inr (.inl og))) :: (od, .inl (cy 3, 1, .inr (.inr (.inr (.inl oh))))) :: R) ∧ (ir p0 3 = false))) := by
  refine g_introH (by decide +kernel) (lv := [(0, .ref (ad 0)), (1, .int p0), (2, .ref ou)]) rfl (Nat.le_of_ble_eq_true rfl) ?_
  intro p e s m below meth c C0 hex G ls hl
  have hx := C0.1
  have hb := C0.2.1
  have hown := C0.2.2.2.2.2.1
  have hts := C0.2.2.2.2.2.2.1
  refine lv_aload_n hx hb dL_renew_0 rfl (lv_at hl 2 rfl) ?_
  refine lv_iconst (v := 0) hx hb dL_renew_1 (by decide) ?_
  refine g_topi (x' := nI 0) rfl ?_
  refine lv_aload_n hx hb dL_renew_2 rfl (lv_at hl 0 rfl) ?_
  refine lv_iload_n hx hb dL_renew_3 rfl (lv_at hl 1 rfl) ?_
  refine g_callXV (As := [.int p0]) (rest := [.int (nI 0), .ref ou]) (q0 := 0) C0 G (c_X4_renew l D cy (ad := ad) (fr := fr) (bk := bk) (vw := vw) (tk := tk) (to := to) (fk := fk) (fo := fo) (kp := kp) (sp := sp) (lt := lt) (ib := ib) (rw := rw) (cl := cl) (nu := nu) (tv := tv) (tm := tm) (ta := ta) (ml := ml) (tn := tn) (R := ((ou, .inl (cy 2, 1, .inr (.inl og))) :: (od, .inl (cy 3, 1, .inr (.inr (.inr (.inl oh))))) :: R)) (p0 := p0) hst hkp) k_X4_renew ml_L_23 rfl rfl dL_renew_4 rfl rfl hl.1 (Nat.le_of_ble_eq_true rfl) ⟨Nat.le_of_ble_eq_true rfl, Nat.le_of_ble_eq_true rfl⟩ ⟨Nat.le_of_ble_eq_true rfl, Nat.le_of_ble_eq_true rfl⟩ (fun E ce q9 H locs hx9 G hce hcv hcl => ?_) (fun r W2 H locs hp G => ?_)
  · obtain ⟨rfl, hx9⟩ := hx9
    · skip
      refine g_catch (name := "java/lang/IndexOutOfBoundsException") (hp0 := []) (x := ((0 : Nat), (9 : Nat), (12 : Nat), (13 : Nat))) (hs0 := []) C0 hex rfl (List.forall_mem_nil _) (by decide +kernel) (by decide) xl_L_13 ca_50 hce hcv hcl ?_
      refine lv_astore_n (lv' := [(3, .ref q9), (0, .ref (ad 0)), (1, .int p0), (2, .ref ou)]) hx hb dL_renew_12 rfl hl (by decide) rfl (fun ls hl => ?_)
      refine lv_iconst (v := 1) hx hb dL_renew_13 (by decide) ?_
      exact g_iret C0 G (Or.inr (⟨rfl, rfl, hx9⟩)) dL_renew_14
  obtain ⟨k, hk, rfl, rfl, hw⟩ := hp
  have G := g_wc hw G
  refine W.eq (g2 := F0 m 7 ls [.int (nI ((pc ((saU fr kp) k)) + (pc ((saU bk kp) k)))), .int (nI 0), .ref ou]) rfl ?_
  refine lv_i2l hx hb dL_renew_7 rfl ?_
  refine g_last (q0 := 30) (n := 1) (W2 := wC ad cy (va_up (saU fr kp) k 0) (va_up (saU bk kp) k 0) (va_up (saU vw kp) k 0) tk to fk fo (saK kp) sp lt ib rw cl nu tv tm ta ml tn ((ou, .inl (cy 2, 1, .inr (.inl (vp_updL og 0 ((nI ((pc ((saU fr kp) k)) + (pc ((saU bk kp) k)))).toInt64))))) :: (od, .inl (cy 3, 1, .inr (.inr (.inr (.inl oh))))) :: R)) C0 G wC_o0 2 rfl (vp_in_nI (n := 0) (by omega) (by decide)) (by rw [nI_clamp (n := 0) (by omega)]; exact wC_s0) dL_renew_8 (fun H locs G => ?_)
  refine lv_goto (tgt := 15) hx hb dL_renew_9 (by decide) ?_
  refine lv_iconst (v := 0) hx hb dL_renew_15 (by decide) ?_
  exact g_iret C0 G (Or.inl ⟨k, hk, rfl, rfl, rfl⟩) dL_renew_16

set_option maxHeartbeats 4000000 in
set_option maxRecDepth 100000 in
theorem c_L_copy (l : Launch) (D : va_G) (cy : Nat → ClassId) (ad : Nat → Nat) (fr : Nat → Int64) (bk : Nat → Int64) (vw : Nat → Nat) (tk : Int64) (to : Int64) (fk : Int64) (fo : Int64) (kp : Nat) (sp : Nat) (lt : Nat) (ib : Bool) (rw : Nat) (cl : Nat) (nu : Nat) (tv : Nat) (tm : Nat) (ta : Nat → Int32) (ml : Int32) (tn : Nat) (R : va_W) (ou od : Nat) (og : Nat → Int64) (oh : Nat → UInt64) (p0 : Int32) (p1 : Int32) (hst : l.stackTraces = false) (hkp : kp ≤ 6) : GH l D (gts cy) yL_copy cL_copy 5 (some .int) [((0 : Nat), (10 : Nat), (13 : Nat), (13 : Nat)), ((0 : Nat), (10 : Nat), (17 : Nat), (15 : Nat))] 6 4 24 [.ref (ad 0), .int p0, .int p1, .ref ou] (wC ad cy fr bk vw tk to fk fo kp sp lt ib rw cl nu tv tm ta ml tn ((ou, .inl (cy 2, 1, .inr (.inl og))) :: (od, .inl (cy 3, 1, .inr (.inr (.inr (.inl oh))))) :: R)) (fun r W2 => (∃ k : Nat, k < 3 ∧ p0 = nI k ∧ ∃ j : Nat, j < 3 ∧ p1 = nI j ∧ ¬ k = j ∧ r = some (.int 0) ∧ W2 = wC ad cy (va_up (va_up (saU fr kp) j 0) j ((fa (sdW ((saU fr kp) k) ((saU bk kp) k)) (onW ((saU fr kp) k) ((saU bk kp) k))).2)) (va_up (va_up (saU bk kp) j 0) j (((fa (sdW ((saU fr kp) k) ((saU bk kp) k)) (onW ((saU fr kp) k) ((saU bk kp) k))).1) &&& (((fa (sdW ((saU fr kp) k) ((saU bk kp) k)) (onW ((saU fr kp) k) ((saU bk kp) k))).2) ^^^ ((-1) : Int64)))) (va_up (saU vw kp) j 0) ((fa (sdW ((saU fr kp) k) ((saU bk kp) k)) (onW ((saU fr kp) k) ((saU bk kp) k))).1) ((fa (sdW ((saU fr kp) k) ((saU bk kp) k)) (onW ((saU fr kp) k) ((saU bk kp) k))).2) fk fo (saK kp) sp lt ib rw cl nu tv tm ta ml tn ((ou, .inl (cy 2, 1, .inr (.inl (vp_updL og 0 ((nI (pc (blW ((va_up (va_up (saU fr kp) j 0) j ((fa (sdW ((saU fr kp) k) ((saU bk kp) k)) (onW ((saU fr kp) k) ((saU bk kp) k))).2)) j) ((va_up (va_up (saU bk kp) j 0) j (((fa (sdW ((saU fr kp) k) ((saU bk kp) k)) (onW ((saU fr kp) k) ((saU bk kp) k))).1) &&& (((fa (sdW ((saU fr kp) k) ((saU bk kp) k)) (onW ((saU fr kp) k) ((saU bk kp) k))).2) ^^^ ((-1) : Int64)))) j))))).toInt64)))) :: (od, .inl (cy 3, 1, .inr (.inr (.inr (.inl oh))))) :: R)) ∨ (r = some (.int 1) ∧ W2 = wC ad cy fr bk vw tk to fk fo kp sp lt ib rw cl nu tv tm ta ml tn ((ou, .inl (cy 2, 1, .inr (.inl og))) :: (od, .inl (cy 3, 1, .inr (.inr (.inr (.inl oh))))) :: R) ∧ ((ir p0 3 && ir p1 3) = false)) ∨ (r = some (.int 2) ∧ W2 = wC ad cy fr bk vw tk to fk fo kp sp lt ib rw cl nu tv tm ta ml tn ((ou, .inl (cy 2, 1, .inr (.inl og))) :: (od, .inl (cy 3, 1, .inr (.inr (.inr (.inl oh))))) :: R) ∧ (∃ k : Nat, k < 3 ∧ p0 = nI k ∧ p1 = nI k))) := by
  refine g_introH (by decide +kernel) (lv := [(0, .ref (ad 0)), (1, .int p0), (2, .int p1), (3, .ref ou)]) rfl (Nat.le_of_ble_eq_true rfl) ?_
  intro p e s m below meth c C0 hex G ls hl
  have hx := C0.1
  have hb := C0.2.1
  have hown := C0.2.2.2.2.2.1
  have hts := C0.2.2.2.2.2.2.1
  refine lv_aload_n hx hb dL_copy_0 rfl (lv_at hl 3 rfl) ?_
  refine lv_iconst (v := 0) hx hb dL_copy_1 (by decide) ?_
  refine g_topi (x' := nI 0) rfl ?_
  refine lv_aload_n hx hb dL_copy_2 rfl (lv_at hl 0 rfl) ?_
  refine lv_iload_n hx hb dL_copy_3 rfl (lv_at hl 1 rfl) ?_
  refine lv_iload_n hx hb dL_copy_4 rfl (lv_at hl 2 rfl) ?_
  refine g_callXV (As := [.int p0, .int p1]) (rest := [.int (nI 0), .ref ou]) (q0 := 0) C0 G (c_X4_copy l D cy (ad := ad) (fr := fr) (bk := bk) (vw := vw) (tk := tk) (to := to) (fk := fk) (fo := fo) (kp := kp) (sp := sp) (lt := lt) (ib := ib) (rw := rw) (cl := cl) (nu := nu) (tv := tv) (tm := tm) (ta := ta) (ml := ml) (tn := tn) (R := ((ou, .inl (cy 2, 1, .inr (.inl og))) :: (od, .inl (cy 3, 1, .inr (.inr (.inr (.inl oh))))) :: R)) (p0 := p0) (p1 := p1) hst hkp) k_X4_copy ml_L_26 rfl rfl dL_copy_5 rfl rfl hl.1 (Nat.le_of_ble_eq_true rfl) ⟨Nat.le_of_ble_eq_true rfl, Nat.le_of_ble_eq_true rfl⟩ ⟨Nat.le_of_ble_eq_true rfl, Nat.le_of_ble_eq_true rfl⟩ (fun E ce q9 H locs hx9 G hce hcv hcl => ?_) (fun r W2 H locs hp G => ?_)
  · rcases hx9 with ⟨rfl, hx9⟩ | ⟨rfl, hx9⟩
    · skip
      refine g_catch (name := "java/lang/IndexOutOfBoundsException") (hp0 := []) (x := ((0 : Nat), (10 : Nat), (13 : Nat), (13 : Nat))) (hs0 := [((0 : Nat), (10 : Nat), (17 : Nat), (15 : Nat))]) C0 hex rfl (List.forall_mem_nil _) (by decide +kernel) (by decide) xl_L_13 ca_50 hce hcv hcl ?_
      refine lv_astore (lv' := [(4, .ref q9), (0, .ref (ad 0)), (1, .int p0), (2, .int p1), (3, .ref ou)]) hx hb dL_copy_13 hl (by decide) rfl (fun ls hl => ?_)
      refine lv_iconst (v := 1) hx hb dL_copy_15 (by decide) ?_
      exact g_iret C0 G (Or.inr (Or.inl ⟨rfl, rfl, hx9⟩)) dL_copy_16
    · skip
      refine g_catch (name := "java/lang/IllegalArgumentException") (hp0 := [((0 : Nat), (10 : Nat), (13 : Nat), (13 : Nat))]) (x := ((0 : Nat), (10 : Nat), (17 : Nat), (15 : Nat))) (hs0 := []) C0 hex rfl (List.forall_mem_cons.mpr ⟨⟨by decide, "java/lang/IndexOutOfBoundsException", xl_L_13, by decide +kernel⟩, (List.forall_mem_nil _)⟩) (by decide +kernel) (by decide) xl_L_15 ca_23 hce hcv hcl ?_
      refine lv_astore (lv' := [(4, .ref q9), (0, .ref (ad 0)), (1, .int p0), (2, .int p1), (3, .ref ou)]) hx hb dL_copy_17 hl (by decide) rfl (fun ls hl => ?_)
      refine lv_iconst (v := 2) hx hb dL_copy_19 (by decide) ?_
      exact g_iret C0 G (Or.inr (Or.inr (⟨rfl, rfl, hx9⟩))) dL_copy_20
  obtain ⟨k, hk, rfl, j, hj, rfl, hcd0, rfl, hw⟩ := hp
  have G := g_wc hw G
  refine W.eq (g2 := F0 m 8 ls [.int (nI (pc (blW ((va_up (va_up (saU fr kp) j 0) j ((fa (sdW ((saU fr kp) k) ((saU bk kp) k)) (onW ((saU fr kp) k) ((saU bk kp) k))).2)) j) ((va_up (va_up (saU bk kp) j 0) j (((fa (sdW ((saU fr kp) k) ((saU bk kp) k)) (onW ((saU fr kp) k) ((saU bk kp) k))).1) &&& (((fa (sdW ((saU fr kp) k) ((saU bk kp) k)) (onW ((saU fr kp) k) ((saU bk kp) k))).2) ^^^ ((-1) : Int64)))) j)))), .int (nI 0), .ref ou]) rfl ?_
  refine lv_i2l hx hb dL_copy_8 rfl ?_
  refine g_last (q0 := 30) (n := 1) (W2 := wC ad cy (va_up (va_up (saU fr kp) j 0) j ((fa (sdW ((saU fr kp) k) ((saU bk kp) k)) (onW ((saU fr kp) k) ((saU bk kp) k))).2)) (va_up (va_up (saU bk kp) j 0) j (((fa (sdW ((saU fr kp) k) ((saU bk kp) k)) (onW ((saU fr kp) k) ((saU bk kp) k))).1) &&& (((fa (sdW ((saU fr kp) k) ((saU bk kp) k)) (onW ((saU fr kp) k) ((saU bk kp) k))).2) ^^^ ((-1) : Int64)))) (va_up (saU vw kp) j 0) ((fa (sdW ((saU fr kp) k) ((saU bk kp) k)) (onW ((saU fr kp) k) ((saU bk kp) k))).1) ((fa (sdW ((saU fr kp) k) ((saU bk kp) k)) (onW ((saU fr kp) k) ((saU bk kp) k))).2) fk fo (saK kp) sp lt ib rw cl nu tv tm ta ml tn ((ou, .inl (cy 2, 1, .inr (.inl (vp_updL og 0 ((nI (pc (blW ((va_up (va_up (saU fr kp) j 0) j ((fa (sdW ((saU fr kp) k) ((saU bk kp) k)) (onW ((saU fr kp) k) ((saU bk kp) k))).2)) j) ((va_up (va_up (saU bk kp) j 0) j (((fa (sdW ((saU fr kp) k) ((saU bk kp) k)) (onW ((saU fr kp) k) ((saU bk kp) k))).1) &&& (((fa (sdW ((saU fr kp) k) ((saU bk kp) k)) (onW ((saU fr kp) k) ((saU bk kp) k))).2) ^^^ ((-1) : Int64)))) j)))).toInt64))))) :: (od, .inl (cy 3, 1, .inr (.inr (.inr (.inl oh))))) :: R)) C0 G wC_o0 2 rfl (vp_in_nI (n := 0) (by omega) (by decide)) (by rw [nI_clamp (n := 0) (by omega)]; exact wC_s0) dL_copy_9 (fun H locs G => ?_)
  refine lv_goto (tgt := 21) hx hb dL_copy_10 (by decide) ?_
  refine lv_iconst (v := 0) hx hb dL_copy_21 (by decide) ?_
  exact g_iret C0 G (Or.inl ⟨k, hk, rfl, j, hj, rfl, hcd0, rfl, rfl⟩) dL_copy_22

set_option maxHeartbeats 4000000 in
set_option maxRecDepth 100000 in
theorem c_L_wear (l : Launch) (D : va_G) (cy : Nat → ClassId) (ad : Nat → Nat) (fr : Nat → Int64) (bk : Nat → Int64) (vw : Nat → Nat) (tk : Int64) (to : Int64) (fk : Int64) (fo : Int64) (kp : Nat) (sp : Nat) (lt : Nat) (ib : Bool) (rw : Nat) (cl : Nat) (nu : Nat) (tv : Nat) (tm : Nat) (ta : Nat → Int32) (ml : Int32) (tn : Nat) (R : va_W) (ou od : Nat) (og : Nat → Int64) (oh : Nat → UInt64) (p0 : Int32) (p1 : Int32) (p2 : Int32) (hst : l.stackTraces = false) (hkp : kp ≤ 6) (hvw : ∀ k, k < 3 → vw k < 4) : GH l D (gts cy) yL_wear cL_wear 6 (some .int) [((0 : Nat), (12 : Nat), (15 : Nat), (13 : Nat)), ((0 : Nat), (12 : Nat), (19 : Nat), (17 : Nat))] 4 4 24 [.ref (ad 0), .int p0, .int p1, .int p2, .ref ou] (wC ad cy fr bk vw tk to fk fo kp sp lt ib rw cl nu tv tm ta ml tn ((ou, .inl (cy 2, 1, .inr (.inl og))) :: (od, .inl (cy 3, 1, .inr (.inr (.inr (.inl oh))))) :: R)) (fun r W2 => (∃ k : Nat, k < 3 ∧ p0 = nI k ∧ ∃ i : Nat, i < 8 ∧ p1 = nI i ∧ ∃ j : Nat, j < 8 ∧ p2 = nI j ∧ hoB (fr k) (bk k) (sbB (vw k)) (scN (vw k) i j) = false ∧ r = some (.int 0) ∧ W2 = wC ad cy (va_up (saU fr kp) k (shF ((saU fr kp) k) (sbB ((saU vw kp) k)) (scN (vw k) i j) true)) (va_up (saU bk kp) k (shB ((saU bk kp) k) (sbB ((saU vw kp) k)) (scN (vw k) i j) true)) (saU vw kp) tk to fk fo (saK kp) sp lt ib rw cl nu tv tm ta ml tn ((ou, .inl (cy 2, 1, .inr (.inl (vp_updL og 0 ((kdI ((va_up (saU fr kp) k (shF ((saU fr kp) k) (sbB ((saU vw kp) k)) (scN (vw k) i j) true)) k) ((va_up (saU bk kp) k (shB ((saU bk kp) k) (sbB ((saU vw kp) k)) (scN (vw k) i j) true)) k) (scN (vw k) i j))).toInt64)))) :: (od, .inl (cy 3, 1, .inr (.inr (.inr (.inl oh))))) :: R)) ∨ (r = some (.int 1) ∧ W2 = wC ad cy fr bk vw tk to fk fo kp sp lt ib rw cl nu tv tm ta ml tn ((ou, .inl (cy 2, 1, .inr (.inl og))) :: (od, .inl (cy 3, 1, .inr (.inr (.inr (.inl oh))))) :: R) ∧ ((ir p0 3 && ir p1 8 && ir p2 8) = false)) ∨ (r = some (.int 2) ∧ W2 = wC ad cy fr bk vw tk to fk fo kp sp lt ib rw cl nu tv tm ta ml tn ((ou, .inl (cy 2, 1, .inr (.inl og))) :: (od, .inl (cy 3, 1, .inr (.inr (.inr (.inl oh))))) :: R) ∧ (∃ k : Nat, k < 3 ∧ p0 = nI k ∧ ∃ i : Nat, i < 8 ∧ p1 = nI i ∧ ∃ j : Nat, j < 8 ∧ p2 = nI j ∧ hoB (fr k) (bk k) (sbB (vw k)) (scN (vw k) i j) = true))) := by
  refine g_introH (by decide +kernel) (lv := [(0, .ref (ad 0)), (1, .int p0), (2, .int p1), (3, .int p2), (4, .ref ou)]) rfl (Nat.le_of_ble_eq_true rfl) ?_
  intro p e s m below meth c C0 hex G ls hl
  have hx := C0.1
  have hb := C0.2.1
  have hown := C0.2.2.2.2.2.1
  have hts := C0.2.2.2.2.2.2.1
  refine lv_aload hx hb dL_wear_0 (lv_at hl 4 rfl) ?_
  refine lv_iconst (v := 0) hx hb dL_wear_2 (by decide) ?_
  refine g_topi (x' := nI 0) rfl ?_
  refine lv_aload_n hx hb dL_wear_3 rfl (lv_at hl 0 rfl) ?_
  refine lv_iload_n hx hb dL_wear_4 rfl (lv_at hl 1 rfl) ?_
  refine lv_iload_n hx hb dL_wear_5 rfl (lv_at hl 2 rfl) ?_
  refine lv_iload_n hx hb dL_wear_6 rfl (lv_at hl 3 rfl) ?_
  refine g_callXV (As := [.int p0, .int p1, .int p2]) (rest := [.int (nI 0), .ref ou]) (q0 := 0) C0 G (c_X4_wear l D cy (ad := ad) (fr := fr) (bk := bk) (vw := vw) (tk := tk) (to := to) (fk := fk) (fo := fo) (kp := kp) (sp := sp) (lt := lt) (ib := ib) (rw := rw) (cl := cl) (nu := nu) (tv := tv) (tm := tm) (ta := ta) (ml := ml) (tn := tn) (R := ((ou, .inl (cy 2, 1, .inr (.inl og))) :: (od, .inl (cy 3, 1, .inr (.inr (.inr (.inl oh))))) :: R)) (p0 := p0) (p1 := p1) (p2 := p2) hst hkp hvw) k_X4_wear ml_L_30 rfl rfl dL_wear_7 rfl rfl hl.1 (Nat.le_of_ble_eq_true rfl) ⟨Nat.le_of_ble_eq_true rfl, Nat.le_of_ble_eq_true rfl⟩ ⟨Nat.le_of_ble_eq_true rfl, Nat.le_of_ble_eq_true rfl⟩ (fun E ce q9 H locs hx9 G hce hcv hcl => ?_) (fun r W2 H locs hp G => ?_)
  · rcases hx9 with ⟨rfl, hx9⟩ | ⟨rfl, hx9⟩
    · skip
      refine g_catch (name := "java/lang/IndexOutOfBoundsException") (hp0 := []) (x := ((0 : Nat), (12 : Nat), (15 : Nat), (13 : Nat))) (hs0 := [((0 : Nat), (12 : Nat), (19 : Nat), (17 : Nat))]) C0 hex rfl (List.forall_mem_nil _) (by decide +kernel) (by decide) xl_L_13 ca_50 hce hcv hcl ?_
      refine lv_astore (lv' := [(5, .ref q9), (0, .ref (ad 0)), (1, .int p0), (2, .int p1), (3, .int p2), (4, .ref ou)]) hx hb dL_wear_15 hl (by decide) rfl (fun ls hl => ?_)
      refine lv_iconst (v := 1) hx hb dL_wear_17 (by decide) ?_
      exact g_iret C0 G (Or.inr (Or.inl ⟨rfl, rfl, hx9⟩)) dL_wear_18
    · skip
      refine g_catch (name := "java/lang/IllegalStateException") (hp0 := [((0 : Nat), (12 : Nat), (15 : Nat), (13 : Nat))]) (x := ((0 : Nat), (12 : Nat), (19 : Nat), (17 : Nat))) (hs0 := []) C0 hex rfl (List.forall_mem_cons.mpr ⟨⟨by decide, "java/lang/IndexOutOfBoundsException", xl_L_13, by decide +kernel⟩, (List.forall_mem_nil _)⟩) (by decide +kernel) (by decide) xl_L_17 ca_53 hce hcv hcl ?_
      refine lv_astore (lv' := [(5, .ref q9), (0, .ref (ad 0)), (1, .int p0), (2, .int p1), (3, .int p2), (4, .ref ou)]) hx hb dL_wear_19 hl (by decide) rfl (fun ls hl => ?_)
      refine lv_iconst (v := 2) hx hb dL_wear_21 (by decide) ?_
      exact g_iret C0 G (Or.inr (Or.inr (⟨rfl, rfl, hx9⟩))) dL_wear_22
  obtain ⟨k, hk, rfl, i, hi, rfl, j, hj, rfl, hcd0, rfl, hw⟩ := hp
  have G := g_wc hw G
  refine W.eq (g2 := F0 m 10 ls [.int (kdI ((va_up (saU fr kp) k (shF ((saU fr kp) k) (sbB ((saU vw kp) k)) (scN (vw k) i j) true)) k) ((va_up (saU bk kp) k (shB ((saU bk kp) k) (sbB ((saU vw kp) k)) (scN (vw k) i j) true)) k) (scN (vw k) i j)), .int (nI 0), .ref ou]) rfl ?_
  refine lv_i2l hx hb dL_wear_10 rfl ?_
  refine g_last (q0 := 30) (n := 1) (W2 := wC ad cy (va_up (saU fr kp) k (shF ((saU fr kp) k) (sbB ((saU vw kp) k)) (scN (vw k) i j) true)) (va_up (saU bk kp) k (shB ((saU bk kp) k) (sbB ((saU vw kp) k)) (scN (vw k) i j) true)) (saU vw kp) tk to fk fo (saK kp) sp lt ib rw cl nu tv tm ta ml tn ((ou, .inl (cy 2, 1, .inr (.inl (vp_updL og 0 ((kdI ((va_up (saU fr kp) k (shF ((saU fr kp) k) (sbB ((saU vw kp) k)) (scN (vw k) i j) true)) k) ((va_up (saU bk kp) k (shB ((saU bk kp) k) (sbB ((saU vw kp) k)) (scN (vw k) i j) true)) k) (scN (vw k) i j)).toInt64))))) :: (od, .inl (cy 3, 1, .inr (.inr (.inr (.inl oh))))) :: R)) C0 G wC_o0 2 rfl (vp_in_nI (n := 0) (by omega) (by decide)) (by rw [nI_clamp (n := 0) (by omega)]; exact wC_s0) dL_wear_11 (fun H locs G => ?_)
  refine lv_goto (tgt := 23) hx hb dL_wear_12 (by decide) ?_
  refine lv_iconst (v := 0) hx hb dL_wear_23 (by decide) ?_
  exact g_iret C0 G (Or.inl ⟨k, hk, rfl, i, hi, rfl, j, hj, rfl, hcd0, rfl, rfl⟩) dL_wear_24

set_option maxHeartbeats 4000000 in
set_option maxRecDepth 100000 in
theorem c_L_lose (l : Launch) (D : va_G) (cy : Nat → ClassId) (ad : Nat → Nat) (fr : Nat → Int64) (bk : Nat → Int64) (vw : Nat → Nat) (tk : Int64) (to : Int64) (fk : Int64) (fo : Int64) (kp : Nat) (sp : Nat) (lt : Nat) (ib : Bool) (rw : Nat) (cl : Nat) (nu : Nat) (tv : Nat) (tm : Nat) (ta : Nat → Int32) (ml : Int32) (tn : Nat) (R : va_W) (ou od : Nat) (og : Nat → Int64) (oh : Nat → UInt64) (p0 : Int32) (p1 : Int32) (p2 : Int32) (hst : l.stackTraces = false) (hkp : kp ≤ 6) (hvw : ∀ k, k < 3 → vw k < 4) : GH l D (gts cy) yL_lose cL_lose 6 (some .int) [((0 : Nat), (12 : Nat), (15 : Nat), (13 : Nat)), ((0 : Nat), (12 : Nat), (19 : Nat), (17 : Nat))] 4 4 24 [.ref (ad 0), .int p0, .int p1, .int p2, .ref ou] (wC ad cy fr bk vw tk to fk fo kp sp lt ib rw cl nu tv tm ta ml tn ((ou, .inl (cy 2, 1, .inr (.inl og))) :: (od, .inl (cy 3, 1, .inr (.inr (.inr (.inl oh))))) :: R)) (fun r W2 => (∃ k : Nat, k < 3 ∧ p0 = nI k ∧ ∃ i : Nat, i < 8 ∧ p1 = nI i ∧ ∃ j : Nat, j < 8 ∧ p2 = nI j ∧ hoB (fr k) (bk k) (sbB (vw k)) (scN (vw k) i j) = true ∧ r = some (.int 0) ∧ W2 = wC ad cy (va_up (saU fr kp) k (shF ((saU fr kp) k) (sbB ((saU vw kp) k)) (scN (vw k) i j) false)) (va_up (saU bk kp) k (shB ((saU bk kp) k) (sbB ((saU vw kp) k)) (scN (vw k) i j) false)) (saU vw kp) tk to fk fo (saK kp) sp lt ib rw cl nu tv tm ta ml tn ((ou, .inl (cy 2, 1, .inr (.inl (vp_updL og 0 ((kdI ((va_up (saU fr kp) k (shF ((saU fr kp) k) (sbB ((saU vw kp) k)) (scN (vw k) i j) false)) k) ((va_up (saU bk kp) k (shB ((saU bk kp) k) (sbB ((saU vw kp) k)) (scN (vw k) i j) false)) k) (scN (vw k) i j))).toInt64)))) :: (od, .inl (cy 3, 1, .inr (.inr (.inr (.inl oh))))) :: R)) ∨ (r = some (.int 1) ∧ W2 = wC ad cy fr bk vw tk to fk fo kp sp lt ib rw cl nu tv tm ta ml tn ((ou, .inl (cy 2, 1, .inr (.inl og))) :: (od, .inl (cy 3, 1, .inr (.inr (.inr (.inl oh))))) :: R) ∧ ((ir p0 3 && ir p1 8 && ir p2 8) = false)) ∨ (r = some (.int 2) ∧ W2 = wC ad cy fr bk vw tk to fk fo kp sp lt ib rw cl nu tv tm ta ml tn ((ou, .inl (cy 2, 1, .inr (.inl og))) :: (od, .inl (cy 3, 1, .inr (.inr (.inr (.inl oh))))) :: R) ∧ (∃ k : Nat, k < 3 ∧ p0 = nI k ∧ ∃ i : Nat, i < 8 ∧ p1 = nI i ∧ ∃ j : Nat, j < 8 ∧ p2 = nI j ∧ hoB (fr k) (bk k) (sbB (vw k)) (scN (vw k) i j) = false))) := by
  refine g_introH (by decide +kernel) (lv := [(0, .ref (ad 0)), (1, .int p0), (2, .int p1), (3, .int p2), (4, .ref ou)]) rfl (Nat.le_of_ble_eq_true rfl) ?_
  intro p e s m below meth c C0 hex G ls hl
  have hx := C0.1
  have hb := C0.2.1
  have hown := C0.2.2.2.2.2.1
  have hts := C0.2.2.2.2.2.2.1
  refine lv_aload hx hb dL_lose_0 (lv_at hl 4 rfl) ?_
  refine lv_iconst (v := 0) hx hb dL_lose_2 (by decide) ?_
  refine g_topi (x' := nI 0) rfl ?_
  refine lv_aload_n hx hb dL_lose_3 rfl (lv_at hl 0 rfl) ?_
  refine lv_iload_n hx hb dL_lose_4 rfl (lv_at hl 1 rfl) ?_
  refine lv_iload_n hx hb dL_lose_5 rfl (lv_at hl 2 rfl) ?_
  refine lv_iload_n hx hb dL_lose_6 rfl (lv_at hl 3 rfl) ?_
  refine g_callXV (As := [.int p0, .int p1, .int p2]) (rest := [.int (nI 0), .ref ou]) (q0 := 0) C0 G (c_X4_lose l D cy (ad := ad) (fr := fr) (bk := bk) (vw := vw) (tk := tk) (to := to) (fk := fk) (fo := fo) (kp := kp) (sp := sp) (lt := lt) (ib := ib) (rw := rw) (cl := cl) (nu := nu) (tv := tv) (tm := tm) (ta := ta) (ml := ml) (tn := tn) (R := ((ou, .inl (cy 2, 1, .inr (.inl og))) :: (od, .inl (cy 3, 1, .inr (.inr (.inr (.inl oh))))) :: R)) (p0 := p0) (p1 := p1) (p2 := p2) hst hkp hvw) k_X4_lose ml_L_33 rfl rfl dL_lose_7 rfl rfl hl.1 (Nat.le_of_ble_eq_true rfl) ⟨Nat.le_of_ble_eq_true rfl, Nat.le_of_ble_eq_true rfl⟩ ⟨Nat.le_of_ble_eq_true rfl, Nat.le_of_ble_eq_true rfl⟩ (fun E ce q9 H locs hx9 G hce hcv hcl => ?_) (fun r W2 H locs hp G => ?_)
  · rcases hx9 with ⟨rfl, hx9⟩ | ⟨rfl, hx9⟩
    · skip
      refine g_catch (name := "java/lang/IndexOutOfBoundsException") (hp0 := []) (x := ((0 : Nat), (12 : Nat), (15 : Nat), (13 : Nat))) (hs0 := [((0 : Nat), (12 : Nat), (19 : Nat), (17 : Nat))]) C0 hex rfl (List.forall_mem_nil _) (by decide +kernel) (by decide) xl_L_13 ca_50 hce hcv hcl ?_
      refine lv_astore (lv' := [(5, .ref q9), (0, .ref (ad 0)), (1, .int p0), (2, .int p1), (3, .int p2), (4, .ref ou)]) hx hb dL_lose_15 hl (by decide) rfl (fun ls hl => ?_)
      refine lv_iconst (v := 1) hx hb dL_lose_17 (by decide) ?_
      exact g_iret C0 G (Or.inr (Or.inl ⟨rfl, rfl, hx9⟩)) dL_lose_18
    · skip
      refine g_catch (name := "java/lang/IllegalStateException") (hp0 := [((0 : Nat), (12 : Nat), (15 : Nat), (13 : Nat))]) (x := ((0 : Nat), (12 : Nat), (19 : Nat), (17 : Nat))) (hs0 := []) C0 hex rfl (List.forall_mem_cons.mpr ⟨⟨by decide, "java/lang/IndexOutOfBoundsException", xl_L_13, by decide +kernel⟩, (List.forall_mem_nil _)⟩) (by decide +kernel) (by decide) xl_L_17 ca_53 hce hcv hcl ?_
      refine lv_astore (lv' := [(5, .ref q9), (0, .ref (ad 0)), (1, .int p0), (2, .int p1), (3, .int p2), (4, .ref ou)]) hx hb dL_lose_19 hl (by decide) rfl (fun ls hl => ?_)
      refine lv_iconst (v := 2) hx hb dL_lose_21 (by decide) ?_
      exact g_iret C0 G (Or.inr (Or.inr (⟨rfl, rfl, hx9⟩))) dL_lose_22
  obtain ⟨k, hk, rfl, i, hi, rfl, j, hj, rfl, hcd0, rfl, hw⟩ := hp
  have G := g_wc hw G
  refine W.eq (g2 := F0 m 10 ls [.int (kdI ((va_up (saU fr kp) k (shF ((saU fr kp) k) (sbB ((saU vw kp) k)) (scN (vw k) i j) false)) k) ((va_up (saU bk kp) k (shB ((saU bk kp) k) (sbB ((saU vw kp) k)) (scN (vw k) i j) false)) k) (scN (vw k) i j)), .int (nI 0), .ref ou]) rfl ?_
  refine lv_i2l hx hb dL_lose_10 rfl ?_
  refine g_last (q0 := 30) (n := 1) (W2 := wC ad cy (va_up (saU fr kp) k (shF ((saU fr kp) k) (sbB ((saU vw kp) k)) (scN (vw k) i j) false)) (va_up (saU bk kp) k (shB ((saU bk kp) k) (sbB ((saU vw kp) k)) (scN (vw k) i j) false)) (saU vw kp) tk to fk fo (saK kp) sp lt ib rw cl nu tv tm ta ml tn ((ou, .inl (cy 2, 1, .inr (.inl (vp_updL og 0 ((kdI ((va_up (saU fr kp) k (shF ((saU fr kp) k) (sbB ((saU vw kp) k)) (scN (vw k) i j) false)) k) ((va_up (saU bk kp) k (shB ((saU bk kp) k) (sbB ((saU vw kp) k)) (scN (vw k) i j) false)) k) (scN (vw k) i j)).toInt64))))) :: (od, .inl (cy 3, 1, .inr (.inr (.inr (.inl oh))))) :: R)) C0 G wC_o0 2 rfl (vp_in_nI (n := 0) (by omega) (by decide)) (by rw [nI_clamp (n := 0) (by omega)]; exact wC_s0) dL_lose_11 (fun H locs G => ?_)
  refine lv_goto (tgt := 23) hx hb dL_lose_12 (by decide) ?_
  refine lv_iconst (v := 0) hx hb dL_lose_23 (by decide) ?_
  exact g_iret C0 G (Or.inl ⟨k, hk, rfl, i, hi, rfl, j, hj, rfl, hcd0, rfl, rfl⟩) dL_lose_24

set_option maxHeartbeats 4000000 in
set_option maxRecDepth 100000 in
theorem c_L_turn (l : Launch) (D : va_G) (cy : Nat → ClassId) (ad : Nat → Nat) (fr : Nat → Int64) (bk : Nat → Int64) (vw : Nat → Nat) (tk : Int64) (to : Int64) (fk : Int64) (fo : Int64) (kp : Nat) (sp : Nat) (lt : Nat) (ib : Bool) (rw : Nat) (cl : Nat) (nu : Nat) (tv : Nat) (tm : Nat) (ta : Nat → Int32) (ml : Int32) (tn : Nat) (R : va_W) (ou od : Nat) (og : Nat → Int64) (oh : Nat → UInt64) (p0 : Int32) (p1 : Int32) (hst : l.stackTraces = false) (hkp : kp ≤ 6) : GH l D (gts cy) yL_turn cL_turn 5 (some .int) [((0 : Nat), (10 : Nat), (13 : Nat), (13 : Nat)), ((0 : Nat), (10 : Nat), (17 : Nat), (15 : Nat))] 4 4 24 [.ref (ad 0), .int p0, .int p1, .ref ou] (wC ad cy fr bk vw tk to fk fo kp sp lt ib rw cl nu tv tm ta ml tn ((ou, .inl (cy 2, 1, .inr (.inl og))) :: (od, .inl (cy 3, 1, .inr (.inr (.inr (.inl oh))))) :: R)) (fun r W2 => (∃ k : Nat, k < 3 ∧ p0 = nI k ∧ ∃ v : Nat, v < 4 ∧ p1 = nI v ∧ r = some (.int 0) ∧ W2 = wC ad cy (saU fr kp) (saU bk kp) (va_up (saU vw kp) k v) tk to fk fo (saK kp) sp lt ib rw cl nu tv tm ta ml tn ((ou, .inl (cy 2, 1, .inr (.inl (vp_updL og 0 ((nI ((saU vw kp) k))).toInt64)))) :: (od, .inl (cy 3, 1, .inr (.inr (.inr (.inl oh))))) :: R)) ∨ (r = some (.int 1) ∧ W2 = wC ad cy fr bk vw tk to fk fo kp sp lt ib rw cl nu tv tm ta ml tn ((ou, .inl (cy 2, 1, .inr (.inl og))) :: (od, .inl (cy 3, 1, .inr (.inr (.inr (.inl oh))))) :: R) ∧ (ir p0 3 = false)) ∨ (r = some (.int 2) ∧ W2 = wC ad cy fr bk vw tk to fk fo kp sp lt ib rw cl nu tv tm ta ml tn ((ou, .inl (cy 2, 1, .inr (.inl og))) :: (od, .inl (cy 3, 1, .inr (.inr (.inr (.inl oh))))) :: R) ∧ (ir p0 3 = true ∧ ir p1 4 = false))) := by
  refine g_introH (by decide +kernel) (lv := [(0, .ref (ad 0)), (1, .int p0), (2, .int p1), (3, .ref ou)]) rfl (Nat.le_of_ble_eq_true rfl) ?_
  intro p e s m below meth c C0 hex G ls hl
  have hx := C0.1
  have hb := C0.2.1
  have hown := C0.2.2.2.2.2.1
  have hts := C0.2.2.2.2.2.2.1
  refine lv_aload_n hx hb dL_turn_0 rfl (lv_at hl 3 rfl) ?_
  refine lv_iconst (v := 0) hx hb dL_turn_1 (by decide) ?_
  refine g_topi (x' := nI 0) rfl ?_
  refine lv_aload_n hx hb dL_turn_2 rfl (lv_at hl 0 rfl) ?_
  refine lv_iload_n hx hb dL_turn_3 rfl (lv_at hl 1 rfl) ?_
  refine lv_iload_n hx hb dL_turn_4 rfl (lv_at hl 2 rfl) ?_
  refine g_callXV (As := [.int p0, .int p1]) (rest := [.int (nI 0), .ref ou]) (q0 := 0) C0 G (c_X4_turn l D cy (ad := ad) (fr := fr) (bk := bk) (vw := vw) (tk := tk) (to := to) (fk := fk) (fo := fo) (kp := kp) (sp := sp) (lt := lt) (ib := ib) (rw := rw) (cl := cl) (nu := nu) (tv := tv) (tm := tm) (ta := ta) (ml := ml) (tn := tn) (R := ((ou, .inl (cy 2, 1, .inr (.inl og))) :: (od, .inl (cy 3, 1, .inr (.inr (.inr (.inl oh))))) :: R)) (p0 := p0) (p1 := p1) hst hkp) k_X4_turn ml_L_36 rfl rfl dL_turn_5 rfl rfl hl.1 (Nat.le_of_ble_eq_true rfl) ⟨Nat.le_of_ble_eq_true rfl, Nat.le_of_ble_eq_true rfl⟩ ⟨Nat.le_of_ble_eq_true rfl, Nat.le_of_ble_eq_true rfl⟩ (fun E ce q9 H locs hx9 G hce hcv hcl => ?_) (fun r W2 H locs hp G => ?_)
  · rcases hx9 with ⟨rfl, hx9⟩ | ⟨rfl, hx9⟩
    · skip
      refine g_catch (name := "java/lang/IndexOutOfBoundsException") (hp0 := []) (x := ((0 : Nat), (10 : Nat), (13 : Nat), (13 : Nat))) (hs0 := [((0 : Nat), (10 : Nat), (17 : Nat), (15 : Nat))]) C0 hex rfl (List.forall_mem_nil _) (by decide +kernel) (by decide) xl_L_13 ca_50 hce hcv hcl ?_
      refine lv_astore (lv' := [(4, .ref q9), (0, .ref (ad 0)), (1, .int p0), (2, .int p1), (3, .ref ou)]) hx hb dL_turn_13 hl (by decide) rfl (fun ls hl => ?_)
      refine lv_iconst (v := 1) hx hb dL_turn_15 (by decide) ?_
      exact g_iret C0 G (Or.inr (Or.inl ⟨rfl, rfl, hx9⟩)) dL_turn_16
    · skip
      refine g_catch (name := "java/lang/IllegalArgumentException") (hp0 := [((0 : Nat), (10 : Nat), (13 : Nat), (13 : Nat))]) (x := ((0 : Nat), (10 : Nat), (17 : Nat), (15 : Nat))) (hs0 := []) C0 hex rfl (List.forall_mem_cons.mpr ⟨⟨by decide, "java/lang/IndexOutOfBoundsException", xl_L_13, by decide +kernel⟩, (List.forall_mem_nil _)⟩) (by decide +kernel) (by decide) xl_L_15 ca_23 hce hcv hcl ?_
      refine lv_astore (lv' := [(4, .ref q9), (0, .ref (ad 0)), (1, .int p0), (2, .int p1), (3, .ref ou)]) hx hb dL_turn_17 hl (by decide) rfl (fun ls hl => ?_)
      refine lv_iconst (v := 2) hx hb dL_turn_19 (by decide) ?_
      exact g_iret C0 G (Or.inr (Or.inr (⟨rfl, rfl, hx9⟩))) dL_turn_20
  obtain ⟨k, hk, rfl, v, hv, rfl, rfl, hw⟩ := hp
  have G := g_wc hw G
  refine W.eq (g2 := F0 m 8 ls [.int (nI ((saU vw kp) k)), .int (nI 0), .ref ou]) rfl ?_
  refine lv_i2l hx hb dL_turn_8 rfl ?_
  refine g_last (q0 := 30) (n := 1) (W2 := wC ad cy (saU fr kp) (saU bk kp) (va_up (saU vw kp) k v) tk to fk fo (saK kp) sp lt ib rw cl nu tv tm ta ml tn ((ou, .inl (cy 2, 1, .inr (.inl (vp_updL og 0 ((nI ((saU vw kp) k)).toInt64))))) :: (od, .inl (cy 3, 1, .inr (.inr (.inr (.inl oh))))) :: R)) C0 G wC_o0 2 rfl (vp_in_nI (n := 0) (by omega) (by decide)) (by rw [nI_clamp (n := 0) (by omega)]; exact wC_s0) dL_turn_9 (fun H locs G => ?_)
  refine lv_goto (tgt := 21) hx hb dL_turn_10 (by decide) ?_
  refine lv_iconst (v := 0) hx hb dL_turn_21 (by decide) ?_
  exact g_iret C0 G (Or.inl ⟨k, hk, rfl, v, hv, rfl, rfl, rfl⟩) dL_turn_22

set_option maxHeartbeats 4000000 in
set_option maxRecDepth 100000 in
theorem c_L_view (l : Launch) (D : va_G) (cy : Nat → ClassId) (ad : Nat → Nat) (fr : Nat → Int64) (bk : Nat → Int64) (vw : Nat → Nat) (tk : Int64) (to : Int64) (fk : Int64) (fo : Int64) (kp : Nat) (sp : Nat) (lt : Nat) (ib : Bool) (rw : Nat) (cl : Nat) (nu : Nat) (tv : Nat) (tm : Nat) (ta : Nat → Int32) (ml : Int32) (tn : Nat) (R : va_W) (ou od : Nat) (og : Nat → Int64) (oh : Nat → UInt64) (p0 : Int32) (hst : l.stackTraces = false) : GH l D (gts cy) yL_view cL_view 4 (some .int) [((0 : Nat), (9 : Nat), (12 : Nat), (13 : Nat))] 2 4 24 [.ref (ad 0), .int p0, .ref ou] (wC ad cy fr bk vw tk to fk fo kp sp lt ib rw cl nu tv tm ta ml tn ((ou, .inl (cy 2, 1, .inr (.inl og))) :: (od, .inl (cy 3, 1, .inr (.inr (.inr (.inl oh))))) :: R)) (fun r W2 => (∃ k : Nat, k < 3 ∧ p0 = nI k ∧ r = some (.int 0) ∧ W2 = wC ad cy fr bk vw tk to fk fo kp sp lt ib rw cl nu tv tm ta ml tn ((ou, .inl (cy 2, 1, .inr (.inl (vp_updL og 0 ((nI (vw k))).toInt64)))) :: (od, .inl (cy 3, 1, .inr (.inr (.inr (.inl oh))))) :: R)) ∨ (r = some (.int 1) ∧ W2 = wC ad cy fr bk vw tk to fk fo kp sp lt ib rw cl nu tv tm ta ml tn ((ou, .inl (cy 2, 1, .inr (.inl og))) :: (od, .inl (cy 3, 1, .inr (.inr (.inr (.inl oh))))) :: R) ∧ (ir p0 3 = false))) := by
  refine g_introH (by decide +kernel) (lv := [(0, .ref (ad 0)), (1, .int p0), (2, .ref ou)]) rfl (Nat.le_of_ble_eq_true rfl) ?_
  intro p e s m below meth c C0 hex G ls hl
  have hx := C0.1
  have hb := C0.2.1
  have hown := C0.2.2.2.2.2.1
  have hts := C0.2.2.2.2.2.2.1
  refine lv_aload_n hx hb dL_view_0 rfl (lv_at hl 2 rfl) ?_
  refine lv_iconst (v := 0) hx hb dL_view_1 (by decide) ?_
  refine g_topi (x' := nI 0) rfl ?_
  refine lv_aload_n hx hb dL_view_2 rfl (lv_at hl 0 rfl) ?_
  refine lv_iload_n hx hb dL_view_3 rfl (lv_at hl 1 rfl) ?_
  refine g_callXV (As := [.int p0]) (rest := [.int (nI 0), .ref ou]) (q0 := 0) C0 G (c_X4_view l D cy (ad := ad) (fr := fr) (bk := bk) (vw := vw) (tk := tk) (to := to) (fk := fk) (fo := fo) (kp := kp) (sp := sp) (lt := lt) (ib := ib) (rw := rw) (cl := cl) (nu := nu) (tv := tv) (tm := tm) (ta := ta) (ml := ml) (tn := tn) (R := ((ou, .inl (cy 2, 1, .inr (.inl og))) :: (od, .inl (cy 3, 1, .inr (.inr (.inr (.inl oh))))) :: R)) (p0 := p0) hst) k_X4_view ml_L_39 rfl rfl dL_view_4 rfl rfl hl.1 (Nat.le_of_ble_eq_true rfl) ⟨Nat.le_of_ble_eq_true rfl, Nat.le_of_ble_eq_true rfl⟩ ⟨Nat.le_of_ble_eq_true rfl, Nat.le_of_ble_eq_true rfl⟩ (fun E ce q9 H locs hx9 G hce hcv hcl => ?_) (fun r W2 H locs hp G => ?_)
  · obtain ⟨rfl, hx9⟩ := hx9
    · skip
      refine g_catch (name := "java/lang/IndexOutOfBoundsException") (hp0 := []) (x := ((0 : Nat), (9 : Nat), (12 : Nat), (13 : Nat))) (hs0 := []) C0 hex rfl (List.forall_mem_nil _) (by decide +kernel) (by decide) xl_L_13 ca_50 hce hcv hcl ?_
      refine lv_astore_n (lv' := [(3, .ref q9), (0, .ref (ad 0)), (1, .int p0), (2, .ref ou)]) hx hb dL_view_12 rfl hl (by decide) rfl (fun ls hl => ?_)
      refine lv_iconst (v := 1) hx hb dL_view_13 (by decide) ?_
      exact g_iret C0 G (Or.inr (⟨rfl, rfl, hx9⟩)) dL_view_14
  obtain ⟨k, hk, rfl, rfl, hw⟩ := hp
  have G := g_wc hw G
  refine W.eq (g2 := F0 m 7 ls [.int (nI (vw k)), .int (nI 0), .ref ou]) rfl ?_
  refine lv_i2l hx hb dL_view_7 rfl ?_
  refine g_last (q0 := 30) (n := 1) (W2 := wC ad cy fr bk vw tk to fk fo kp sp lt ib rw cl nu tv tm ta ml tn ((ou, .inl (cy 2, 1, .inr (.inl (vp_updL og 0 ((nI (vw k)).toInt64))))) :: (od, .inl (cy 3, 1, .inr (.inr (.inr (.inl oh))))) :: R)) C0 G wC_o0 2 rfl (vp_in_nI (n := 0) (by omega) (by decide)) (by rw [nI_clamp (n := 0) (by omega)]; exact wC_s0) dL_view_8 (fun H locs G => ?_)
  refine lv_goto (tgt := 15) hx hb dL_view_9 (by decide) ?_
  refine lv_iconst (v := 0) hx hb dL_view_15 (by decide) ?_
  exact g_iret C0 G (Or.inl ⟨k, hk, rfl, rfl, rfl⟩) dL_view_16

set_option maxHeartbeats 4000000 in
set_option maxRecDepth 100000 in
theorem c_L_sees (l : Launch) (D : va_G) (cy : Nat → ClassId) (ad : Nat → Nat) (fr : Nat → Int64) (bk : Nat → Int64) (vw : Nat → Nat) (tk : Int64) (to : Int64) (fk : Int64) (fo : Int64) (kp : Nat) (sp : Nat) (lt : Nat) (ib : Bool) (rw : Nat) (cl : Nat) (nu : Nat) (tv : Nat) (tm : Nat) (ta : Nat → Int32) (ml : Int32) (tn : Nat) (R : va_W) (ou od : Nat) (og : Nat → Int64) (oh : Nat → UInt64) (p0 : Int32) (p1 : Int32) (p2 : Int32) (hst : l.stackTraces = false) (hvw : ∀ k, k < 3 → vw k < 4) : GH l D (gts cy) yL_sees cL_sees 6 (some .int) [((0 : Nat), (19 : Nat), (22 : Nat), (13 : Nat))] 4 4 24 [.ref (ad 0), .int p0, .int p1, .int p2, .ref ou] (wC ad cy fr bk vw tk to fk fo kp sp lt ib rw cl nu tv tm ta ml tn ((ou, .inl (cy 2, 1, .inr (.inl og))) :: (od, .inl (cy 3, 1, .inr (.inr (.inr (.inl oh))))) :: R)) (fun r W2 => (∃ k : Nat, k < 3 ∧ p0 = nI k ∧ ∃ i : Nat, i < 8 ∧ p1 = nI i ∧ ∃ j : Nat, j < 8 ∧ p2 = nI j ∧ r = some (.int 0) ∧ W2 = wC ad cy fr bk vw tk to fk fo kp sp lt ib rw cl nu tv tm ta ml tn ((ou, .inl (cy 2, 1, .inr (.inl (vp_updL og 0 (bL (shB1 (fr k) (bk k) (vw k) i j)))))) :: (od, .inl (cy 3, 1, .inr (.inr (.inr (.inl oh))))) :: R)) ∨ (r = some (.int 1) ∧ W2 = wC ad cy fr bk vw tk to fk fo kp sp lt ib rw cl nu tv tm ta ml tn ((ou, .inl (cy 2, 1, .inr (.inl og))) :: (od, .inl (cy 3, 1, .inr (.inr (.inr (.inl oh))))) :: R) ∧ ((ir p0 3 && ir p1 8 && ir p2 8) = false))) := by
  refine g_introH (by decide +kernel) (lv := [(0, .ref (ad 0)), (1, .int p0), (2, .int p1), (3, .int p2), (4, .ref ou)]) rfl (Nat.le_of_ble_eq_true rfl) ?_
  intro p e s m below meth c C0 hex G ls hl
  have hx := C0.1
  have hb := C0.2.1
  have hown := C0.2.2.2.2.2.1
  have hts := C0.2.2.2.2.2.2.1
  refine lv_aload hx hb dL_sees_0 (lv_at hl 4 rfl) ?_
  refine lv_iconst (v := 0) hx hb dL_sees_2 (by decide) ?_
  refine g_topi (x' := nI 0) rfl ?_
  refine lv_aload_n hx hb dL_sees_3 rfl (lv_at hl 0 rfl) ?_
  refine lv_iload_n hx hb dL_sees_4 rfl (lv_at hl 1 rfl) ?_
  refine lv_iload_n hx hb dL_sees_5 rfl (lv_at hl 2 rfl) ?_
  refine lv_iload_n hx hb dL_sees_6 rfl (lv_at hl 3 rfl) ?_
  refine g_callXV (As := [.int p0, .int p1, .int p2]) (rest := [.int (nI 0), .ref ou]) (q0 := 0) C0 G (c_X4_sees l D cy (ad := ad) (fr := fr) (bk := bk) (vw := vw) (tk := tk) (to := to) (fk := fk) (fo := fo) (kp := kp) (sp := sp) (lt := lt) (ib := ib) (rw := rw) (cl := cl) (nu := nu) (tv := tv) (tm := tm) (ta := ta) (ml := ml) (tn := tn) (R := ((ou, .inl (cy 2, 1, .inr (.inl og))) :: (od, .inl (cy 3, 1, .inr (.inr (.inr (.inl oh))))) :: R)) (p0 := p0) (p1 := p1) (p2 := p2) hst hvw) k_X4_sees ml_L_42 rfl rfl dL_sees_7 rfl rfl hl.1 (Nat.le_of_ble_eq_true rfl) ⟨Nat.le_of_ble_eq_true rfl, Nat.le_of_ble_eq_true rfl⟩ ⟨Nat.le_of_ble_eq_true rfl, Nat.le_of_ble_eq_true rfl⟩ (fun E ce q9 H locs hx9 G hce hcv hcl => ?_) (fun r W2 H locs hp G => ?_)
  · obtain ⟨rfl, hx9⟩ := hx9
    · skip
      refine g_catch (name := "java/lang/IndexOutOfBoundsException") (hp0 := []) (x := ((0 : Nat), (19 : Nat), (22 : Nat), (13 : Nat))) (hs0 := []) C0 hex rfl (List.forall_mem_nil _) (by decide +kernel) (by decide) xl_L_13 ca_50 hce hcv hcl ?_
      refine lv_astore (lv' := [(5, .ref q9), (0, .ref (ad 0)), (1, .int p0), (2, .int p1), (3, .int p2), (4, .ref ou)]) hx hb dL_sees_22 hl (by decide) rfl (fun ls hl => ?_)
      refine lv_iconst (v := 1) hx hb dL_sees_24 (by decide) ?_
      exact g_iret C0 G (Or.inr (⟨rfl, rfl, hx9⟩)) dL_sees_25
  obtain ⟨k, hk, rfl, i, hi, rfl, j, hj, rfl, rfl, hw⟩ := hp
  have G := g_wc hw G
  refine W.eq (g2 := F0 m 10 ls [.int (bI (shB1 (fr k) (bk k) (vw k) i j)), .int (nI 0), .ref ou]) rfl ?_
  refine lv_if_eq (tgt := 17) hx hb dL_sees_10 (by decide) (fun c_10 => ?_) (fun c_10 => ?_)
  · skip
    have c_10 : (shB1 (fr k) (bk k) (vw k) i j) = false := bI_f c_10
    refine lv_lconst (v := 0) hx hb dL_sees_17 (by decide) ?_
    refine g_topl (x' := bL (shB1 (fr k) (bk k) (vw k) i j)) (by rw [c_10]; rfl) ?_
    refine g_last (q0 := 30) (n := 1) (W2 := wC ad cy fr bk vw tk to fk fo kp sp lt ib rw cl nu tv tm ta ml tn ((ou, .inl (cy 2, 1, .inr (.inl (vp_updL og 0 (bL (shB1 (fr k) (bk k) (vw k) i j)))))) :: (od, .inl (cy 3, 1, .inr (.inr (.inr (.inl oh))))) :: R)) C0 G wC_o0 2 rfl (vp_in_nI (n := 0) (by omega) (by decide)) (by rw [nI_clamp (n := 0) (by omega)]; exact wC_s0) dL_sees_18 (fun H locs G => ?_)
    refine lv_goto (tgt := 26) hx hb dL_sees_19 (by decide) ?_
    refine lv_iconst (v := 0) hx hb dL_sees_26 (by decide) ?_
    exact g_iret C0 G (Or.inl ⟨k, hk, rfl, i, hi, rfl, j, hj, rfl, rfl, rfl⟩) dL_sees_27
  · skip
    have c_10 : (shB1 (fr k) (bk k) (vw k) i j) = true := bI_t c_10
    refine lv_lconst (v := 1) hx hb dL_sees_13 (by decide) ?_
    refine lv_goto (tgt := 18) hx hb dL_sees_14 (by decide) ?_
    refine g_topl (x' := bL (shB1 (fr k) (bk k) (vw k) i j)) (by rw [c_10]; rfl) ?_
    refine g_last (q0 := 30) (n := 1) (W2 := wC ad cy fr bk vw tk to fk fo kp sp lt ib rw cl nu tv tm ta ml tn ((ou, .inl (cy 2, 1, .inr (.inl (vp_updL og 0 (bL (shB1 (fr k) (bk k) (vw k) i j)))))) :: (od, .inl (cy 3, 1, .inr (.inr (.inr (.inl oh))))) :: R)) C0 G wC_o0 2 rfl (vp_in_nI (n := 0) (by omega) (by decide)) (by rw [nI_clamp (n := 0) (by omega)]; exact wC_s0) dL_sees_18 (fun H locs G => ?_)
    refine lv_goto (tgt := 26) hx hb dL_sees_19 (by decide) ?_
    refine lv_iconst (v := 0) hx hb dL_sees_26 (by decide) ?_
    exact g_iret C0 G (Or.inl ⟨k, hk, rfl, i, hi, rfl, j, hj, rfl, rfl, rfl⟩) dL_sees_27

set_option maxHeartbeats 4000000 in
set_option maxRecDepth 100000 in
theorem c_L_raw (l : Launch) (D : va_G) (cy : Nat → ClassId) (ad : Nat → Nat) (fr : Nat → Int64) (bk : Nat → Int64) (vw : Nat → Nat) (tk : Int64) (to : Int64) (fk : Int64) (fo : Int64) (kp : Nat) (sp : Nat) (lt : Nat) (ib : Bool) (rw : Nat) (cl : Nat) (nu : Nat) (tv : Nat) (tm : Nat) (ta : Nat → Int32) (ml : Int32) (tn : Nat) (R : va_W) (ou od : Nat) (og : Nat → Int64) (oh : Nat → UInt64) (p0 : Int32) (p1 : Int32) (hst : l.stackTraces = false) (hvw : ∀ k, k < 3 → vw k < 4) : GH l D (gts cy) yL_raw cL_raw 5 (some .int) [((0 : Nat), (10 : Nat), (13 : Nat), (13 : Nat))] 5 4 24 [.ref (ad 0), .int p0, .int p1, .ref ou] (wC ad cy fr bk vw tk to fk fo kp sp lt ib rw cl nu tv tm ta ml tn ((ou, .inl (cy 2, 1, .inr (.inl og))) :: (od, .inl (cy 3, 1, .inr (.inr (.inr (.inl oh))))) :: R)) (fun r W2 => (∃ k : Nat, k < 3 ∧ p0 = nI k ∧ ∃ i : Nat, i < 8 ∧ p1 = nI i ∧ r = some (.int 0) ∧ W2 = wC ad cy fr bk vw tk to fk fo kp sp lt ib rw cl nu tv tm ta ml tn ((ou, .inl (cy 2, 1, .inr (.inl (vp_updL og 0 ((nI (rwN (fr k) (bk k) (vw k) i 8))).toInt64)))) :: (od, .inl (cy 3, 1, .inr (.inr (.inr (.inl oh))))) :: R)) ∨ (r = some (.int 1) ∧ W2 = wC ad cy fr bk vw tk to fk fo kp sp lt ib rw cl nu tv tm ta ml tn ((ou, .inl (cy 2, 1, .inr (.inl og))) :: (od, .inl (cy 3, 1, .inr (.inr (.inr (.inl oh))))) :: R) ∧ ((ir p0 3 && ir p1 8) = false))) := by
  refine g_introH (by decide +kernel) (lv := [(0, .ref (ad 0)), (1, .int p0), (2, .int p1), (3, .ref ou)]) rfl (Nat.le_of_ble_eq_true rfl) ?_
  intro p e s m below meth c C0 hex G ls hl
  have hx := C0.1
  have hb := C0.2.1
  have hown := C0.2.2.2.2.2.1
  have hts := C0.2.2.2.2.2.2.1
  refine lv_aload_n hx hb dL_raw_0 rfl (lv_at hl 3 rfl) ?_
  refine lv_iconst (v := 0) hx hb dL_raw_1 (by decide) ?_
  refine g_topi (x' := nI 0) rfl ?_
  refine lv_aload_n hx hb dL_raw_2 rfl (lv_at hl 0 rfl) ?_
  refine lv_iload_n hx hb dL_raw_3 rfl (lv_at hl 1 rfl) ?_
  refine lv_iload_n hx hb dL_raw_4 rfl (lv_at hl 2 rfl) ?_
  refine g_callXV (As := [.int p0, .int p1]) (rest := [.int (nI 0), .ref ou]) (q0 := 0) C0 G (c_X4_raw l D cy (ad := ad) (fr := fr) (bk := bk) (vw := vw) (tk := tk) (to := to) (fk := fk) (fo := fo) (kp := kp) (sp := sp) (lt := lt) (ib := ib) (rw := rw) (cl := cl) (nu := nu) (tv := tv) (tm := tm) (ta := ta) (ml := ml) (tn := tn) (R := ((ou, .inl (cy 2, 1, .inr (.inl og))) :: (od, .inl (cy 3, 1, .inr (.inr (.inr (.inl oh))))) :: R)) (p0 := p0) (p1 := p1) hst hvw) k_X4_raw ml_L_46 rfl rfl dL_raw_5 rfl rfl hl.1 (Nat.le_of_ble_eq_true rfl) ⟨Nat.le_of_ble_eq_true rfl, Nat.le_of_ble_eq_true rfl⟩ ⟨Nat.le_of_ble_eq_true rfl, Nat.le_of_ble_eq_true rfl⟩ (fun E ce q9 H locs hx9 G hce hcv hcl => ?_) (fun r W2 H locs hp G => ?_)
  · obtain ⟨rfl, hx9⟩ := hx9
    · skip
      refine g_catch (name := "java/lang/IndexOutOfBoundsException") (hp0 := []) (x := ((0 : Nat), (10 : Nat), (13 : Nat), (13 : Nat))) (hs0 := []) C0 hex rfl (List.forall_mem_nil _) (by decide +kernel) (by decide) xl_L_13 ca_50 hce hcv hcl ?_
      refine lv_astore (lv' := [(4, .ref q9), (0, .ref (ad 0)), (1, .int p0), (2, .int p1), (3, .ref ou)]) hx hb dL_raw_13 hl (by decide) rfl (fun ls hl => ?_)
      refine lv_iconst (v := 1) hx hb dL_raw_15 (by decide) ?_
      exact g_iret C0 G (Or.inr (⟨rfl, rfl, hx9⟩)) dL_raw_16
  obtain ⟨k, hk, rfl, i, hi, rfl, rfl, hw⟩ := hp
  have G := g_wc hw G
  refine W.eq (g2 := F0 m 8 ls [.int (nI (rwN (fr k) (bk k) (vw k) i 8)), .int (nI 0), .ref ou]) rfl ?_
  refine lv_i2l hx hb dL_raw_8 rfl ?_
  refine g_last (q0 := 30) (n := 1) (W2 := wC ad cy fr bk vw tk to fk fo kp sp lt ib rw cl nu tv tm ta ml tn ((ou, .inl (cy 2, 1, .inr (.inl (vp_updL og 0 ((nI (rwN (fr k) (bk k) (vw k) i 8)).toInt64))))) :: (od, .inl (cy 3, 1, .inr (.inr (.inr (.inl oh))))) :: R)) C0 G wC_o0 2 rfl (vp_in_nI (n := 0) (by omega) (by decide)) (by rw [nI_clamp (n := 0) (by omega)]; exact wC_s0) dL_raw_9 (fun H locs G => ?_)
  refine lv_goto (tgt := 17) hx hb dL_raw_10 (by decide) ?_
  refine lv_iconst (v := 0) hx hb dL_raw_17 (by decide) ?_
  exact g_iret C0 G (Or.inl ⟨k, hk, rfl, i, hi, rfl, rfl, rfl⟩) dL_raw_18

set_option maxHeartbeats 4000000 in
set_option maxRecDepth 100000 in
theorem c_L_kind (l : Launch) (D : va_G) (cy : Nat → ClassId) (ad : Nat → Nat) (fr : Nat → Int64) (bk : Nat → Int64) (vw : Nat → Nat) (tk : Int64) (to : Int64) (fk : Int64) (fo : Int64) (kp : Nat) (sp : Nat) (lt : Nat) (ib : Bool) (rw : Nat) (cl : Nat) (nu : Nat) (tv : Nat) (tm : Nat) (ta : Nat → Int32) (ml : Int32) (tn : Nat) (R : va_W) (ou od : Nat) (og : Nat → Int64) (oh : Nat → UInt64) (p0 : Int32) (p1 : Int32) (p2 : Int32) (hst : l.stackTraces = false) : GH l D (gts cy) yL_kind cL_kind 6 (some .int) [((0 : Nat), (12 : Nat), (15 : Nat), (13 : Nat))] 3 4 24 [.ref (ad 0), .int p0, .int p1, .int p2, .ref ou] (wC ad cy fr bk vw tk to fk fo kp sp lt ib rw cl nu tv tm ta ml tn ((ou, .inl (cy 2, 1, .inr (.inl og))) :: (od, .inl (cy 3, 1, .inr (.inr (.inr (.inl oh))))) :: R)) (fun r W2 => (∃ k : Nat, k < 3 ∧ p0 = nI k ∧ ∃ i : Nat, i < 8 ∧ p1 = nI i ∧ ∃ j : Nat, j < 8 ∧ p2 = nI j ∧ r = some (.int 0) ∧ W2 = wC ad cy fr bk vw tk to fk fo kp sp lt ib rw cl nu tv tm ta ml tn ((ou, .inl (cy 2, 1, .inr (.inl (vp_updL og 0 ((kdI (fr k) (bk k) (8 * i + j))).toInt64)))) :: (od, .inl (cy 3, 1, .inr (.inr (.inr (.inl oh))))) :: R)) ∨ (r = some (.int 1) ∧ W2 = wC ad cy fr bk vw tk to fk fo kp sp lt ib rw cl nu tv tm ta ml tn ((ou, .inl (cy 2, 1, .inr (.inl og))) :: (od, .inl (cy 3, 1, .inr (.inr (.inr (.inl oh))))) :: R) ∧ ((ir p0 3 && ir p1 8 && ir p2 8) = false))) := by
  refine g_introH (by decide +kernel) (lv := [(0, .ref (ad 0)), (1, .int p0), (2, .int p1), (3, .int p2), (4, .ref ou)]) rfl (Nat.le_of_ble_eq_true rfl) ?_
  intro p e s m below meth c C0 hex G ls hl
  have hx := C0.1
  have hb := C0.2.1
  have hown := C0.2.2.2.2.2.1
  have hts := C0.2.2.2.2.2.2.1
  refine lv_aload hx hb dL_kind_0 (lv_at hl 4 rfl) ?_
  refine lv_iconst (v := 0) hx hb dL_kind_2 (by decide) ?_
  refine g_topi (x' := nI 0) rfl ?_
  refine lv_aload_n hx hb dL_kind_3 rfl (lv_at hl 0 rfl) ?_
  refine lv_iload_n hx hb dL_kind_4 rfl (lv_at hl 1 rfl) ?_
  refine lv_iload_n hx hb dL_kind_5 rfl (lv_at hl 2 rfl) ?_
  refine lv_iload_n hx hb dL_kind_6 rfl (lv_at hl 3 rfl) ?_
  refine g_callXV (As := [.int p0, .int p1, .int p2]) (rest := [.int (nI 0), .ref ou]) (q0 := 0) C0 G (c_X4_kind l D cy (ad := ad) (fr := fr) (bk := bk) (vw := vw) (tk := tk) (to := to) (fk := fk) (fo := fo) (kp := kp) (sp := sp) (lt := lt) (ib := ib) (rw := rw) (cl := cl) (nu := nu) (tv := tv) (tm := tm) (ta := ta) (ml := ml) (tn := tn) (R := ((ou, .inl (cy 2, 1, .inr (.inl og))) :: (od, .inl (cy 3, 1, .inr (.inr (.inr (.inl oh))))) :: R)) (p0 := p0) (p1 := p1) (p2 := p2) hst) k_X4_kind ml_L_49 rfl rfl dL_kind_7 rfl rfl hl.1 (Nat.le_of_ble_eq_true rfl) ⟨Nat.le_of_ble_eq_true rfl, Nat.le_of_ble_eq_true rfl⟩ ⟨Nat.le_of_ble_eq_true rfl, Nat.le_of_ble_eq_true rfl⟩ (fun E ce q9 H locs hx9 G hce hcv hcl => ?_) (fun r W2 H locs hp G => ?_)
  · obtain ⟨rfl, hx9⟩ := hx9
    · skip
      refine g_catch (name := "java/lang/IndexOutOfBoundsException") (hp0 := []) (x := ((0 : Nat), (12 : Nat), (15 : Nat), (13 : Nat))) (hs0 := []) C0 hex rfl (List.forall_mem_nil _) (by decide +kernel) (by decide) xl_L_13 ca_50 hce hcv hcl ?_
      refine lv_astore (lv' := [(5, .ref q9), (0, .ref (ad 0)), (1, .int p0), (2, .int p1), (3, .int p2), (4, .ref ou)]) hx hb dL_kind_15 hl (by decide) rfl (fun ls hl => ?_)
      refine lv_iconst (v := 1) hx hb dL_kind_17 (by decide) ?_
      exact g_iret C0 G (Or.inr (⟨rfl, rfl, hx9⟩)) dL_kind_18
  obtain ⟨k, hk, rfl, i, hi, rfl, j, hj, rfl, rfl, hw⟩ := hp
  have G := g_wc hw G
  refine W.eq (g2 := F0 m 10 ls [.int (kdI (fr k) (bk k) (8 * i + j)), .int (nI 0), .ref ou]) rfl ?_
  refine lv_i2l hx hb dL_kind_10 rfl ?_
  refine g_last (q0 := 30) (n := 1) (W2 := wC ad cy fr bk vw tk to fk fo kp sp lt ib rw cl nu tv tm ta ml tn ((ou, .inl (cy 2, 1, .inr (.inl (vp_updL og 0 ((kdI (fr k) (bk k) (8 * i + j)).toInt64))))) :: (od, .inl (cy 3, 1, .inr (.inr (.inr (.inl oh))))) :: R)) C0 G wC_o0 2 rfl (vp_in_nI (n := 0) (by omega) (by decide)) (by rw [nI_clamp (n := 0) (by omega)]; exact wC_s0) dL_kind_11 (fun H locs G => ?_)
  refine lv_goto (tgt := 19) hx hb dL_kind_12 (by decide) ?_
  refine lv_iconst (v := 0) hx hb dL_kind_19 (by decide) ?_
  exact g_iret C0 G (Or.inl ⟨k, hk, rfl, i, hi, rfl, j, hj, rfl, rfl, rfl⟩) dL_kind_20

set_option maxHeartbeats 4000000 in
set_option maxRecDepth 100000 in
theorem c_L_told (l : Launch) (D : va_G) (cy : Nat → ClassId) (ad : Nat → Nat) (fr : Nat → Int64) (bk : Nat → Int64) (vw : Nat → Nat) (tk : Int64) (to : Int64) (fk : Int64) (fo : Int64) (kp : Nat) (sp : Nat) (lt : Nat) (ib : Bool) (rw : Nat) (cl : Nat) (nu : Nat) (tv : Nat) (tm : Nat) (ta : Nat → Int32) (ml : Int32) (tn : Nat) (R : va_W) (ou od : Nat) (og : Nat → Int64) (oh : Nat → UInt64) (p0 : Int32) (p1 : Int32) (p2 : Int32) (hst : l.stackTraces = false) : GH l D (gts cy) yL_told cL_told 6 (some .int) [((0 : Nat), (12 : Nat), (15 : Nat), (13 : Nat))] 6 4 24 [.ref (ad 0), .int p0, .int p1, .int p2, .ref ou] (wC ad cy fr bk vw tk to fk fo kp sp lt ib rw cl nu tv tm ta ml tn ((ou, .inl (cy 2, 1, .inr (.inl og))) :: (od, .inl (cy 3, 1, .inr (.inr (.inr (.inl oh))))) :: R)) (fun r W2 => (∃ k : Nat, k < 3 ∧ p0 = nI k ∧ ∃ i : Nat, i < 8 ∧ p1 = nI i ∧ ∃ j : Nat, j < 8 ∧ p2 = nI j ∧ r = some (.int 0) ∧ W2 = wC ad cy fr bk vw ((fa (sdW (fr k) (bk k)) (onW (fr k) (bk k))).1) ((fa (sdW (fr k) (bk k)) (onW (fr k) (bk k))).2) fk fo kp sp lt ib rw cl nu tv tm ta ml tn ((ou, .inl (cy 2, 1, .inr (.inl (vp_updL og 0 ((biI ((fa (sdW (fr k) (bk k)) (onW (fr k) (bk k))).1) ((fa (sdW (fr k) (bk k)) (onW (fr k) (bk k))).2) (8 * i + j))).toInt64)))) :: (od, .inl (cy 3, 1, .inr (.inr (.inr (.inl oh))))) :: R)) ∨ (r = some (.int 1) ∧ W2 = wC ad cy fr bk vw tk to fk fo kp sp lt ib rw cl nu tv tm ta ml tn ((ou, .inl (cy 2, 1, .inr (.inl og))) :: (od, .inl (cy 3, 1, .inr (.inr (.inr (.inl oh))))) :: R) ∧ ((ir p0 3 && ir p1 8 && ir p2 8) = false))) := by
  refine g_introH (by decide +kernel) (lv := [(0, .ref (ad 0)), (1, .int p0), (2, .int p1), (3, .int p2), (4, .ref ou)]) rfl (Nat.le_of_ble_eq_true rfl) ?_
  intro p e s m below meth c C0 hex G ls hl
  have hx := C0.1
  have hb := C0.2.1
  have hown := C0.2.2.2.2.2.1
  have hts := C0.2.2.2.2.2.2.1
  refine lv_aload hx hb dL_told_0 (lv_at hl 4 rfl) ?_
  refine lv_iconst (v := 0) hx hb dL_told_2 (by decide) ?_
  refine g_topi (x' := nI 0) rfl ?_
  refine lv_aload_n hx hb dL_told_3 rfl (lv_at hl 0 rfl) ?_
  refine lv_iload_n hx hb dL_told_4 rfl (lv_at hl 1 rfl) ?_
  refine lv_iload_n hx hb dL_told_5 rfl (lv_at hl 2 rfl) ?_
  refine lv_iload_n hx hb dL_told_6 rfl (lv_at hl 3 rfl) ?_
  refine g_callXV (As := [.int p0, .int p1, .int p2]) (rest := [.int (nI 0), .ref ou]) (q0 := 0) C0 G (c_X4_told l D cy (ad := ad) (fr := fr) (bk := bk) (vw := vw) (tk := tk) (to := to) (fk := fk) (fo := fo) (kp := kp) (sp := sp) (lt := lt) (ib := ib) (rw := rw) (cl := cl) (nu := nu) (tv := tv) (tm := tm) (ta := ta) (ml := ml) (tn := tn) (R := ((ou, .inl (cy 2, 1, .inr (.inl og))) :: (od, .inl (cy 3, 1, .inr (.inr (.inr (.inl oh))))) :: R)) (p0 := p0) (p1 := p1) (p2 := p2) hst) k_X4_told ml_L_52 rfl rfl dL_told_7 rfl rfl hl.1 (Nat.le_of_ble_eq_true rfl) ⟨Nat.le_of_ble_eq_true rfl, Nat.le_of_ble_eq_true rfl⟩ ⟨Nat.le_of_ble_eq_true rfl, Nat.le_of_ble_eq_true rfl⟩ (fun E ce q9 H locs hx9 G hce hcv hcl => ?_) (fun r W2 H locs hp G => ?_)
  · obtain ⟨rfl, hx9⟩ := hx9
    · skip
      refine g_catch (name := "java/lang/IndexOutOfBoundsException") (hp0 := []) (x := ((0 : Nat), (12 : Nat), (15 : Nat), (13 : Nat))) (hs0 := []) C0 hex rfl (List.forall_mem_nil _) (by decide +kernel) (by decide) xl_L_13 ca_50 hce hcv hcl ?_
      refine lv_astore (lv' := [(5, .ref q9), (0, .ref (ad 0)), (1, .int p0), (2, .int p1), (3, .int p2), (4, .ref ou)]) hx hb dL_told_15 hl (by decide) rfl (fun ls hl => ?_)
      refine lv_iconst (v := 1) hx hb dL_told_17 (by decide) ?_
      exact g_iret C0 G (Or.inr (⟨rfl, rfl, hx9⟩)) dL_told_18
  obtain ⟨k, hk, rfl, i, hi, rfl, j, hj, rfl, rfl, hw⟩ := hp
  have G := g_wc hw G
  refine W.eq (g2 := F0 m 10 ls [.int (biI ((fa (sdW (fr k) (bk k)) (onW (fr k) (bk k))).1) ((fa (sdW (fr k) (bk k)) (onW (fr k) (bk k))).2) (8 * i + j)), .int (nI 0), .ref ou]) rfl ?_
  refine lv_i2l hx hb dL_told_10 rfl ?_
  refine g_last (q0 := 30) (n := 1) (W2 := wC ad cy fr bk vw ((fa (sdW (fr k) (bk k)) (onW (fr k) (bk k))).1) ((fa (sdW (fr k) (bk k)) (onW (fr k) (bk k))).2) fk fo kp sp lt ib rw cl nu tv tm ta ml tn ((ou, .inl (cy 2, 1, .inr (.inl (vp_updL og 0 ((biI ((fa (sdW (fr k) (bk k)) (onW (fr k) (bk k))).1) ((fa (sdW (fr k) (bk k)) (onW (fr k) (bk k))).2) (8 * i + j)).toInt64))))) :: (od, .inl (cy 3, 1, .inr (.inr (.inr (.inl oh))))) :: R)) C0 G wC_o0 2 rfl (vp_in_nI (n := 0) (by omega) (by decide)) (by rw [nI_clamp (n := 0) (by omega)]; exact wC_s0) dL_told_11 (fun H locs G => ?_)
  refine lv_goto (tgt := 19) hx hb dL_told_12 (by decide) ?_
  refine lv_iconst (v := 0) hx hb dL_told_19 (by decide) ?_
  exact g_iret C0 G (Or.inl ⟨k, hk, rfl, i, hi, rfl, j, hj, rfl, rfl, rfl⟩) dL_told_20

set_option maxHeartbeats 4000000 in
set_option maxRecDepth 100000 in
theorem c_L_count (l : Launch) (D : va_G) (cy : Nat → ClassId) (ad : Nat → Nat) (fr : Nat → Int64) (bk : Nat → Int64) (vw : Nat → Nat) (tk : Int64) (to : Int64) (fk : Int64) (fo : Int64) (kp : Nat) (sp : Nat) (lt : Nat) (ib : Bool) (rw : Nat) (cl : Nat) (nu : Nat) (tv : Nat) (tm : Nat) (ta : Nat → Int32) (ml : Int32) (tn : Nat) (R : va_W) (ou od : Nat) (og : Nat → Int64) (oh : Nat → UInt64) (p0 : Int32) (p1 : Int32) (hst : l.stackTraces = false) : GH l D (gts cy) yL_count cL_count 5 (some .int) [((0 : Nat), (10 : Nat), (13 : Nat), (13 : Nat))] 3 4 24 [.ref (ad 0), .int p0, .int p1, .ref ou] (wC ad cy fr bk vw tk to fk fo kp sp lt ib rw cl nu tv tm ta ml tn ((ou, .inl (cy 2, 1, .inr (.inl og))) :: (od, .inl (cy 3, 1, .inr (.inr (.inr (.inl oh))))) :: R)) (fun r W2 => (∃ k : Nat, k < 3 ∧ p0 = nI k ∧ ∃ u : Nat, u < 4 ∧ p1 = nI u ∧ r = some (.int 0) ∧ W2 = wC ad cy fr bk vw tk to fk fo kp sp lt ib rw cl nu tv tm ta ml tn ((ou, .inl (cy 2, 1, .inr (.inl (vp_updL og 0 ((nI (pc (kdW (fr k) (bk k) u)))).toInt64)))) :: (od, .inl (cy 3, 1, .inr (.inr (.inr (.inl oh))))) :: R)) ∨ (r = some (.int 1) ∧ W2 = wC ad cy fr bk vw tk to fk fo kp sp lt ib rw cl nu tv tm ta ml tn ((ou, .inl (cy 2, 1, .inr (.inl og))) :: (od, .inl (cy 3, 1, .inr (.inr (.inr (.inl oh))))) :: R) ∧ ((ir p0 3 && ir p1 4) = false))) := by
  refine g_introH (by decide +kernel) (lv := [(0, .ref (ad 0)), (1, .int p0), (2, .int p1), (3, .ref ou)]) rfl (Nat.le_of_ble_eq_true rfl) ?_
  intro p e s m below meth c C0 hex G ls hl
  have hx := C0.1
  have hb := C0.2.1
  have hown := C0.2.2.2.2.2.1
  have hts := C0.2.2.2.2.2.2.1
  refine lv_aload_n hx hb dL_count_0 rfl (lv_at hl 3 rfl) ?_
  refine lv_iconst (v := 0) hx hb dL_count_1 (by decide) ?_
  refine g_topi (x' := nI 0) rfl ?_
  refine lv_aload_n hx hb dL_count_2 rfl (lv_at hl 0 rfl) ?_
  refine lv_iload_n hx hb dL_count_3 rfl (lv_at hl 1 rfl) ?_
  refine lv_iload_n hx hb dL_count_4 rfl (lv_at hl 2 rfl) ?_
  refine g_callXV (As := [.int p0, .int p1]) (rest := [.int (nI 0), .ref ou]) (q0 := 0) C0 G (c_X4_count l D cy (ad := ad) (fr := fr) (bk := bk) (vw := vw) (tk := tk) (to := to) (fk := fk) (fo := fo) (kp := kp) (sp := sp) (lt := lt) (ib := ib) (rw := rw) (cl := cl) (nu := nu) (tv := tv) (tm := tm) (ta := ta) (ml := ml) (tn := tn) (R := ((ou, .inl (cy 2, 1, .inr (.inl og))) :: (od, .inl (cy 3, 1, .inr (.inr (.inr (.inl oh))))) :: R)) (p0 := p0) (p1 := p1) hst) k_X4_count ml_L_55 rfl rfl dL_count_5 rfl rfl hl.1 (Nat.le_of_ble_eq_true rfl) ⟨Nat.le_of_ble_eq_true rfl, Nat.le_of_ble_eq_true rfl⟩ ⟨Nat.le_of_ble_eq_true rfl, Nat.le_of_ble_eq_true rfl⟩ (fun E ce q9 H locs hx9 G hce hcv hcl => ?_) (fun r W2 H locs hp G => ?_)
  · obtain ⟨rfl, hx9⟩ := hx9
    · skip
      refine g_catch (name := "java/lang/IndexOutOfBoundsException") (hp0 := []) (x := ((0 : Nat), (10 : Nat), (13 : Nat), (13 : Nat))) (hs0 := []) C0 hex rfl (List.forall_mem_nil _) (by decide +kernel) (by decide) xl_L_13 ca_50 hce hcv hcl ?_
      refine lv_astore (lv' := [(4, .ref q9), (0, .ref (ad 0)), (1, .int p0), (2, .int p1), (3, .ref ou)]) hx hb dL_count_13 hl (by decide) rfl (fun ls hl => ?_)
      refine lv_iconst (v := 1) hx hb dL_count_15 (by decide) ?_
      exact g_iret C0 G (Or.inr (⟨rfl, rfl, hx9⟩)) dL_count_16
  obtain ⟨k, hk, rfl, u, hu, rfl, rfl, hw⟩ := hp
  have G := g_wc hw G
  refine W.eq (g2 := F0 m 8 ls [.int (nI (pc (kdW (fr k) (bk k) u))), .int (nI 0), .ref ou]) rfl ?_
  refine lv_i2l hx hb dL_count_8 rfl ?_
  refine g_last (q0 := 30) (n := 1) (W2 := wC ad cy fr bk vw tk to fk fo kp sp lt ib rw cl nu tv tm ta ml tn ((ou, .inl (cy 2, 1, .inr (.inl (vp_updL og 0 ((nI (pc (kdW (fr k) (bk k) u))).toInt64))))) :: (od, .inl (cy 3, 1, .inr (.inr (.inr (.inl oh))))) :: R)) C0 G wC_o0 2 rfl (vp_in_nI (n := 0) (by omega) (by decide)) (by rw [nI_clamp (n := 0) (by omega)]; exact wC_s0) dL_count_9 (fun H locs G => ?_)
  refine lv_goto (tgt := 17) hx hb dL_count_10 (by decide) ?_
  refine lv_iconst (v := 0) hx hb dL_count_17 (by decide) ?_
  exact g_iret C0 G (Or.inl ⟨k, hk, rfl, u, hu, rfl, rfl, rfl⟩) dL_count_18

set_option maxHeartbeats 4000000 in
set_option maxRecDepth 100000 in
theorem c_L_read (l : Launch) (D : va_G) (cy : Nat → ClassId) (ad : Nat → Nat) (fr : Nat → Int64) (bk : Nat → Int64) (vw : Nat → Nat) (tk : Int64) (to : Int64) (fk : Int64) (fo : Int64) (kp : Nat) (sp : Nat) (lt : Nat) (ib : Bool) (rw : Nat) (cl : Nat) (nu : Nat) (tv : Nat) (tm : Nat) (ta : Nat → Int32) (ml : Int32) (tn : Nat) (R : va_W) (ou od : Nat) (og : Nat → Int64) (oh : Nat → UInt64) (p0 : Int32) (p1 : Int32) (hst : l.stackTraces = false) : GH l D (gts cy) yL_read cL_read 5 (some .int) [((0 : Nat), (10 : Nat), (13 : Nat), (13 : Nat))] 3 4 24 [.ref (ad 0), .int p0, .int p1, .ref ou] (wC ad cy fr bk vw tk to fk fo kp sp lt ib rw cl nu tv tm ta ml tn ((ou, .inl (cy 2, 1, .inr (.inl og))) :: (od, .inl (cy 3, 1, .inr (.inr (.inr (.inl oh))))) :: R)) (fun r W2 => (∃ k : Nat, k < 3 ∧ p0 = nI k ∧ ∃ i : Nat, i < 7 ∧ p1 = nI i ∧ r = some (.int 0) ∧ W2 = wC ad cy fr bk vw tk to fk fo kp sp lt ib rw cl nu tv tm ta ml tn ((ou, .inl (cy 2, 1, .inr (.inl (vp_updL og 0 ((rvI (sdW (fr k) (bk k)) (onW (fr k) (bk k)) i)).toInt64)))) :: (od, .inl (cy 3, 1, .inr (.inr (.inr (.inl oh))))) :: R)) ∨ (r = some (.int 1) ∧ W2 = wC ad cy fr bk vw tk to fk fo kp sp lt ib rw cl nu tv tm ta ml tn ((ou, .inl (cy 2, 1, .inr (.inl og))) :: (od, .inl (cy 3, 1, .inr (.inr (.inr (.inl oh))))) :: R) ∧ ((ir p0 3 && ir p1 7) = false))) := by
  refine g_introH (by decide +kernel) (lv := [(0, .ref (ad 0)), (1, .int p0), (2, .int p1), (3, .ref ou)]) rfl (Nat.le_of_ble_eq_true rfl) ?_
  intro p e s m below meth c C0 hex G ls hl
  have hx := C0.1
  have hb := C0.2.1
  have hown := C0.2.2.2.2.2.1
  have hts := C0.2.2.2.2.2.2.1
  refine lv_aload_n hx hb dL_read_0 rfl (lv_at hl 3 rfl) ?_
  refine lv_iconst (v := 0) hx hb dL_read_1 (by decide) ?_
  refine g_topi (x' := nI 0) rfl ?_
  refine lv_aload_n hx hb dL_read_2 rfl (lv_at hl 0 rfl) ?_
  refine lv_iload_n hx hb dL_read_3 rfl (lv_at hl 1 rfl) ?_
  refine lv_iload_n hx hb dL_read_4 rfl (lv_at hl 2 rfl) ?_
  refine g_callXV (As := [.int p0, .int p1]) (rest := [.int (nI 0), .ref ou]) (q0 := 0) C0 G (c_X4_read l D cy (ad := ad) (fr := fr) (bk := bk) (vw := vw) (tk := tk) (to := to) (fk := fk) (fo := fo) (kp := kp) (sp := sp) (lt := lt) (ib := ib) (rw := rw) (cl := cl) (nu := nu) (tv := tv) (tm := tm) (ta := ta) (ml := ml) (tn := tn) (R := ((ou, .inl (cy 2, 1, .inr (.inl og))) :: (od, .inl (cy 3, 1, .inr (.inr (.inr (.inl oh))))) :: R)) (p0 := p0) (p1 := p1) hst) k_X4_read ml_L_58 rfl rfl dL_read_5 rfl rfl hl.1 (Nat.le_of_ble_eq_true rfl) ⟨Nat.le_of_ble_eq_true rfl, Nat.le_of_ble_eq_true rfl⟩ ⟨Nat.le_of_ble_eq_true rfl, Nat.le_of_ble_eq_true rfl⟩ (fun E ce q9 H locs hx9 G hce hcv hcl => ?_) (fun r W2 H locs hp G => ?_)
  · obtain ⟨rfl, hx9⟩ := hx9
    · skip
      refine g_catch (name := "java/lang/IndexOutOfBoundsException") (hp0 := []) (x := ((0 : Nat), (10 : Nat), (13 : Nat), (13 : Nat))) (hs0 := []) C0 hex rfl (List.forall_mem_nil _) (by decide +kernel) (by decide) xl_L_13 ca_50 hce hcv hcl ?_
      refine lv_astore (lv' := [(4, .ref q9), (0, .ref (ad 0)), (1, .int p0), (2, .int p1), (3, .ref ou)]) hx hb dL_read_13 hl (by decide) rfl (fun ls hl => ?_)
      refine lv_iconst (v := 1) hx hb dL_read_15 (by decide) ?_
      exact g_iret C0 G (Or.inr (⟨rfl, rfl, hx9⟩)) dL_read_16
  obtain ⟨k, hk, rfl, i, hi, rfl, rfl, hw⟩ := hp
  have G := g_wc hw G
  refine W.eq (g2 := F0 m 8 ls [.int (rvI (sdW (fr k) (bk k)) (onW (fr k) (bk k)) i), .int (nI 0), .ref ou]) rfl ?_
  refine lv_i2l hx hb dL_read_8 rfl ?_
  refine g_last (q0 := 30) (n := 1) (W2 := wC ad cy fr bk vw tk to fk fo kp sp lt ib rw cl nu tv tm ta ml tn ((ou, .inl (cy 2, 1, .inr (.inl (vp_updL og 0 ((rvI (sdW (fr k) (bk k)) (onW (fr k) (bk k)) i).toInt64))))) :: (od, .inl (cy 3, 1, .inr (.inr (.inr (.inl oh))))) :: R)) C0 G wC_o0 2 rfl (vp_in_nI (n := 0) (by omega) (by decide)) (by rw [nI_clamp (n := 0) (by omega)]; exact wC_s0) dL_read_9 (fun H locs G => ?_)
  refine lv_goto (tgt := 17) hx hb dL_read_10 (by decide) ?_
  refine lv_iconst (v := 0) hx hb dL_read_17 (by decide) ?_
  exact g_iret C0 G (Or.inl ⟨k, hk, rfl, i, hi, rfl, rfl, rfl⟩) dL_read_18

set_option maxHeartbeats 4000000 in
set_option maxRecDepth 100000 in
theorem c_L_value (l : Launch) (D : va_G) (cy : Nat → ClassId) (ad : Nat → Nat) (fr : Nat → Int64) (bk : Nat → Int64) (vw : Nat → Nat) (tk : Int64) (to : Int64) (fk : Int64) (fo : Int64) (kp : Nat) (sp : Nat) (lt : Nat) (ib : Bool) (rw : Nat) (cl : Nat) (nu : Nat) (tv : Nat) (tm : Nat) (ta : Nat → Int32) (ml : Int32) (tn : Nat) (R : va_W) (ou od : Nat) (og : Nat → Int64) (oh : Nat → UInt64) (p0 : Int32) (p1 : Int32) (hst : l.stackTraces = false) : GH l D (gts cy) yL_value cL_value 5 (some .int) [((0 : Nat), (10 : Nat), (13 : Nat), (13 : Nat))] 6 4 24 [.ref (ad 0), .int p0, .int p1, .ref ou] (wC ad cy fr bk vw tk to fk fo kp sp lt ib rw cl nu tv tm ta ml tn ((ou, .inl (cy 2, 1, .inr (.inl og))) :: (od, .inl (cy 3, 1, .inr (.inr (.inr (.inl oh))))) :: R)) (fun r W2 => (∃ k : Nat, k < 3 ∧ p0 = nI k ∧ ∃ i : Nat, i < 7 ∧ p1 = nI i ∧ r = some (.int 0) ∧ W2 = wC ad cy fr bk vw ((fa (sdW (fr k) (bk k)) (onW (fr k) (bk k))).1) ((fa (sdW (fr k) (bk k)) (onW (fr k) (bk k))).2) fk fo kp sp lt ib rw cl nu tv tm ta ml tn ((ou, .inl (cy 2, 1, .inr (.inl (vp_updL og 0 ((rvI ((fa (sdW (fr k) (bk k)) (onW (fr k) (bk k))).1) ((fa (sdW (fr k) (bk k)) (onW (fr k) (bk k))).2) i)).toInt64)))) :: (od, .inl (cy 3, 1, .inr (.inr (.inr (.inl oh))))) :: R)) ∨ (r = some (.int 1) ∧ W2 = wC ad cy fr bk vw tk to fk fo kp sp lt ib rw cl nu tv tm ta ml tn ((ou, .inl (cy 2, 1, .inr (.inl og))) :: (od, .inl (cy 3, 1, .inr (.inr (.inr (.inl oh))))) :: R) ∧ ((ir p0 3 && ir p1 7) = false))) := by
  refine g_introH (by decide +kernel) (lv := [(0, .ref (ad 0)), (1, .int p0), (2, .int p1), (3, .ref ou)]) rfl (Nat.le_of_ble_eq_true rfl) ?_
  intro p e s m below meth c C0 hex G ls hl
  have hx := C0.1
  have hb := C0.2.1
  have hown := C0.2.2.2.2.2.1
  have hts := C0.2.2.2.2.2.2.1
  refine lv_aload_n hx hb dL_value_0 rfl (lv_at hl 3 rfl) ?_
  refine lv_iconst (v := 0) hx hb dL_value_1 (by decide) ?_
  refine g_topi (x' := nI 0) rfl ?_
  refine lv_aload_n hx hb dL_value_2 rfl (lv_at hl 0 rfl) ?_
  refine lv_iload_n hx hb dL_value_3 rfl (lv_at hl 1 rfl) ?_
  refine lv_iload_n hx hb dL_value_4 rfl (lv_at hl 2 rfl) ?_
  refine g_callXV (As := [.int p0, .int p1]) (rest := [.int (nI 0), .ref ou]) (q0 := 0) C0 G (c_X4_value l D cy (ad := ad) (fr := fr) (bk := bk) (vw := vw) (tk := tk) (to := to) (fk := fk) (fo := fo) (kp := kp) (sp := sp) (lt := lt) (ib := ib) (rw := rw) (cl := cl) (nu := nu) (tv := tv) (tm := tm) (ta := ta) (ml := ml) (tn := tn) (R := ((ou, .inl (cy 2, 1, .inr (.inl og))) :: (od, .inl (cy 3, 1, .inr (.inr (.inr (.inl oh))))) :: R)) (p0 := p0) (p1 := p1) hst) k_X4_value ml_L_61 rfl rfl dL_value_5 rfl rfl hl.1 (Nat.le_of_ble_eq_true rfl) ⟨Nat.le_of_ble_eq_true rfl, Nat.le_of_ble_eq_true rfl⟩ ⟨Nat.le_of_ble_eq_true rfl, Nat.le_of_ble_eq_true rfl⟩ (fun E ce q9 H locs hx9 G hce hcv hcl => ?_) (fun r W2 H locs hp G => ?_)
  · obtain ⟨rfl, hx9⟩ := hx9
    · skip
      refine g_catch (name := "java/lang/IndexOutOfBoundsException") (hp0 := []) (x := ((0 : Nat), (10 : Nat), (13 : Nat), (13 : Nat))) (hs0 := []) C0 hex rfl (List.forall_mem_nil _) (by decide +kernel) (by decide) xl_L_13 ca_50 hce hcv hcl ?_
      refine lv_astore (lv' := [(4, .ref q9), (0, .ref (ad 0)), (1, .int p0), (2, .int p1), (3, .ref ou)]) hx hb dL_value_13 hl (by decide) rfl (fun ls hl => ?_)
      refine lv_iconst (v := 1) hx hb dL_value_15 (by decide) ?_
      exact g_iret C0 G (Or.inr (⟨rfl, rfl, hx9⟩)) dL_value_16
  obtain ⟨k, hk, rfl, i, hi, rfl, rfl, hw⟩ := hp
  have G := g_wc hw G
  refine W.eq (g2 := F0 m 8 ls [.int (rvI ((fa (sdW (fr k) (bk k)) (onW (fr k) (bk k))).1) ((fa (sdW (fr k) (bk k)) (onW (fr k) (bk k))).2) i), .int (nI 0), .ref ou]) rfl ?_
  refine lv_i2l hx hb dL_value_8 rfl ?_
  refine g_last (q0 := 30) (n := 1) (W2 := wC ad cy fr bk vw ((fa (sdW (fr k) (bk k)) (onW (fr k) (bk k))).1) ((fa (sdW (fr k) (bk k)) (onW (fr k) (bk k))).2) fk fo kp sp lt ib rw cl nu tv tm ta ml tn ((ou, .inl (cy 2, 1, .inr (.inl (vp_updL og 0 ((rvI ((fa (sdW (fr k) (bk k)) (onW (fr k) (bk k))).1) ((fa (sdW (fr k) (bk k)) (onW (fr k) (bk k))).2) i).toInt64))))) :: (od, .inl (cy 3, 1, .inr (.inr (.inr (.inl oh))))) :: R)) C0 G wC_o0 2 rfl (vp_in_nI (n := 0) (by omega) (by decide)) (by rw [nI_clamp (n := 0) (by omega)]; exact wC_s0) dL_value_9 (fun H locs G => ?_)
  refine lv_goto (tgt := 17) hx hb dL_value_10 (by decide) ?_
  refine lv_iconst (v := 0) hx hb dL_value_17 (by decide) ?_
  exact g_iret C0 G (Or.inl ⟨k, hk, rfl, i, hi, rfl, rfl, rfl⟩) dL_value_18

set_option maxHeartbeats 4000000 in
set_option maxRecDepth 100000 in
theorem c_L_untold (l : Launch) (D : va_G) (cy : Nat → ClassId) (ad : Nat → Nat) (fr : Nat → Int64) (bk : Nat → Int64) (vw : Nat → Nat) (tk : Int64) (to : Int64) (fk : Int64) (fo : Int64) (kp : Nat) (sp : Nat) (lt : Nat) (ib : Bool) (rw : Nat) (cl : Nat) (nu : Nat) (tv : Nat) (tm : Nat) (ta : Nat → Int32) (ml : Int32) (tn : Nat) (R : va_W) (ou od : Nat) (og : Nat → Int64) (oh : Nat → UInt64) (p0 : Int32) (hst : l.stackTraces = false) : GH l D (gts cy) yL_untold cL_untold 4 (some .int) [((0 : Nat), (9 : Nat), (12 : Nat), (13 : Nat))] 6 4 24 [.ref (ad 0), .int p0, .ref ou] (wC ad cy fr bk vw tk to fk fo kp sp lt ib rw cl nu tv tm ta ml tn ((ou, .inl (cy 2, 1, .inr (.inl og))) :: (od, .inl (cy 3, 1, .inr (.inr (.inr (.inl oh))))) :: R)) (fun r W2 => (∃ k : Nat, k < 3 ∧ p0 = nI k ∧ r = some (.int 0) ∧ W2 = wC ad cy fr bk vw ((fa (sdW (fr k) (bk k)) (onW (fr k) (bk k))).1) ((fa (sdW (fr k) (bk k)) (onW (fr k) (bk k))).2) fk fo kp sp lt ib rw cl nu tv tm ta ml tn ((ou, .inl (cy 2, 1, .inr (.inl (vp_updL og 0 ((nI (pc ((fa (sdW (fr k) (bk k)) (onW (fr k) (bk k))).1 ^^^ (-1))))).toInt64)))) :: (od, .inl (cy 3, 1, .inr (.inr (.inr (.inl oh))))) :: R)) ∨ (r = some (.int 1) ∧ W2 = wC ad cy fr bk vw tk to fk fo kp sp lt ib rw cl nu tv tm ta ml tn ((ou, .inl (cy 2, 1, .inr (.inl og))) :: (od, .inl (cy 3, 1, .inr (.inr (.inr (.inl oh))))) :: R) ∧ (ir p0 3 = false))) := by
  refine g_introH (by decide +kernel) (lv := [(0, .ref (ad 0)), (1, .int p0), (2, .ref ou)]) rfl (Nat.le_of_ble_eq_true rfl) ?_
  intro p e s m below meth c C0 hex G ls hl
  have hx := C0.1
  have hb := C0.2.1
  have hown := C0.2.2.2.2.2.1
  have hts := C0.2.2.2.2.2.2.1
  refine lv_aload_n hx hb dL_untold_0 rfl (lv_at hl 2 rfl) ?_
  refine lv_iconst (v := 0) hx hb dL_untold_1 (by decide) ?_
  refine g_topi (x' := nI 0) rfl ?_
  refine lv_aload_n hx hb dL_untold_2 rfl (lv_at hl 0 rfl) ?_
  refine lv_iload_n hx hb dL_untold_3 rfl (lv_at hl 1 rfl) ?_
  refine g_callXV (As := [.int p0]) (rest := [.int (nI 0), .ref ou]) (q0 := 0) C0 G (c_X4_untold l D cy (ad := ad) (fr := fr) (bk := bk) (vw := vw) (tk := tk) (to := to) (fk := fk) (fo := fo) (kp := kp) (sp := sp) (lt := lt) (ib := ib) (rw := rw) (cl := cl) (nu := nu) (tv := tv) (tm := tm) (ta := ta) (ml := ml) (tn := tn) (R := ((ou, .inl (cy 2, 1, .inr (.inl og))) :: (od, .inl (cy 3, 1, .inr (.inr (.inr (.inl oh))))) :: R)) (p0 := p0) hst) k_X4_untold ml_L_64 rfl rfl dL_untold_4 rfl rfl hl.1 (Nat.le_of_ble_eq_true rfl) ⟨Nat.le_of_ble_eq_true rfl, Nat.le_of_ble_eq_true rfl⟩ ⟨Nat.le_of_ble_eq_true rfl, Nat.le_of_ble_eq_true rfl⟩ (fun E ce q9 H locs hx9 G hce hcv hcl => ?_) (fun r W2 H locs hp G => ?_)
  · obtain ⟨rfl, hx9⟩ := hx9
    · skip
      refine g_catch (name := "java/lang/IndexOutOfBoundsException") (hp0 := []) (x := ((0 : Nat), (9 : Nat), (12 : Nat), (13 : Nat))) (hs0 := []) C0 hex rfl (List.forall_mem_nil _) (by decide +kernel) (by decide) xl_L_13 ca_50 hce hcv hcl ?_
      refine lv_astore_n (lv' := [(3, .ref q9), (0, .ref (ad 0)), (1, .int p0), (2, .ref ou)]) hx hb dL_untold_12 rfl hl (by decide) rfl (fun ls hl => ?_)
      refine lv_iconst (v := 1) hx hb dL_untold_13 (by decide) ?_
      exact g_iret C0 G (Or.inr (⟨rfl, rfl, hx9⟩)) dL_untold_14
  obtain ⟨k, hk, rfl, rfl, hw⟩ := hp
  have G := g_wc hw G
  refine W.eq (g2 := F0 m 7 ls [.int (nI (pc ((fa (sdW (fr k) (bk k)) (onW (fr k) (bk k))).1 ^^^ (-1)))), .int (nI 0), .ref ou]) rfl ?_
  refine lv_i2l hx hb dL_untold_7 rfl ?_
  refine g_last (q0 := 30) (n := 1) (W2 := wC ad cy fr bk vw ((fa (sdW (fr k) (bk k)) (onW (fr k) (bk k))).1) ((fa (sdW (fr k) (bk k)) (onW (fr k) (bk k))).2) fk fo kp sp lt ib rw cl nu tv tm ta ml tn ((ou, .inl (cy 2, 1, .inr (.inl (vp_updL og 0 ((nI (pc ((fa (sdW (fr k) (bk k)) (onW (fr k) (bk k))).1 ^^^ (-1)))).toInt64))))) :: (od, .inl (cy 3, 1, .inr (.inr (.inr (.inl oh))))) :: R)) C0 G wC_o0 2 rfl (vp_in_nI (n := 0) (by omega) (by decide)) (by rw [nI_clamp (n := 0) (by omega)]; exact wC_s0) dL_untold_8 (fun H locs G => ?_)
  refine lv_goto (tgt := 15) hx hb dL_untold_9 (by decide) ?_
  refine lv_iconst (v := 0) hx hb dL_untold_15 (by decide) ?_
  exact g_iret C0 G (Or.inl ⟨k, hk, rfl, rfl, rfl⟩) dL_untold_16

set_option maxHeartbeats 4000000 in
set_option maxRecDepth 100000 in
theorem c_L_disagreements (l : Launch) (D : va_G) (cy : Nat → ClassId) (ad : Nat → Nat) (fr : Nat → Int64) (bk : Nat → Int64) (vw : Nat → Nat) (tk : Int64) (to : Int64) (fk : Int64) (fo : Int64) (kp : Nat) (sp : Nat) (lt : Nat) (ib : Bool) (rw : Nat) (cl : Nat) (nu : Nat) (tv : Nat) (tm : Nat) (ta : Nat → Int32) (ml : Int32) (tn : Nat) (R : va_W) (ou od : Nat) (og : Nat → Int64) (oh : Nat → UInt64) (p0 : Int32) (hst : l.stackTraces = false) : GH l D (gts cy) yL_disagreements cL_disagreements 4 (some .int) [((0 : Nat), (9 : Nat), (12 : Nat), (13 : Nat))] 6 4 24 [.ref (ad 0), .int p0, .ref ou] (wC ad cy fr bk vw tk to fk fo kp sp lt ib rw cl nu tv tm ta ml tn ((ou, .inl (cy 2, 1, .inr (.inl og))) :: (od, .inl (cy 3, 1, .inr (.inr (.inr (.inl oh))))) :: R)) (fun r W2 => (∃ k : Nat, k < 3 ∧ p0 = nI k ∧ r = some (.int 0) ∧ W2 = wC ad cy fr bk vw ((fa (sdW (fr k) (bk k)) (onW (fr k) (bk k))).1) ((fa (sdW (fr k) (bk k)) (onW (fr k) (bk k))).2) fk fo kp sp lt ib rw cl nu tv tm ta ml tn ((ou, .inl (cy 2, 1, .inr (.inl (vp_updL og 0 ((nI (cnt (dgB (fa (sdW (fr k) (bk k)) (onW (fr k) (bk k))).1 (fa (sdW (fr k) (bk k)) (onW (fr k) (bk k))).2) 16))).toInt64)))) :: (od, .inl (cy 3, 1, .inr (.inr (.inr (.inl oh))))) :: R)) ∨ (r = some (.int 1) ∧ W2 = wC ad cy fr bk vw tk to fk fo kp sp lt ib rw cl nu tv tm ta ml tn ((ou, .inl (cy 2, 1, .inr (.inl og))) :: (od, .inl (cy 3, 1, .inr (.inr (.inr (.inl oh))))) :: R) ∧ (ir p0 3 = false))) := by
  refine g_introH (by decide +kernel) (lv := [(0, .ref (ad 0)), (1, .int p0), (2, .ref ou)]) rfl (Nat.le_of_ble_eq_true rfl) ?_
  intro p e s m below meth c C0 hex G ls hl
  have hx := C0.1
  have hb := C0.2.1
  have hown := C0.2.2.2.2.2.1
  have hts := C0.2.2.2.2.2.2.1
  refine lv_aload_n hx hb dL_disagreements_0 rfl (lv_at hl 2 rfl) ?_
  refine lv_iconst (v := 0) hx hb dL_disagreements_1 (by decide) ?_
  refine g_topi (x' := nI 0) rfl ?_
  refine lv_aload_n hx hb dL_disagreements_2 rfl (lv_at hl 0 rfl) ?_
  refine lv_iload_n hx hb dL_disagreements_3 rfl (lv_at hl 1 rfl) ?_
  refine g_callXV (As := [.int p0]) (rest := [.int (nI 0), .ref ou]) (q0 := 0) C0 G (c_X4_disagreements l D cy (ad := ad) (fr := fr) (bk := bk) (vw := vw) (tk := tk) (to := to) (fk := fk) (fo := fo) (kp := kp) (sp := sp) (lt := lt) (ib := ib) (rw := rw) (cl := cl) (nu := nu) (tv := tv) (tm := tm) (ta := ta) (ml := ml) (tn := tn) (R := ((ou, .inl (cy 2, 1, .inr (.inl og))) :: (od, .inl (cy 3, 1, .inr (.inr (.inr (.inl oh))))) :: R)) (p0 := p0) hst) k_X4_disagreements ml_L_67 rfl rfl dL_disagreements_4 rfl rfl hl.1 (Nat.le_of_ble_eq_true rfl) ⟨Nat.le_of_ble_eq_true rfl, Nat.le_of_ble_eq_true rfl⟩ ⟨Nat.le_of_ble_eq_true rfl, Nat.le_of_ble_eq_true rfl⟩ (fun E ce q9 H locs hx9 G hce hcv hcl => ?_) (fun r W2 H locs hp G => ?_)
  · obtain ⟨rfl, hx9⟩ := hx9
    · skip
      refine g_catch (name := "java/lang/IndexOutOfBoundsException") (hp0 := []) (x := ((0 : Nat), (9 : Nat), (12 : Nat), (13 : Nat))) (hs0 := []) C0 hex rfl (List.forall_mem_nil _) (by decide +kernel) (by decide) xl_L_13 ca_50 hce hcv hcl ?_
      refine lv_astore_n (lv' := [(3, .ref q9), (0, .ref (ad 0)), (1, .int p0), (2, .ref ou)]) hx hb dL_disagreements_12 rfl hl (by decide) rfl (fun ls hl => ?_)
      refine lv_iconst (v := 1) hx hb dL_disagreements_13 (by decide) ?_
      exact g_iret C0 G (Or.inr (⟨rfl, rfl, hx9⟩)) dL_disagreements_14
  obtain ⟨k, hk, rfl, rfl, hw⟩ := hp
  have G := g_wc hw G
  refine W.eq (g2 := F0 m 7 ls [.int (nI (cnt (dgB (fa (sdW (fr k) (bk k)) (onW (fr k) (bk k))).1 (fa (sdW (fr k) (bk k)) (onW (fr k) (bk k))).2) 16)), .int (nI 0), .ref ou]) rfl ?_
  refine lv_i2l hx hb dL_disagreements_7 rfl ?_
  refine g_last (q0 := 30) (n := 1) (W2 := wC ad cy fr bk vw ((fa (sdW (fr k) (bk k)) (onW (fr k) (bk k))).1) ((fa (sdW (fr k) (bk k)) (onW (fr k) (bk k))).2) fk fo kp sp lt ib rw cl nu tv tm ta ml tn ((ou, .inl (cy 2, 1, .inr (.inl (vp_updL og 0 ((nI (cnt (dgB (fa (sdW (fr k) (bk k)) (onW (fr k) (bk k))).1 (fa (sdW (fr k) (bk k)) (onW (fr k) (bk k))).2) 16)).toInt64))))) :: (od, .inl (cy 3, 1, .inr (.inr (.inr (.inl oh))))) :: R)) C0 G wC_o0 2 rfl (vp_in_nI (n := 0) (by omega) (by decide)) (by rw [nI_clamp (n := 0) (by omega)]; exact wC_s0) dL_disagreements_8 (fun H locs G => ?_)
  refine lv_goto (tgt := 15) hx hb dL_disagreements_9 (by decide) ?_
  refine lv_iconst (v := 0) hx hb dL_disagreements_15 (by decide) ?_
  exact g_iret C0 G (Or.inl ⟨k, hk, rfl, rfl, rfl⟩) dL_disagreements_16

set_option maxHeartbeats 4000000 in
set_option maxRecDepth 100000 in
theorem c_L_disagreement (l : Launch) (D : va_G) (cy : Nat → ClassId) (ad : Nat → Nat) (fr : Nat → Int64) (bk : Nat → Int64) (vw : Nat → Nat) (tk : Int64) (to : Int64) (fk : Int64) (fo : Int64) (kp : Nat) (sp : Nat) (lt : Nat) (ib : Bool) (rw : Nat) (cl : Nat) (nu : Nat) (tv : Nat) (tm : Nat) (ta : Nat → Int32) (ml : Int32) (tn : Nat) (R : va_W) (ou od : Nat) (og : Nat → Int64) (oh : Nat → UInt64) (p0 : Int32) (p1 : Int32) (hst : l.stackTraces = false) : GH l D (gts cy) yL_disagreement cL_disagreement 5 (some .int) [((0 : Nat), (10 : Nat), (13 : Nat), (13 : Nat))] 6 4 24 [.ref (ad 0), .int p0, .int p1, .ref ou] (wC ad cy fr bk vw tk to fk fo kp sp lt ib rw cl nu tv tm ta ml tn ((ou, .inl (cy 2, 1, .inr (.inl og))) :: (od, .inl (cy 3, 1, .inr (.inr (.inr (.inl oh))))) :: R)) (fun r W2 => (∃ k : Nat, k < 3 ∧ p0 = nI k ∧ ∃ i : Nat, i < 2147483648 ∧ p1 = nI i ∧ r = some (.int 0) ∧ W2 = wC ad cy fr bk vw ((fa (sdW (fr k) (bk k)) (onW (fr k) (bk k))).1) ((fa (sdW (fr k) (bk k)) (onW (fr k) (bk k))).2) fk fo kp sp lt ib rw cl nu tv tm ta ml tn ((ou, .inl (cy 2, 1, .inr (.inl (vp_updL og 0 ((dlI (dgB ((fa (sdW (fr k) (bk k)) (onW (fr k) (bk k))).1) ((fa (sdW (fr k) (bk k)) (onW (fr k) (bk k))).2)) i)).toInt64)))) :: (od, .inl (cy 3, 1, .inr (.inr (.inr (.inl oh))))) :: R)) ∨ (r = some (.int 1) ∧ W2 = wC ad cy fr bk vw tk to fk fo kp sp lt ib rw cl nu tv tm ta ml tn ((ou, .inl (cy 2, 1, .inr (.inl og))) :: (od, .inl (cy 3, 1, .inr (.inr (.inr (.inl oh))))) :: R) ∧ ((ir p0 3 = false ∨ p1 < 0)))) := by
  refine g_introH (by decide +kernel) (lv := [(0, .ref (ad 0)), (1, .int p0), (2, .int p1), (3, .ref ou)]) rfl (Nat.le_of_ble_eq_true rfl) ?_
  intro p e s m below meth c C0 hex G ls hl
  have hx := C0.1
  have hb := C0.2.1
  have hown := C0.2.2.2.2.2.1
  have hts := C0.2.2.2.2.2.2.1
  refine lv_aload_n hx hb dL_disagreement_0 rfl (lv_at hl 3 rfl) ?_
  refine lv_iconst (v := 0) hx hb dL_disagreement_1 (by decide) ?_
  refine g_topi (x' := nI 0) rfl ?_
  refine lv_aload_n hx hb dL_disagreement_2 rfl (lv_at hl 0 rfl) ?_
  refine lv_iload_n hx hb dL_disagreement_3 rfl (lv_at hl 1 rfl) ?_
  refine lv_iload_n hx hb dL_disagreement_4 rfl (lv_at hl 2 rfl) ?_
  refine g_callXV (As := [.int p0, .int p1]) (rest := [.int (nI 0), .ref ou]) (q0 := 0) C0 G (c_X4_disagreement l D cy (ad := ad) (fr := fr) (bk := bk) (vw := vw) (tk := tk) (to := to) (fk := fk) (fo := fo) (kp := kp) (sp := sp) (lt := lt) (ib := ib) (rw := rw) (cl := cl) (nu := nu) (tv := tv) (tm := tm) (ta := ta) (ml := ml) (tn := tn) (R := ((ou, .inl (cy 2, 1, .inr (.inl og))) :: (od, .inl (cy 3, 1, .inr (.inr (.inr (.inl oh))))) :: R)) (p0 := p0) (p1 := p1) hst) k_X4_disagreement ml_L_70 rfl rfl dL_disagreement_5 rfl rfl hl.1 (Nat.le_of_ble_eq_true rfl) ⟨Nat.le_of_ble_eq_true rfl, Nat.le_of_ble_eq_true rfl⟩ ⟨Nat.le_of_ble_eq_true rfl, Nat.le_of_ble_eq_true rfl⟩ (fun E ce q9 H locs hx9 G hce hcv hcl => ?_) (fun r W2 H locs hp G => ?_)
  · obtain ⟨rfl, hx9⟩ := hx9
    · skip
      refine g_catch (name := "java/lang/IndexOutOfBoundsException") (hp0 := []) (x := ((0 : Nat), (10 : Nat), (13 : Nat), (13 : Nat))) (hs0 := []) C0 hex rfl (List.forall_mem_nil _) (by decide +kernel) (by decide) xl_L_13 ca_50 hce hcv hcl ?_
      refine lv_astore (lv' := [(4, .ref q9), (0, .ref (ad 0)), (1, .int p0), (2, .int p1), (3, .ref ou)]) hx hb dL_disagreement_13 hl (by decide) rfl (fun ls hl => ?_)
      refine lv_iconst (v := 1) hx hb dL_disagreement_15 (by decide) ?_
      exact g_iret C0 G (Or.inr (⟨rfl, rfl, hx9⟩)) dL_disagreement_16
  obtain ⟨k, hk, rfl, i, hi, rfl, rfl, hw⟩ := hp
  have G := g_wc hw G
  refine W.eq (g2 := F0 m 8 ls [.int (dlI (dgB ((fa (sdW (fr k) (bk k)) (onW (fr k) (bk k))).1) ((fa (sdW (fr k) (bk k)) (onW (fr k) (bk k))).2)) i), .int (nI 0), .ref ou]) rfl ?_
  refine lv_i2l hx hb dL_disagreement_8 rfl ?_
  refine g_last (q0 := 30) (n := 1) (W2 := wC ad cy fr bk vw ((fa (sdW (fr k) (bk k)) (onW (fr k) (bk k))).1) ((fa (sdW (fr k) (bk k)) (onW (fr k) (bk k))).2) fk fo kp sp lt ib rw cl nu tv tm ta ml tn ((ou, .inl (cy 2, 1, .inr (.inl (vp_updL og 0 ((dlI (dgB ((fa (sdW (fr k) (bk k)) (onW (fr k) (bk k))).1) ((fa (sdW (fr k) (bk k)) (onW (fr k) (bk k))).2)) i).toInt64))))) :: (od, .inl (cy 3, 1, .inr (.inr (.inr (.inl oh))))) :: R)) C0 G wC_o0 2 rfl (vp_in_nI (n := 0) (by omega) (by decide)) (by rw [nI_clamp (n := 0) (by omega)]; exact wC_s0) dL_disagreement_9 (fun H locs G => ?_)
  refine lv_goto (tgt := 17) hx hb dL_disagreement_10 (by decide) ?_
  refine lv_iconst (v := 0) hx hb dL_disagreement_17 (by decide) ?_
  exact g_iret C0 G (Or.inl ⟨k, hk, rfl, i, hi, rfl, rfl, rfl⟩) dL_disagreement_18

set_option maxHeartbeats 4000000 in
set_option maxRecDepth 100000 in
theorem c_L_soundShare (l : Launch) (D : va_G) (cy : Nat → ClassId) (ad : Nat → Nat) (fr : Nat → Int64) (bk : Nat → Int64) (vw : Nat → Nat) (tk : Int64) (to : Int64) (fk : Int64) (fo : Int64) (kp : Nat) (sp : Nat) (lt : Nat) (ib : Bool) (rw : Nat) (cl : Nat) (nu : Nat) (tv : Nat) (tm : Nat) (ta : Nat → Int32) (ml : Int32) (tn : Nat) (R : va_W) (ou od : Nat) (og : Nat → Int64) (oh : Nat → UInt64) (p0 : Int32) (hst : l.stackTraces = false) : GH l D (gts cy) yL_soundShare cL_soundShare 4 (some .int) [((0 : Nat), (8 : Nat), (11 : Nat), (13 : Nat))] 2 4 24 [.ref (ad 0), .int p0, .ref od] (wC ad cy fr bk vw tk to fk fo kp sp lt ib rw cl nu tv tm ta ml tn ((ou, .inl (cy 2, 1, .inr (.inl og))) :: (od, .inl (cy 3, 1, .inr (.inr (.inr (.inl oh))))) :: R)) (fun r W2 => (∃ k : Nat, k < 3 ∧ p0 = nI k ∧ r = some (.int 0) ∧ W2 = wC ad cy fr bk vw tk to fk fo kp sp lt ib rw cl nu tv tm ta ml tn ((ou, .inl (cy 2, 1, .inr (.inl og))) :: (od, .inl (cy 3, 1, .inr (.inr (.inr (.inl (vf_upd oh 0 (n64 (pc (sdW (fr k) (bk k)))))))))) :: R)) ∨ (r = some (.int 1) ∧ W2 = wC ad cy fr bk vw tk to fk fo kp sp lt ib rw cl nu tv tm ta ml tn ((ou, .inl (cy 2, 1, .inr (.inl og))) :: (od, .inl (cy 3, 1, .inr (.inr (.inr (.inl oh))))) :: R) ∧ (ir p0 3 = false))) := by
  refine g_introH (by decide +kernel) (lv := [(0, .ref (ad 0)), (1, .int p0), (2, .ref od)]) rfl (Nat.le_of_ble_eq_true rfl) ?_
  intro p e s m below meth c C0 hex G ls hl
  have hx := C0.1
  have hb := C0.2.1
  have hown := C0.2.2.2.2.2.1
  have hts := C0.2.2.2.2.2.2.1
  refine lv_aload_n hx hb dL_soundShare_0 rfl (lv_at hl 2 rfl) ?_
  refine lv_iconst (v := 0) hx hb dL_soundShare_1 (by decide) ?_
  refine g_topi (x' := nI 0) rfl ?_
  refine lv_aload_n hx hb dL_soundShare_2 rfl (lv_at hl 0 rfl) ?_
  refine lv_iload_n hx hb dL_soundShare_3 rfl (lv_at hl 1 rfl) ?_
  refine g_callXV (As := [.int p0]) (rest := [.int (nI 0), .ref od]) (q0 := 0) C0 G (c_X4_soundShare l D cy (ad := ad) (fr := fr) (bk := bk) (vw := vw) (tk := tk) (to := to) (fk := fk) (fo := fo) (kp := kp) (sp := sp) (lt := lt) (ib := ib) (rw := rw) (cl := cl) (nu := nu) (tv := tv) (tm := tm) (ta := ta) (ml := ml) (tn := tn) (R := ((ou, .inl (cy 2, 1, .inr (.inl og))) :: (od, .inl (cy 3, 1, .inr (.inr (.inr (.inl oh))))) :: R)) (p0 := p0) hst) k_X4_soundShare ml_L_73 rfl rfl dL_soundShare_4 rfl rfl hl.1 (Nat.le_of_ble_eq_true rfl) ⟨Nat.le_of_ble_eq_true rfl, Nat.le_of_ble_eq_true rfl⟩ ⟨Nat.le_of_ble_eq_true rfl, Nat.le_of_ble_eq_true rfl⟩ (fun E ce q9 H locs hx9 G hce hcv hcl => ?_) (fun r W2 H locs hp G => ?_)
  · obtain ⟨rfl, hx9⟩ := hx9
    · skip
      refine g_catch (name := "java/lang/IndexOutOfBoundsException") (hp0 := []) (x := ((0 : Nat), (8 : Nat), (11 : Nat), (13 : Nat))) (hs0 := []) C0 hex rfl (List.forall_mem_nil _) (by decide +kernel) (by decide) xl_L_13 ca_50 hce hcv hcl ?_
      refine lv_astore_n (lv' := [(3, .ref q9), (0, .ref (ad 0)), (1, .int p0), (2, .ref od)]) hx hb dL_soundShare_11 rfl hl (by decide) rfl (fun ls hl => ?_)
      refine lv_iconst (v := 1) hx hb dL_soundShare_12 (by decide) ?_
      exact g_iret C0 G (Or.inr (⟨rfl, rfl, hx9⟩)) dL_soundShare_13
  obtain ⟨k, hk, rfl, rfl, hw⟩ := hp
  have G := g_wc hw G
  refine W.eq (g2 := F0 m 7 ls [.double (n64 (pc (sdW (fr k) (bk k)))), .int (nI 0), .ref od]) rfl ?_
  refine g_dast (q0 := 31) (n := 1) (W2 := wC ad cy fr bk vw tk to fk fo kp sp lt ib rw cl nu tv tm ta ml tn ((ou, .inl (cy 2, 1, .inr (.inl og))) :: (od, .inl (cy 3, 1, .inr (.inr (.inr (.inl (vf_upd oh 0 (n64 (pc (sdW (fr k) (bk k)))))))))) :: R)) C0 G wC_o1 3 rfl (vp_in_nI (n := 0) (by omega) (by decide)) (by rw [nI_clamp (n := 0) (by omega)]; exact wC_s1) dL_soundShare_7 (fun H locs G => ?_)
  refine lv_goto (tgt := 14) hx hb dL_soundShare_8 (by decide) ?_
  refine lv_iconst (v := 0) hx hb dL_soundShare_14 (by decide) ?_
  exact g_iret C0 G (Or.inl ⟨k, hk, rfl, rfl, rfl⟩) dL_soundShare_15

set_option maxHeartbeats 4000000 in
set_option maxRecDepth 100000 in
theorem c_L_untoldIf (l : Launch) (D : va_G) (cy : Nat → ClassId) (ad : Nat → Nat) (fr : Nat → Int64) (bk : Nat → Int64) (vw : Nat → Nat) (tk : Int64) (to : Int64) (fk : Int64) (fo : Int64) (kp : Nat) (sp : Nat) (lt : Nat) (ib : Bool) (rw : Nat) (cl : Nat) (nu : Nat) (tv : Nat) (tm : Nat) (ta : Nat → Int32) (ml : Int32) (tn : Nat) (R : va_W) (ou od : Nat) (og : Nat → Int64) (oh : Nat → UInt64) (p0 : Int32) (p1 : Int32) (p2 : Int32) (hst : l.stackTraces = false) : GH l D (gts cy) yL_untoldIf cL_untoldIf 6 (some .int) [((0 : Nat), (12 : Nat), (15 : Nat), (13 : Nat))] 6 4 24 [.ref (ad 0), .int p0, .int p1, .int p2, .ref ou] (wC ad cy fr bk vw tk to fk fo kp sp lt ib rw cl nu tv tm ta ml tn ((ou, .inl (cy 2, 1, .inr (.inl og))) :: (od, .inl (cy 3, 1, .inr (.inr (.inr (.inl oh))))) :: R)) (fun r W2 => (∃ k : Nat, k < 3 ∧ p0 = nI k ∧ ∃ i : Nat, i < 8 ∧ p1 = nI i ∧ ∃ j : Nat, j < 8 ∧ p2 = nI j ∧ r = some (.int 0) ∧ W2 = wC ad cy fr bk vw tk to ((uwF (fr k) (bk k) (8 * i + j) (fk, fo)).1) ((uwF (fr k) (bk k) (8 * i + j) (fk, fo)).2) kp sp lt ib rw cl nu tv tm ta ml tn ((ou, .inl (cy 2, 1, .inr (.inl (vp_updL og 0 ((uwI (fr k) (bk k) (8 * i + j))).toInt64)))) :: (od, .inl (cy 3, 1, .inr (.inr (.inr (.inl oh))))) :: R)) ∨ (r = some (.int 1) ∧ W2 = wC ad cy fr bk vw tk to fk fo kp sp lt ib rw cl nu tv tm ta ml tn ((ou, .inl (cy 2, 1, .inr (.inl og))) :: (od, .inl (cy 3, 1, .inr (.inr (.inr (.inl oh))))) :: R) ∧ ((ir p0 3 && ir p1 8 && ir p2 8) = false))) := by
  refine g_introH (by decide +kernel) (lv := [(0, .ref (ad 0)), (1, .int p0), (2, .int p1), (3, .int p2), (4, .ref ou)]) rfl (Nat.le_of_ble_eq_true rfl) ?_
  intro p e s m below meth c C0 hex G ls hl
  have hx := C0.1
  have hb := C0.2.1
  have hown := C0.2.2.2.2.2.1
  have hts := C0.2.2.2.2.2.2.1
  refine lv_aload hx hb dL_untoldIf_0 (lv_at hl 4 rfl) ?_
  refine lv_iconst (v := 0) hx hb dL_untoldIf_2 (by decide) ?_
  refine g_topi (x' := nI 0) rfl ?_
  refine lv_aload_n hx hb dL_untoldIf_3 rfl (lv_at hl 0 rfl) ?_
  refine lv_iload_n hx hb dL_untoldIf_4 rfl (lv_at hl 1 rfl) ?_
  refine lv_iload_n hx hb dL_untoldIf_5 rfl (lv_at hl 2 rfl) ?_
  refine lv_iload_n hx hb dL_untoldIf_6 rfl (lv_at hl 3 rfl) ?_
  refine g_callXV (As := [.int p0, .int p1, .int p2]) (rest := [.int (nI 0), .ref ou]) (q0 := 0) C0 G (c_X4_untoldIf l D cy (ad := ad) (fr := fr) (bk := bk) (vw := vw) (tk := tk) (to := to) (fk := fk) (fo := fo) (kp := kp) (sp := sp) (lt := lt) (ib := ib) (rw := rw) (cl := cl) (nu := nu) (tv := tv) (tm := tm) (ta := ta) (ml := ml) (tn := tn) (R := ((ou, .inl (cy 2, 1, .inr (.inl og))) :: (od, .inl (cy 3, 1, .inr (.inr (.inr (.inl oh))))) :: R)) (p0 := p0) (p1 := p1) (p2 := p2) hst) k_X4_untoldIf ml_L_77 rfl rfl dL_untoldIf_7 rfl rfl hl.1 (Nat.le_of_ble_eq_true rfl) ⟨Nat.le_of_ble_eq_true rfl, Nat.le_of_ble_eq_true rfl⟩ ⟨Nat.le_of_ble_eq_true rfl, Nat.le_of_ble_eq_true rfl⟩ (fun E ce q9 H locs hx9 G hce hcv hcl => ?_) (fun r W2 H locs hp G => ?_)
  · obtain ⟨rfl, hx9⟩ := hx9
    · skip
      refine g_catch (name := "java/lang/IndexOutOfBoundsException") (hp0 := []) (x := ((0 : Nat), (12 : Nat), (15 : Nat), (13 : Nat))) (hs0 := []) C0 hex rfl (List.forall_mem_nil _) (by decide +kernel) (by decide) xl_L_13 ca_50 hce hcv hcl ?_
      refine lv_astore (lv' := [(5, .ref q9), (0, .ref (ad 0)), (1, .int p0), (2, .int p1), (3, .int p2), (4, .ref ou)]) hx hb dL_untoldIf_15 hl (by decide) rfl (fun ls hl => ?_)
      refine lv_iconst (v := 1) hx hb dL_untoldIf_17 (by decide) ?_
      exact g_iret C0 G (Or.inr (⟨rfl, rfl, hx9⟩)) dL_untoldIf_18
  obtain ⟨k, hk, rfl, i, hi, rfl, j, hj, rfl, rfl, hw⟩ := hp
  have G := g_wc hw G
  refine W.eq (g2 := F0 m 10 ls [.int (uwI (fr k) (bk k) (8 * i + j)), .int (nI 0), .ref ou]) rfl ?_
  refine lv_i2l hx hb dL_untoldIf_10 rfl ?_
  refine g_last (q0 := 30) (n := 1) (W2 := wC ad cy fr bk vw tk to ((uwF (fr k) (bk k) (8 * i + j) (fk, fo)).1) ((uwF (fr k) (bk k) (8 * i + j) (fk, fo)).2) kp sp lt ib rw cl nu tv tm ta ml tn ((ou, .inl (cy 2, 1, .inr (.inl (vp_updL og 0 ((uwI (fr k) (bk k) (8 * i + j)).toInt64))))) :: (od, .inl (cy 3, 1, .inr (.inr (.inr (.inl oh))))) :: R)) C0 G wC_o0 2 rfl (vp_in_nI (n := 0) (by omega) (by decide)) (by rw [nI_clamp (n := 0) (by omega)]; exact wC_s0) dL_untoldIf_11 (fun H locs G => ?_)
  refine lv_goto (tgt := 19) hx hb dL_untoldIf_12 (by decide) ?_
  refine lv_iconst (v := 0) hx hb dL_untoldIf_19 (by decide) ?_
  exact g_iret C0 G (Or.inl ⟨k, hk, rfl, i, hi, rfl, j, hj, rfl, rfl, rfl⟩) dL_untoldIf_20

set_option maxHeartbeats 4000000 in
set_option maxRecDepth 100000 in
theorem c_L_worst (l : Launch) (D : va_G) (cy : Nat → ClassId) (ad : Nat → Nat) (fr : Nat → Int64) (bk : Nat → Int64) (vw : Nat → Nat) (tk : Int64) (to : Int64) (fk : Int64) (fo : Int64) (kp : Nat) (sp : Nat) (lt : Nat) (ib : Bool) (rw : Nat) (cl : Nat) (nu : Nat) (tv : Nat) (tm : Nat) (ta : Nat → Int32) (ml : Int32) (tn : Nat) (R : va_W) (ou od : Nat) (og : Nat → Int64) (oh : Nat → UInt64) (p0 : Int32) (hst : l.stackTraces = false) : GH l D (gts cy) yL_worst cL_worst 4 (some .int) [((0 : Nat), (9 : Nat), (12 : Nat), (13 : Nat))] 7 4 24 [.ref (ad 0), .int p0, .ref ou] (wC ad cy fr bk vw tk to fk fo kp sp lt ib rw cl nu tv tm ta ml tn ((ou, .inl (cy 2, 1, .inr (.inl og))) :: (od, .inl (cy 3, 1, .inr (.inr (.inr (.inl oh))))) :: R)) (fun r W2 => (∃ k : Nat, k < 3 ∧ p0 = nI k ∧ r = some (.int 0) ∧ W2 = wC ad cy fr bk vw tk to ((wcF (fr k) (bk k) (fk, fo) 64).1) ((wcF (fr k) (bk k) (fk, fo) 64).2) kp sp lt ib rw cl nu tv tm ta ml tn ((ou, .inl (cy 2, 1, .inr (.inl (vp_updL og 0 (((wcS (fr k) (bk k) 64).1)).toInt64)))) :: (od, .inl (cy 3, 1, .inr (.inr (.inr (.inl oh))))) :: R)) ∨ (r = some (.int 1) ∧ W2 = wC ad cy fr bk vw tk to fk fo kp sp lt ib rw cl nu tv tm ta ml tn ((ou, .inl (cy 2, 1, .inr (.inl og))) :: (od, .inl (cy 3, 1, .inr (.inr (.inr (.inl oh))))) :: R) ∧ (ir p0 3 = false))) := by
  refine g_introH (by decide +kernel) (lv := [(0, .ref (ad 0)), (1, .int p0), (2, .ref ou)]) rfl (Nat.le_of_ble_eq_true rfl) ?_
  intro p e s m below meth c C0 hex G ls hl
  have hx := C0.1
  have hb := C0.2.1
  have hown := C0.2.2.2.2.2.1
  have hts := C0.2.2.2.2.2.2.1
  refine lv_aload_n hx hb dL_worst_0 rfl (lv_at hl 2 rfl) ?_
  refine lv_iconst (v := 0) hx hb dL_worst_1 (by decide) ?_
  refine g_topi (x' := nI 0) rfl ?_
  refine lv_aload_n hx hb dL_worst_2 rfl (lv_at hl 0 rfl) ?_
  refine lv_iload_n hx hb dL_worst_3 rfl (lv_at hl 1 rfl) ?_
  refine g_callXV (As := [.int p0]) (rest := [.int (nI 0), .ref ou]) (q0 := 0) C0 G (c_X4_worst l D cy (ad := ad) (fr := fr) (bk := bk) (vw := vw) (tk := tk) (to := to) (fk := fk) (fo := fo) (kp := kp) (sp := sp) (lt := lt) (ib := ib) (rw := rw) (cl := cl) (nu := nu) (tv := tv) (tm := tm) (ta := ta) (ml := ml) (tn := tn) (R := ((ou, .inl (cy 2, 1, .inr (.inl og))) :: (od, .inl (cy 3, 1, .inr (.inr (.inr (.inl oh))))) :: R)) (p0 := p0) hst) k_X4_worst ml_L_80 rfl rfl dL_worst_4 rfl rfl hl.1 (Nat.le_of_ble_eq_true rfl) ⟨Nat.le_of_ble_eq_true rfl, Nat.le_of_ble_eq_true rfl⟩ ⟨Nat.le_of_ble_eq_true rfl, Nat.le_of_ble_eq_true rfl⟩ (fun E ce q9 H locs hx9 G hce hcv hcl => ?_) (fun r W2 H locs hp G => ?_)
  · obtain ⟨rfl, hx9⟩ := hx9
    · skip
      refine g_catch (name := "java/lang/IndexOutOfBoundsException") (hp0 := []) (x := ((0 : Nat), (9 : Nat), (12 : Nat), (13 : Nat))) (hs0 := []) C0 hex rfl (List.forall_mem_nil _) (by decide +kernel) (by decide) xl_L_13 ca_50 hce hcv hcl ?_
      refine lv_astore_n (lv' := [(3, .ref q9), (0, .ref (ad 0)), (1, .int p0), (2, .ref ou)]) hx hb dL_worst_12 rfl hl (by decide) rfl (fun ls hl => ?_)
      refine lv_iconst (v := 1) hx hb dL_worst_13 (by decide) ?_
      exact g_iret C0 G (Or.inr (⟨rfl, rfl, hx9⟩)) dL_worst_14
  obtain ⟨k, hk, rfl, rfl, hw⟩ := hp
  have G := g_wc hw G
  refine W.eq (g2 := F0 m 7 ls [.int ((wcS (fr k) (bk k) 64).1), .int (nI 0), .ref ou]) rfl ?_
  refine lv_i2l hx hb dL_worst_7 rfl ?_
  refine g_last (q0 := 30) (n := 1) (W2 := wC ad cy fr bk vw tk to ((wcF (fr k) (bk k) (fk, fo) 64).1) ((wcF (fr k) (bk k) (fk, fo) 64).2) kp sp lt ib rw cl nu tv tm ta ml tn ((ou, .inl (cy 2, 1, .inr (.inl (vp_updL og 0 (((wcS (fr k) (bk k) 64).1).toInt64))))) :: (od, .inl (cy 3, 1, .inr (.inr (.inr (.inl oh))))) :: R)) C0 G wC_o0 2 rfl (vp_in_nI (n := 0) (by omega) (by decide)) (by rw [nI_clamp (n := 0) (by omega)]; exact wC_s0) dL_worst_8 (fun H locs G => ?_)
  refine lv_goto (tgt := 15) hx hb dL_worst_9 (by decide) ?_
  refine lv_iconst (v := 0) hx hb dL_worst_15 (by decide) ?_
  exact g_iret C0 G (Or.inl ⟨k, hk, rfl, rfl, rfl⟩) dL_worst_16

set_option maxHeartbeats 4000000 in
set_option maxRecDepth 100000 in
theorem c_L_difference (l : Launch) (D : va_G) (cy : Nat → ClassId) (ad : Nat → Nat) (fr : Nat → Int64) (bk : Nat → Int64) (vw : Nat → Nat) (tk : Int64) (to : Int64) (fk : Int64) (fo : Int64) (kp : Nat) (sp : Nat) (lt : Nat) (ib : Bool) (rw : Nat) (cl : Nat) (nu : Nat) (tv : Nat) (tm : Nat) (ta : Nat → Int32) (ml : Int32) (tn : Nat) (R : va_W) (ou od : Nat) (og : Nat → Int64) (oh : Nat → UInt64) (p0 : Int32) (p1 : Int32) (hst : l.stackTraces = false) : GH l D (gts cy) yL_difference cL_difference 5 (some .int) [((0 : Nat), (10 : Nat), (13 : Nat), (13 : Nat))] 6 4 24 [.ref (ad 0), .int p0, .int p1, .ref ou] (wC ad cy fr bk vw tk to fk fo kp sp lt ib rw cl nu tv tm ta ml tn ((ou, .inl (cy 2, 1, .inr (.inl og))) :: (od, .inl (cy 3, 1, .inr (.inr (.inr (.inl oh))))) :: R)) (fun r W2 => (∃ k : Nat, k < 3 ∧ p0 = nI k ∧ ∃ j : Nat, j < 3 ∧ p1 = nI j ∧ r = some (.int 0) ∧ W2 = wC ad cy fr bk vw ((fa (sdW (fr j) (bk j)) (onW (fr j) (bk j))).1) ((fa (sdW (fr j) (bk j)) (onW (fr j) (bk j))).2) fk fo kp sp lt ib rw cl nu tv tm ta ml tn ((ou, .inl (cy 2, 1, .inr (.inl (vp_updL og 0 ((nI (pc ((((fa (sdW (fr k) (bk k)) (onW (fr k) (bk k))).1) &&& ((fa (sdW (fr j) (bk j)) (onW (fr j) (bk j))).1)) &&& (((fa (sdW (fr k) (bk k)) (onW (fr k) (bk k))).2) ^^^ ((fa (sdW (fr j) (bk j)) (onW (fr j) (bk j))).2)))))).toInt64)))) :: (od, .inl (cy 3, 1, .inr (.inr (.inr (.inl oh))))) :: R)) ∨ (r = some (.int 1) ∧ W2 = wC ad cy fr bk vw tk to fk fo kp sp lt ib rw cl nu tv tm ta ml tn ((ou, .inl (cy 2, 1, .inr (.inl og))) :: (od, .inl (cy 3, 1, .inr (.inr (.inr (.inl oh))))) :: R) ∧ ((ir p0 3 && ir p1 3) = false))) := by
  refine g_introH (by decide +kernel) (lv := [(0, .ref (ad 0)), (1, .int p0), (2, .int p1), (3, .ref ou)]) rfl (Nat.le_of_ble_eq_true rfl) ?_
  intro p e s m below meth c C0 hex G ls hl
  have hx := C0.1
  have hb := C0.2.1
  have hown := C0.2.2.2.2.2.1
  have hts := C0.2.2.2.2.2.2.1
  refine lv_aload_n hx hb dL_difference_0 rfl (lv_at hl 3 rfl) ?_
  refine lv_iconst (v := 0) hx hb dL_difference_1 (by decide) ?_
  refine g_topi (x' := nI 0) rfl ?_
  refine lv_aload_n hx hb dL_difference_2 rfl (lv_at hl 0 rfl) ?_
  refine lv_iload_n hx hb dL_difference_3 rfl (lv_at hl 1 rfl) ?_
  refine lv_iload_n hx hb dL_difference_4 rfl (lv_at hl 2 rfl) ?_
  refine g_callXV (As := [.int p0, .int p1]) (rest := [.int (nI 0), .ref ou]) (q0 := 0) C0 G (c_X4_difference l D cy (ad := ad) (fr := fr) (bk := bk) (vw := vw) (tk := tk) (to := to) (fk := fk) (fo := fo) (kp := kp) (sp := sp) (lt := lt) (ib := ib) (rw := rw) (cl := cl) (nu := nu) (tv := tv) (tm := tm) (ta := ta) (ml := ml) (tn := tn) (R := ((ou, .inl (cy 2, 1, .inr (.inl og))) :: (od, .inl (cy 3, 1, .inr (.inr (.inr (.inl oh))))) :: R)) (p0 := p0) (p1 := p1) hst) k_X4_difference ml_L_83 rfl rfl dL_difference_5 rfl rfl hl.1 (Nat.le_of_ble_eq_true rfl) ⟨Nat.le_of_ble_eq_true rfl, Nat.le_of_ble_eq_true rfl⟩ ⟨Nat.le_of_ble_eq_true rfl, Nat.le_of_ble_eq_true rfl⟩ (fun E ce q9 H locs hx9 G hce hcv hcl => ?_) (fun r W2 H locs hp G => ?_)
  · obtain ⟨rfl, hx9⟩ := hx9
    · skip
      refine g_catch (name := "java/lang/IndexOutOfBoundsException") (hp0 := []) (x := ((0 : Nat), (10 : Nat), (13 : Nat), (13 : Nat))) (hs0 := []) C0 hex rfl (List.forall_mem_nil _) (by decide +kernel) (by decide) xl_L_13 ca_50 hce hcv hcl ?_
      refine lv_astore (lv' := [(4, .ref q9), (0, .ref (ad 0)), (1, .int p0), (2, .int p1), (3, .ref ou)]) hx hb dL_difference_13 hl (by decide) rfl (fun ls hl => ?_)
      refine lv_iconst (v := 1) hx hb dL_difference_15 (by decide) ?_
      exact g_iret C0 G (Or.inr (⟨rfl, rfl, hx9⟩)) dL_difference_16
  obtain ⟨k, hk, rfl, j, hj, rfl, rfl, hw⟩ := hp
  have G := g_wc hw G
  refine W.eq (g2 := F0 m 8 ls [.int (nI (pc ((((fa (sdW (fr k) (bk k)) (onW (fr k) (bk k))).1) &&& ((fa (sdW (fr j) (bk j)) (onW (fr j) (bk j))).1)) &&& (((fa (sdW (fr k) (bk k)) (onW (fr k) (bk k))).2) ^^^ ((fa (sdW (fr j) (bk j)) (onW (fr j) (bk j))).2))))), .int (nI 0), .ref ou]) rfl ?_
  refine lv_i2l hx hb dL_difference_8 rfl ?_
  refine g_last (q0 := 30) (n := 1) (W2 := wC ad cy fr bk vw ((fa (sdW (fr j) (bk j)) (onW (fr j) (bk j))).1) ((fa (sdW (fr j) (bk j)) (onW (fr j) (bk j))).2) fk fo kp sp lt ib rw cl nu tv tm ta ml tn ((ou, .inl (cy 2, 1, .inr (.inl (vp_updL og 0 ((nI (pc ((((fa (sdW (fr k) (bk k)) (onW (fr k) (bk k))).1) &&& ((fa (sdW (fr j) (bk j)) (onW (fr j) (bk j))).1)) &&& (((fa (sdW (fr k) (bk k)) (onW (fr k) (bk k))).2) ^^^ ((fa (sdW (fr j) (bk j)) (onW (fr j) (bk j))).2))))).toInt64))))) :: (od, .inl (cy 3, 1, .inr (.inr (.inr (.inl oh))))) :: R)) C0 G wC_o0 2 rfl (vp_in_nI (n := 0) (by omega) (by decide)) (by rw [nI_clamp (n := 0) (by omega)]; exact wC_s0) dL_difference_9 (fun H locs G => ?_)
  refine lv_goto (tgt := 17) hx hb dL_difference_10 (by decide) ?_
  refine lv_iconst (v := 0) hx hb dL_difference_17 (by decide) ?_
  exact g_iret C0 G (Or.inl ⟨k, hk, rfl, j, hj, rfl, rfl, rfl⟩) dL_difference_18

set_option maxHeartbeats 4000000 in
set_option maxRecDepth 100000 in
theorem c_L_undo (l : Launch) (D : va_G) (cy : Nat → ClassId) (ad : Nat → Nat) (fr : Nat → Int64) (bk : Nat → Int64) (vw : Nat → Nat) (tk : Int64) (to : Int64) (fk : Int64) (fo : Int64) (kp : Nat) (sp : Nat) (lt : Nat) (ib : Bool) (rw : Nat) (cl : Nat) (nu : Nat) (tv : Nat) (tm : Nat) (ta : Nat → Int32) (ml : Int32) (tn : Nat) (R : va_W) (ou od : Nat) (og : Nat → Int64) (oh : Nat → UInt64)  (hst : l.stackTraces = false) (hkp : kp ≤ 6) : GH l D (gts cy) yL_undo cL_undo 3 (some .int) [((0 : Nat), (8 : Nat), (11 : Nat), (17 : Nat))] 3 4 24 [.ref (ad 0), .ref ou] (wC ad cy fr bk vw tk to fk fo kp sp lt ib rw cl nu tv tm ta ml tn ((ou, .inl (cy 2, 1, .inr (.inl og))) :: (od, .inl (cy 3, 1, .inr (.inr (.inr (.inl oh))))) :: R)) (fun r W2 => (0 < kp ∧ r = some (.int 0) ∧ W2 = wC ad cy (if 0 < kp then rsU fr ((kp - 1) * 3) 3 else fr) (if 0 < kp then rsU bk ((kp - 1) * 3) 3 else bk) (if 0 < kp then rsU vw ((kp - 1) * 3) 3 else vw) tk to fk fo (kp - 1) sp lt ib rw cl nu tv tm ta ml tn ((ou, .inl (cy 2, 1, .inr (.inl (vp_updL og 0 ((nI (kp - 1))).toInt64)))) :: (od, .inl (cy 3, 1, .inr (.inr (.inr (.inl oh))))) :: R)) ∨ (r = some (.int 1) ∧ W2 = wC ad cy fr bk vw tk to fk fo kp sp lt ib rw cl nu tv tm ta ml tn ((ou, .inl (cy 2, 1, .inr (.inl og))) :: (od, .inl (cy 3, 1, .inr (.inr (.inr (.inl oh))))) :: R) ∧ (kp = 0))) := by
  refine g_introH (by decide +kernel) (lv := [(0, .ref (ad 0)), (1, .ref ou)]) rfl (Nat.le_of_ble_eq_true rfl) ?_
  intro p e s m below meth c C0 hex G ls hl
  have hx := C0.1
  have hb := C0.2.1
  have hown := C0.2.2.2.2.2.1
  have hts := C0.2.2.2.2.2.2.1
  refine lv_aload_n hx hb dL_undo_0 rfl (lv_at hl 1 rfl) ?_
  refine lv_iconst (v := 0) hx hb dL_undo_1 (by decide) ?_
  refine g_topi (x' := nI 0) rfl ?_
  refine lv_aload_n hx hb dL_undo_2 rfl (lv_at hl 0 rfl) ?_
  refine g_callXV (As := []) (rest := [.int (nI 0), .ref ou]) (q0 := 0) C0 G (c_X4_undo l D cy (ad := ad) (fr := fr) (bk := bk) (vw := vw) (tk := tk) (to := to) (fk := fk) (fo := fo) (kp := kp) (sp := sp) (lt := lt) (ib := ib) (rw := rw) (cl := cl) (nu := nu) (tv := tv) (tm := tm) (ta := ta) (ml := ml) (tn := tn) (R := ((ou, .inl (cy 2, 1, .inr (.inl og))) :: (od, .inl (cy 3, 1, .inr (.inr (.inr (.inl oh))))) :: R))  hst hkp) k_X4_undo ml_L_93 rfl rfl dL_undo_3 rfl rfl hl.1 (Nat.le_of_ble_eq_true rfl) ⟨Nat.le_of_ble_eq_true rfl, Nat.le_of_ble_eq_true rfl⟩ ⟨Nat.le_of_ble_eq_true rfl, Nat.le_of_ble_eq_true rfl⟩ (fun E ce q9 H locs hx9 G hce hcv hcl => ?_) (fun r W2 H locs hp G => ?_)
  · obtain ⟨rfl, hx9⟩ := hx9
    · skip
      refine g_catch (name := "java/lang/IllegalStateException") (hp0 := []) (x := ((0 : Nat), (8 : Nat), (11 : Nat), (17 : Nat))) (hs0 := []) C0 hex rfl (List.forall_mem_nil _) (by decide +kernel) (by decide) xl_L_17 ca_53 hce hcv hcl ?_
      refine lv_astore_n (lv' := [(2, .ref q9), (0, .ref (ad 0)), (1, .ref ou)]) hx hb dL_undo_11 rfl hl (by decide) rfl (fun ls hl => ?_)
      refine lv_iconst (v := 1) hx hb dL_undo_12 (by decide) ?_
      exact g_iret C0 G (Or.inr (⟨rfl, rfl, hx9⟩)) dL_undo_13
  obtain ⟨hcd0, rfl, hw⟩ := hp
  have G := g_wc hw G
  refine W.eq (g2 := F0 m 6 ls [.int (nI (kp - 1)), .int (nI 0), .ref ou]) rfl ?_
  refine lv_i2l hx hb dL_undo_6 rfl ?_
  refine g_last (q0 := 30) (n := 1) (W2 := wC ad cy (if 0 < kp then rsU fr ((kp - 1) * 3) 3 else fr) (if 0 < kp then rsU bk ((kp - 1) * 3) 3 else bk) (if 0 < kp then rsU vw ((kp - 1) * 3) 3 else vw) tk to fk fo (kp - 1) sp lt ib rw cl nu tv tm ta ml tn ((ou, .inl (cy 2, 1, .inr (.inl (vp_updL og 0 ((nI (kp - 1)).toInt64))))) :: (od, .inl (cy 3, 1, .inr (.inr (.inr (.inl oh))))) :: R)) C0 G wC_o0 2 rfl (vp_in_nI (n := 0) (by omega) (by decide)) (by rw [nI_clamp (n := 0) (by omega)]; exact wC_s0) dL_undo_7 (fun H locs G => ?_)
  refine lv_goto (tgt := 14) hx hb dL_undo_8 (by decide) ?_
  refine lv_iconst (v := 0) hx hb dL_undo_14 (by decide) ?_
  exact g_iret C0 G (Or.inl ⟨hcd0, rfl, rfl⟩) dL_undo_15

set_option maxHeartbeats 4000000 in
set_option maxRecDepth 100000 in
theorem c_L_append (l : Launch) (D : va_G) (cy : Nat → ClassId) (ad : Nat → Nat) (fr : Nat → Int64) (bk : Nat → Int64) (vw : Nat → Nat) (tk : Int64) (to : Int64) (fk : Int64) (fo : Int64) (kp : Nat) (sp : Nat) (lt : Nat) (ib : Bool) (rw : Nat) (cl : Nat) (nu : Nat) (tv : Nat) (tm : Nat) (ta : Nat → Int32) (ml : Int32) (tn : Nat) (R : va_W) (ou od : Nat) (og : Nat → Int64) (oh : Nat → UInt64) (p0 : Int32) (hst : l.stackTraces = false) (htm : tm = 16 ∨ tm = 34 ∨ tm = 70) (htn : tn ≤ tm) (h60 : tn ≤ 60) (hfit : ∀ i, i < tm → fits .byte (.int (ta i)) = true) : GH l D (gts cy) yL_append cL_append 4 (some .int) [((0 : Nat), (9 : Nat), (12 : Nat), (15 : Nat)), ((0 : Nat), (9 : Nat), (15 : Nat), (17 : Nat))] 6 4 300 [.ref (ad 0), .int p0, .ref ou] (wC ad cy fr bk vw tk to fk fo kp sp lt ib rw cl nu tv tm ta ml tn ((ou, .inl (cy 2, 1, .inr (.inl og))) :: (od, .inl (cy 3, 1, .inr (.inr (.inr (.inl oh))))) :: R)) (fun r W2 => (∃ (u t2 m2 : Nat) (a2 : Nat → Int32), 33 ≤ u ∧ u ≤ 126 ∧ p0 = nI u ∧ tn < 60 ∧ (m2 = 16 ∨ m2 = 34 ∨ m2 = 70) ∧ tn + 1 ≤ m2 ∧ (∀ j, j < tn → a2 j = ta j) ∧ a2 tn = nI u ∧ (∀ i, i < m2 → fits .byte (.int (a2 i)) = true) ∧ r = some (.int 0) ∧ W2 = wC ad cy fr bk vw tk to fk fo kp sp lt ib rw cl nu t2 m2 a2 ml (tn + 1) ((ou, .inl (cy 2, 1, .inr (.inl (vp_updL og 0 (nI (tn + 1)).toInt64)))) :: (od, .inl (cy 3, 1, .inr (.inr (.inr (.inl oh))))) :: R)) ∨ (r = some (.int 1) ∧ W2 = wC ad cy fr bk vw tk to fk fo kp sp lt ib rw cl nu tv tm ta ml tn ((ou, .inl (cy 2, 1, .inr (.inl og))) :: (od, .inl (cy 3, 1, .inr (.inr (.inr (.inl oh))))) :: R) ∧ (inB p0 33 126 = false)) ∨ (r = some (.int 2) ∧ W2 = wC ad cy fr bk vw tk to fk fo kp sp lt ib rw cl nu tv tm ta ml tn ((ou, .inl (cy 2, 1, .inr (.inl og))) :: (od, .inl (cy 3, 1, .inr (.inr (.inr (.inl oh))))) :: R) ∧ (inB p0 33 126 = true ∧ tn = 60))) := by
  refine g_introH (by decide +kernel) (lv := [(0, .ref (ad 0)), (1, .int p0), (2, .ref ou)]) rfl (Nat.le_of_ble_eq_true rfl) ?_
  intro p e s m below meth c C0 hex G ls hl
  have hx := C0.1
  have hb := C0.2.1
  have hown := C0.2.2.2.2.2.1
  have hts := C0.2.2.2.2.2.2.1
  refine lv_aload_n hx hb dL_append_0 rfl (lv_at hl 2 rfl) ?_
  refine lv_iconst (v := 0) hx hb dL_append_1 (by decide) ?_
  refine g_topi (x' := nI 0) rfl ?_
  refine lv_aload_n hx hb dL_append_2 rfl (lv_at hl 0 rfl) ?_
  refine lv_iload_n hx hb dL_append_3 rfl (lv_at hl 1 rfl) ?_
  refine g_callXV (As := [.int p0]) (rest := [.int (nI 0), .ref ou]) (q0 := 0) C0 G (c_X4_append l D cy (ad := ad) (fr := fr) (bk := bk) (vw := vw) (tk := tk) (to := to) (fk := fk) (fo := fo) (kp := kp) (sp := sp) (lt := lt) (ib := ib) (rw := rw) (cl := cl) (nu := nu) (tv := tv) (tm := tm) (ta := ta) (ml := ml) (tn := tn) (R := ((ou, .inl (cy 2, 1, .inr (.inl og))) :: (od, .inl (cy 3, 1, .inr (.inr (.inr (.inl oh))))) :: R)) (p0 := p0) hst htm htn (by omega) hfit) k_X4_append ml_L_86 rfl rfl dL_append_4 rfl rfl hl.1 (Nat.le_of_ble_eq_true rfl) ⟨Nat.le_of_ble_eq_true rfl, Nat.le_of_ble_eq_true rfl⟩ ⟨Nat.le_of_ble_eq_true rfl, Nat.le_of_ble_eq_true rfl⟩ (fun E ce q9 H locs hx9 G hce hcv hcl => ?_) (fun r W2 H locs hp G => ?_)
  · rcases hx9 with ⟨rfl, hx9⟩ | ⟨rfl, hx9⟩
    · skip
      refine g_catch (name := "java/lang/IllegalArgumentException") (hp0 := []) (x := ((0 : Nat), (9 : Nat), (12 : Nat), (15 : Nat))) (hs0 := [((0 : Nat), (9 : Nat), (15 : Nat), (17 : Nat))]) C0 hex rfl (List.forall_mem_nil _) (by decide +kernel) (by decide) xl_L_15 ca_23 hce hcv hcl ?_
      refine lv_astore_n (lv' := [(3, .ref q9), (0, .ref (ad 0)), (1, .int p0), (2, .ref ou)]) hx hb dL_append_12 rfl hl (by decide) rfl (fun ls hl => ?_)
      refine lv_iconst (v := 1) hx hb dL_append_13 (by decide) ?_
      exact g_iret C0 G (Or.inr (Or.inl ⟨rfl, rfl, hx9⟩)) dL_append_14
    · skip
      refine g_catch (name := "java/lang/IllegalStateException") (hp0 := [((0 : Nat), (9 : Nat), (12 : Nat), (15 : Nat))]) (x := ((0 : Nat), (9 : Nat), (15 : Nat), (17 : Nat))) (hs0 := []) C0 hex rfl (List.forall_mem_cons.mpr ⟨⟨by decide, "java/lang/IllegalArgumentException", xl_L_15, by decide +kernel⟩, (List.forall_mem_nil _)⟩) (by decide +kernel) (by decide) xl_L_17 ca_53 hce hcv hcl ?_
      refine lv_astore_n (lv' := [(3, .ref q9), (0, .ref (ad 0)), (1, .int p0), (2, .ref ou)]) hx hb dL_append_15 rfl hl (by decide) rfl (fun ls hl => ?_)
      refine lv_iconst (v := 2) hx hb dL_append_16 (by decide) ?_
      exact g_iret C0 G (Or.inr (Or.inr ⟨rfl, rfl, hx9⟩)) dL_append_17
  obtain ⟨u, t2, m2, a2, hu1, hu2, rfl, h60b, rfl, hw, hm2, htm2, ha1, ha2, hft⟩ := hp
  have G := g_wc hw G
  refine W.eq (g2 := F0 m 7 ls [.int (nI (tn + 1)), .int (nI 0), .ref ou]) rfl ?_
  refine lv_i2l hx hb dL_append_7 rfl ?_
  refine g_last (q0 := 30) (n := 1) (W2 := wC ad cy fr bk vw tk to fk fo kp sp lt ib rw cl nu t2 m2 a2 ml (tn + 1) ((ou, .inl (cy 2, 1, .inr (.inl (vp_updL og 0 ((nI (tn + 1)).toInt64))))) :: (od, .inl (cy 3, 1, .inr (.inr (.inr (.inl oh))))) :: R)) C0 G wC_o0 2 rfl (vp_in_nI (n := 0) (by omega) (by decide)) (by rw [nI_clamp (n := 0) (by omega)]; exact wC_s0) dL_append_8 (fun H locs G => ?_)
  refine lv_goto (tgt := 18) hx hb dL_append_9 (by decide) ?_
  refine lv_iconst (v := 0) hx hb dL_append_18 (by decide) ?_
  exact g_iret C0 G (Or.inl ⟨u, t2, m2, a2, hu1, hu2, rfl, h60b, hm2, htm2, ha1, ha2, hft, rfl, rfl⟩) dL_append_19

set_option maxHeartbeats 4000000 in
set_option maxRecDepth 100000 in
theorem c_L_run (l : Launch) (D : va_G) (cy : Nat → ClassId) (ad : Nat → Nat) (fr : Nat → Int64) (bk : Nat → Int64) (vw : Nat → Nat) (tk : Int64) (to : Int64) (fk : Int64) (fo : Int64) (kp : Nat) (sp : Nat) (lt : Nat) (ib : Bool) (rw : Nat) (cl : Nat) (nu : Nat) (tv : Nat) (tm : Nat) (ta : Nat → Int32) (ml : Int32) (tn : Nat) (R : va_W) (ou od : Nat) (og : Nat → Int64) (oh : Nat → UInt64) (tx : Nat → Nat) (hst : l.stackTraces = false) (hkp : kp ≤ 6) (htm : tn ≤ tm) (htm2 : tm < 2147483648) (htx : ∀ j, j < tn → ta j = nI (tx j) ∧ tx j < 128) (hq : rsOk (0, lt, ib, rw, cl, nu)) : GH l D (gts cy) yL_run cL_run 3 (some .int) [((0 : Nat), (8 : Nat), (11 : Nat), (15 : Nat))] 7 4 24 [.ref (ad 0), .ref ou] (wC ad cy fr bk vw tk to fk fo kp sp lt ib rw cl nu tv tm ta ml tn ((ou, .inl (cy 2, 1, .inr (.inl og))) :: (od, .inl (cy 3, 1, .inr (.inr (.inr (.inl oh))))) :: R)) (fun r W2 => (wkB tx (0, lt, ib, rw, cl, nu) tn = true ∧ ∃ (q1 : RS) (sp2 lt2 : Nat) (ib2 : Bool) (rw2 cl2 nu2 : Nat) (ml2 : Int32), q1.1 = 0 ∧ rsOk q1 ∧ rsOk (sp2, lt2, ib2, rw2, cl2, nu2) ∧ r = some (.int 0) ∧ W2 = wC ad cy (va_up (saU fr kp) 0 (dpS tx q1 tn (saU fr kp 0) (saU bk kp 0) (saU vw kp 0) tn).1) (va_up (saU bk kp) 0 (dpS tx q1 tn (saU fr kp 0) (saU bk kp 0) (saU vw kp 0) tn).2.1) (va_up (saU vw kp) 0 (dpS tx q1 tn (saU fr kp 0) (saU bk kp 0) (saU vw kp 0) tn).2.2.1) tk to fk fo (saK kp) sp2 lt2 ib2 rw2 cl2 nu2 tv tm ta ml2 0 ((ou, .inl (cy 2, 1, .inr (.inl (vp_updL og 0 (nI ((dpS tx q1 tn (saU fr kp 0) (saU bk kp 0) (saU vw kp 0) tn).2.2.2.1)).toInt64)))) :: (od, .inl (cy 3, 1, .inr (.inr (.inr (.inl oh))))) :: R)) ∨ (wkB tx (0, lt, ib, rw, cl, nu) tn = false ∧ ∃ (sp2 lt2 : Nat) (ib2 : Bool) (rw2 cl2 nu2 : Nat), rsOk (sp2, lt2, ib2, rw2, cl2, nu2) ∧ r = some (.int 1) ∧ W2 = wC ad cy fr bk vw tk to fk fo kp sp2 lt2 ib2 rw2 cl2 nu2 tv tm ta ml tn ((ou, .inl (cy 2, 1, .inr (.inl og))) :: (od, .inl (cy 3, 1, .inr (.inr (.inr (.inl oh))))) :: R))) := by
  refine g_introH (by decide +kernel) (lv := [(0, .ref (ad 0)), (1, .ref ou)]) rfl (Nat.le_of_ble_eq_true rfl) ?_
  intro p e s m below meth c C0 hex G ls hl
  have hx := C0.1
  have hb := C0.2.1
  have hown := C0.2.2.2.2.2.1
  have hts := C0.2.2.2.2.2.2.1
  refine lv_aload_n hx hb dL_run_0 rfl (lv_at hl 1 rfl) ?_
  refine lv_iconst (v := 0) hx hb dL_run_1 (by decide) ?_
  refine g_topi (x' := nI 0) rfl ?_
  refine lv_aload_n hx hb dL_run_2 rfl (lv_at hl 0 rfl) ?_
  refine g_callX2V (As := []) (rest := [.int (nI 0), .ref ou]) (q0 := 0) C0 G (c_X4_run l D cy (ad := ad) (fr := fr) (bk := bk) (vw := vw) (tk := tk) (to := to) (fk := fk) (fo := fo) (kp := kp) (sp := sp) (lt := lt) (ib := ib) (rw := rw) (cl := cl) (nu := nu) (tv := tv) (tm := tm) (ta := ta) (ml := ml) (tn := tn) (R := ((ou, .inl (cy 2, 1, .inr (.inl og))) :: (od, .inl (cy 3, 1, .inr (.inr (.inr (.inl oh))))) :: R)) (tx := tx) hst hkp htm htm2 htx hq) k_X4_run ml_L_89 rfl rfl dL_run_3 rfl rfl hl.1 (Nat.le_of_ble_eq_true rfl) ⟨Nat.le_of_ble_eq_true rfl, Nat.le_of_ble_eq_true rfl⟩ ⟨Nat.le_of_ble_eq_true rfl, Nat.le_of_ble_eq_true rfl⟩ (fun E ce q9 W9 H locs hx9 G hce hcv hcl => ?_) (fun r W2 H locs hp G => ?_)
  · obtain ⟨rfl, hwk, sp2, lt2, ib2, rw2, cl2, nu2, hrs2, rfl⟩ := hx9
    · skip
      refine g_catch (name := "java/lang/IllegalArgumentException") (hp0 := []) (x := ((0 : Nat), (8 : Nat), (11 : Nat), (15 : Nat))) (hs0 := []) C0 hex rfl (List.forall_mem_nil _) (by decide +kernel) (by decide) xl_L_15 ca_23 hce hcv hcl ?_
      refine lv_astore_n (lv' := [(2, .ref q9), (0, .ref (ad 0)), (1, .ref ou)]) hx hb dL_run_11 rfl hl (by decide) rfl (fun ls hl => ?_)
      refine lv_iconst (v := 1) hx hb dL_run_12 (by decide) ?_
      exact g_iret C0 G (Or.inr ⟨hwk, sp2, lt2, ib2, rw2, cl2, nu2, hrs2, rfl, rfl⟩) dL_run_13
  obtain ⟨hwk, q1, sp2, lt2, ib2, rw2, cl2, nu2, ml2, hq10, hq1, hrs2, rfl, hw⟩ := hp
  have G := g_wc hw G
  refine W.eq (g2 := F0 m 6 ls [.int (nI ((dpS tx q1 tn (saU fr kp 0) (saU bk kp 0) (saU vw kp 0) tn).2.2.2.1)), .int (nI 0), .ref ou]) rfl ?_
  refine lv_i2l hx hb dL_run_6 rfl ?_
  refine g_last (q0 := 30) (n := 1) (W2 := wC ad cy (va_up (saU fr kp) 0 (dpS tx q1 tn (saU fr kp 0) (saU bk kp 0) (saU vw kp 0) tn).1) (va_up (saU bk kp) 0 (dpS tx q1 tn (saU fr kp 0) (saU bk kp 0) (saU vw kp 0) tn).2.1) (va_up (saU vw kp) 0 (dpS tx q1 tn (saU fr kp 0) (saU bk kp 0) (saU vw kp 0) tn).2.2.1) tk to fk fo (saK kp) sp2 lt2 ib2 rw2 cl2 nu2 tv tm ta ml2 0 ((ou, .inl (cy 2, 1, .inr (.inl (vp_updL og 0 ((nI ((dpS tx q1 tn (saU fr kp 0) (saU bk kp 0) (saU vw kp 0) tn).2.2.2.1)).toInt64))))) :: (od, .inl (cy 3, 1, .inr (.inr (.inr (.inl oh))))) :: R)) C0 G wC_o0 2 rfl (vp_in_nI (n := 0) (by omega) (by decide)) (by rw [nI_clamp (n := 0) (by omega)]; exact wC_s0) dL_run_7 (fun H locs G => ?_)
  refine lv_goto (tgt := 14) hx hb dL_run_8 (by decide) ?_
  refine lv_iconst (v := 0) hx hb dL_run_14 (by decide) ?_
  exact g_iret C0 G (Or.inl ⟨hwk, q1, sp2, lt2, ib2, rw2, cl2, nu2, ml2, hq10, hq1, hrs2, rfl, rfl⟩) dL_run_15
