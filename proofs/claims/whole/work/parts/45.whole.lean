def R_law : String := "MirrorCardsLaw"
def lw_P (b : Addr) (xs : List Int32) (args : Array Value) (s : State) : Prop := args = #[.ref b] ∧ s.IntsAt b xs ∧ xs.length ≤ 2048 ∧ (Jvm.Cond.and given_1 narrow_1).before args s = true
/-- what a walk over the start with the record d0 says of its end, said of the start itself -/
theorem lw_closed {s t : State} {o : Outcome} {d0 : Drawn} {L : List Loc} {k n : Nat} (hd0 : s.drawn.sameBut d0 lw_cs) (hv : ∃ v, o = .returned v) (hW : (s.setDrawn d0).WarmedH t.vm) (hs : (s.setDrawn d0).sameButNew ({ t with vm := s.vm } : State) L k n) : State.butDraws s t lw_cs (fun t1 => Framed s o t1 L k n) := by
  have h2 : t.drawn = d0 := congrArg State.drawn hs.1
  refine ⟨⟨hv, hW, State.sameButNew.setDrawn hs s.drawn⟩, ?_, by decide⟩
  rw [h2]
  exact hd0
def lw_Q (_ : Array Value) (s : State) (o : Outcome) (t : State) : Prop := o = .returned (some (.int 1)) ∧ State.butDraws s t lw_cs (fun t1 => Framed s o t1 [] 601024 7293034)
def lw_Z (below : List Frame) (a : Array Value) (s : State) : State → Prop := fun t => ∃ o, t.status = .running ∧ Ended t below o ∧ lw_Q a s o t
/-- the law's own end, with 1 on the stack, nothing written that was there before, its room as the claim has it; d0: the record of draws at this point (at the entry s.drawn: begin with 'refine W.base ?_' and 'have hd0 := Drawn.sameBut.refl s.drawn lw_cs') -/
theorem lw_ret {p : Program} {l : Launch} {e : Env} {s : State} {m : MethodId} {below : List Frame} {meth : Method} {c : Code} {b : Nat} {d0 : Drawn} (hd0 : s.drawn.sameBut d0 lw_cs) (hx : p.tables.exec = Jvm.exec) (hb : c.code = code) (hr : meth.sig.returnType = ret) (hlocks : meth.locks = false) {pc : Nat} {H : Heap} {ls : Array Slot} (hdg : decode code pc = .ok (.ireturn, 1)) : W p l e room_1 (s.setDrawn d0) m #[Value.ref b] below meth c H [] 601024 7293034 (lw_Z below #[Value.ref b] s) (F0 m pc ls [.int 1]) := by
  intro T hT X
  obtain ⟨fs, hret, hrun, hended, hW, hframe⟩ := X.leave (v := some (.int 1)) (hlocks := hlocks) (fun h => by rw [hr] at h; cases h)
  have hmeth' : T.vm.method? m = some meth := X.method'
  refine ⟨T.setFrames fs, ?_, .returned (some (.int 1)), hrun, hended, rfl, lw_closed hd0 ⟨_, rfl⟩ hW hframe⟩
  jvm_step X.here [X.here.top, hx, hb, hdg, hmeth', hr, ret, narrow_b1]
  (try refine ⟨rfl, ?_⟩); (try refine ⟨rfl, ?_⟩)
  first | (intro acts; rw [hret _ acts rfl rfl rfl]) | rw [hret _ _ rfl rfl rfl]
  exact Steps.refl _
/-- what holds at the law's entry: the machine, the code, the tables' words (any of lw_tbl by 'hts w (by decide +kernel)'), the script of L ints xs at the cell b, what the Statement gives of the start (any of its parts by flat_of_before) -/
def lw_At (p : Program) (s : State) (m : MethodId) (meth : Method) (c : Code) (b L : Nat) (xs : Nat → Int32) : Prop :=
  p.tables.exec = Jvm.exec ∧ c.code = code ∧ meth.sig.returnType = ret ∧ c.maxLocals = 9 ∧ s.vm.findClass R_law = some m.cls ∧ (∀ w ∈ lw_tbl, w.before #[Value.ref b] s = true) ∧ va_X b L xs s s.heap ∧ b < s.heap.size ∧ meth.locks = false ∧ (Jvm.Cond.and given_1 narrow_1).before #[Value.ref b] s = true
set_option maxHeartbeats 4000000 in
set_option maxRecDepth 100000 in
theorem law_loop {p : Program} {l : Launch} {e : Env} {s : State} {m : MethodId} {below : List Frame} {meth : Method} {c : Code} {D : va_G} {cy : Nat → ClassId} {ad am : Nat → Nat} {ou od b L : Nat} {xs : Nat → Int32} (C0 : gC p s m #[.ref b] meth c code 9 (some .boolean) RL D (gts cy) (fun q : Nat => s.heap.size ≤ q)) (hr : meth.sig.returnType = ret) (hst : l.stackTraces = false) (hXs : va_X b L xs s s.heap) (hbl : b < s.heap.size) (hL : L ≤ 2048) :
    ∀ (d li k : Nat), L - li < d → li = 4 * k → li ≤ L → ∀ (H : Heap) (locs : List Loc) (ls : Array Slot), lwI D (fun q : Nat => s.heap.size ≤ q) s cy ad am ou od H locs → lv_has ls 9 [(0, .ref b), (1, .ref (ad 0)), (2, .ref (am 0)), (3, .ref ou), (4, .ref od), (5, .int (nI li))] → W p l e room_1 s m #[.ref b] below meth c H locs (100 + 8 * k) (3000 + 400 * k) (lw_Z below #[Value.ref b] s) (F0 m 28 ls []) := by
  have hx := C0.1
  have hb := C0.2.1
  have hlocks := C0.2.2.2.2.1
  have hbA : ¬ (fun q : Nat => s.heap.size ≤ q) b := Nat.not_le.mpr hbl
  intro d
  induction d with
  | zero => intro li k h; exact absurd h (Nat.not_lt_zero _)
  | succ d ih =>
    intro li k hd hk hliL H locs ls I hl
    have hS : va_S (fun q : Nat => s.heap.size ≤ q) s.heap H locs := by
      obtain ⟨fr, bk, vw, tk, to, fk, fo, kp, sp, lt, ib, rw, cl, nu, tv, tm, ta, ml, tn, mf, mb, mv, kn, on, th, X, ap, le, fc, f1, f2, ha, og, oh, tx, hF, hT, hR, G⟩ := id I
      exact G.2.2
    refine lv_iload hx hb dL_law_28 (lv_at hl 5 rfl) ?_
    refine lv_aload_n hx hb dL_law_30 rfl (lv_at hl 0 rfl) ?_
    refine va_slen hx hb hXs hbl hbA hS dL_law_31 ?_
    refine lv_iconst (v := 4) hx hb dL_law_32 (by decide) ?_
    refine lv_isub hx hb dL_law_33 ?_
    refine lv_icmp_gt (tgt := 1903) hx hb dL_law_34 (by decide) (fun c_34 => ?_) (fun c_34 => ?_)
    · refine lv_iconst (v := 1) hx hb dL_law_1903 (by decide) ?_
      refine va_forget (fun q hq => lwI_locs I q hq) ?_
      refine W.widen (k := 601024) (n := 7293034) (by omega) (by omega) ?_
      refine W.base ?_
      exact lw_ret (Drawn.sameBut.refl s.drawn lw_cs) hx hb hr hlocks dL_law_1904
    · have hlt : li + 4 ≤ L := by
        rcases Nat.lt_or_ge L (li + 4) with g | g
        · exact absurd ((lw_sub4 (by omega) (by omega)).mpr g) c_34
        · exact g
      have kk : ∀ (H : Heap) (locs : List Loc) (ls : Array Slot), lwI D (fun q : Nat => s.heap.size ≤ q) s cy ad am ou od H locs → lv_has ls 9 [(0, .ref b), (1, .ref (ad 0)), (2, .ref (am 0)), (3, .ref ou), (4, .ref od), (5, .int (nI li))] → W p l e room_1 s m #[.ref b] below meth c H locs (100 + 8 * k + 8) (3000 + 400 * k + 400) (lw_Z below #[Value.ref b] s) (F0 m 1897 ls []) := by
        intro H locs ls I hl
        refine lv_iinc (v := nI (li + 4)) (lv' := [(5, .int (nI (li + 4))), (0, .ref b), (1, .ref (ad 0)), (2, .ref (am 0)), (3, .ref ou), (4, .ref od)]) hx hb dL_law_1897 hl (k := 5) rfl (nI_add li 4) (by decide) rfl (fun ls hl => ?_)
        refine lv_goto (tgt := 28) hx hb dL_law_1900 (by decide) ?_
        have h := ih (li + 4) (k + 1) (by omega) (by omega) hlt H locs ls I (lv_sub hl [1, 2, 3, 4, 5, 0] rfl)
        rw [show 100 + 8 * (k + 1) = 100 + 8 * k + 8 by omega, show 3000 + 400 * (k + 1) = 3000 + 400 * k + 400 by omega] at h
        exact h
      refine lv_aload_n hx hb dL_law_37 rfl (lv_at hl 0 rfl) ?_
      refine lv_iload hx hb dL_law_38 (lv_at hl 5 rfl) ?_
      refine va_sld hx hb hXs hbl hbA hS (vp_in_nI (n := li) (by omega) (by omega)) dL_law_40 ?_
      refine lv_bipush (v := 31) hx hb dL_law_41 (by decide) ?_
      refine lv_iand hx hb dL_law_43 ?_
      obtain ⟨n, hn, hpn⟩ := and31 (xs (nI li).toNatClampNeg)
      refine g_topi (x' := nI n) hpn ?_
      have hce : 100 + 8 * k + 8 ≤ 601024 := by omega
      have hsl : 3000 + 400 * k + 400 ≤ 7293034 := by omega
      have hli3 : li + 3 < L := by omega
      rcases (show n = 0 ∨ n = 1 ∨ n = 2 ∨ n = 3 ∨ n = 4 ∨ n = 5 ∨ n = 6 ∨ n = 7 ∨ n = 8 ∨ n = 9 ∨ n = 10 ∨ n = 11 ∨ n = 12 ∨ n = 13 ∨ n = 14 ∨ n = 15 ∨ n = 16 ∨ n = 17 ∨ n = 18 ∨ n = 19 ∨ n = 20 ∨ n = 21 ∨ n = 22 ∨ n = 23 ∨ n = 24 ∨ n = 25 ∨ n = 26 ∨ n = 27 ∨ n = 28 ∨ 29 ≤ n by omega) with rfl | rfl | rfl | rfl | rfl | rfl | rfl | rfl | rfl | rfl | rfl | rfl | rfl | rfl | rfl | rfl | rfl | rfl | rfl | rfl | rfl | rfl | rfl | rfl | rfl | rfl | rfl | rfl | rfl | h29
      · refine lv_tableIn (off := 132) (tgt := 176) hx hb dL_law_44 (by decide) (by decide) rfl (by decide) ?_
        exact lw_c0 C0 hst hXs hbl hbA hli3 hL hce hsl I hl kk
      · refine lv_tableIn (off := 212) (tgt := 256) hx hb dL_law_44 (by decide) (by decide) rfl (by decide) ?_
        exact lw_c1 C0 hst hXs hbl hbA hli3 hL hce hsl I hl kk
      · refine lv_tableIn (off := 268) (tgt := 312) hx hb dL_law_44 (by decide) (by decide) rfl (by decide) ?_
        exact lw_c2 C0 hst hXs hbl hbA hli3 hL hce hsl I hl kk
      · refine lv_tableIn (off := 324) (tgt := 368) hx hb dL_law_44 (by decide) (by decide) rfl (by decide) ?_
        exact lw_c3 C0 hst hXs hbl hbA hli3 hL hce hsl I hl kk
      · refine lv_tableIn (off := 392) (tgt := 436) hx hb dL_law_44 (by decide) (by decide) rfl (by decide) ?_
        exact lw_c4 C0 hst hXs hbl hbA hli3 hL hce hsl I hl kk
      · refine lv_tableIn (off := 472) (tgt := 516) hx hb dL_law_44 (by decide) (by decide) rfl (by decide) ?_
        exact lw_c5 C0 hst hXs hbl hbA hli3 hL hce hsl I hl kk
      · refine lv_tableIn (off := 552) (tgt := 596) hx hb dL_law_44 (by decide) (by decide) rfl (by decide) ?_
        exact lw_c6 C0 hst hXs hbl hbA hli3 hL hce hsl I hl kk
      · refine lv_tableIn (off := 620) (tgt := 664) hx hb dL_law_44 (by decide) (by decide) rfl (by decide) ?_
        exact lw_c7 C0 hst hXs hbl hbA hli3 hL hce hsl I hl kk
      · refine lv_tableIn (off := 676) (tgt := 720) hx hb dL_law_44 (by decide) (by decide) rfl (by decide) ?_
        exact lw_c8 C0 hst hXs hbl hbA hli3 hL hce hsl I hl kk
      · refine lv_tableIn (off := 763) (tgt := 807) hx hb dL_law_44 (by decide) (by decide) rfl (by decide) ?_
        exact lw_c9 C0 hst hXs hbl hbA hli3 hL hce hsl I hl kk
      · refine lv_tableIn (off := 831) (tgt := 875) hx hb dL_law_44 (by decide) (by decide) rfl (by decide) ?_
        exact lw_c10 C0 hst hXs hbl hbA hli3 hL hce hsl I hl kk
      · refine lv_tableIn (off := 911) (tgt := 955) hx hb dL_law_44 (by decide) (by decide) rfl (by decide) ?_
        exact lw_c11 C0 hst hXs hbl hbA hli3 hL hce hsl I hl kk
      · refine lv_tableIn (off := 991) (tgt := 1035) hx hb dL_law_44 (by decide) (by decide) rfl (by decide) ?_
        exact lw_c12 C0 hst hXs hbl hbA hli3 hL hce hsl I hl kk
      · refine lv_tableIn (off := 1059) (tgt := 1103) hx hb dL_law_44 (by decide) (by decide) rfl (by decide) ?_
        exact lw_c13 C0 hst hXs hbl hbA hli3 hL hce hsl I hl kk
      · refine lv_tableIn (off := 1127) (tgt := 1171) hx hb dL_law_44 (by decide) (by decide) rfl (by decide) ?_
        exact lw_c14 C0 hst hXs hbl hbA hli3 hL hce hsl I hl kk
      · refine lv_tableIn (off := 1195) (tgt := 1239) hx hb dL_law_44 (by decide) (by decide) rfl (by decide) ?_
        exact lw_c15 C0 hst hXs hbl hbA hli3 hL hce hsl I hl kk
      · refine lv_tableIn (off := 1251) (tgt := 1295) hx hb dL_law_44 (by decide) (by decide) rfl (by decide) ?_
        exact lw_c16 C0 hst hXs hbl hbA hli3 hL hce hsl I hl kk
      · refine lv_tableIn (off := 1307) (tgt := 1351) hx hb dL_law_44 (by decide) (by decide) rfl (by decide) ?_
        exact lw_c17 C0 hst hXs hbl hbA hli3 hL hce hsl I hl kk
      · refine lv_tableIn (off := 1375) (tgt := 1419) hx hb dL_law_44 (by decide) (by decide) rfl (by decide) ?_
        exact lw_c18 C0 hst hXs hbl hbA hli3 hL hce hsl I hl kk
      · refine lv_tableIn (off := 1452) (tgt := 1496) hx hb dL_law_44 (by decide) (by decide) rfl (by decide) ?_
        exact lw_c19 C0 hst hXs hbl hbA hli3 hL hce hsl I hl kk
      · refine lv_tableIn (off := 1532) (tgt := 1576) hx hb dL_law_44 (by decide) (by decide) rfl (by decide) ?_
        exact lw_c20 C0 hst hXs hbl hbA hli3 hL hce hsl I hl kk
      · refine lv_tableIn (off := 1588) (tgt := 1632) hx hb dL_law_44 (by decide) (by decide) rfl (by decide) ?_
        exact lw_c21 C0 hst hXs hbl hbA hli3 hL hce hsl I hl kk
      · refine lv_tableIn (off := 1656) (tgt := 1700) hx hb dL_law_44 (by decide) (by decide) rfl (by decide) ?_
        exact lw_c22 C0 hst hXs hbl hbA hli3 hL hce hsl I hl kk
      · refine lv_tableIn (off := 1712) (tgt := 1756) hx hb dL_law_44 (by decide) (by decide) rfl (by decide) ?_
        exact lw_c23 C0 hst hXs hbl hbA hli3 hL hce hsl I hl kk
      · refine lv_tableIn (off := 1725) (tgt := 1769) hx hb dL_law_44 (by decide) (by decide) rfl (by decide) ?_
        exact lw_c24 C0 hst hXs hbl hbA hli3 hL hce hsl I hl kk
      · refine lv_tableIn (off := 1738) (tgt := 1782) hx hb dL_law_44 (by decide) (by decide) rfl (by decide) ?_
        exact lw_c25 C0 hst hXs hbl hbA hli3 hL hce hsl I hl kk
      · refine lv_tableIn (off := 1782) (tgt := 1826) hx hb dL_law_44 (by decide) (by decide) rfl (by decide) ?_
        exact lw_c26 C0 hst hXs hbl hbA hli3 hL hce hsl I hl kk
      · refine lv_tableIn (off := 1826) (tgt := 1870) hx hb dL_law_44 (by decide) (by decide) rfl (by decide) ?_
        exact lw_c27 C0 hst hXs hbl hbA hli3 hL hce hsl I hl kk
      · refine lv_tableIn (off := 1839) (tgt := 1883) hx hb dL_law_44 (by decide) (by decide) rfl (by decide) ?_
        exact lw_c28 C0 hst hXs hbl hbA hli3 hL hce hsl I hl kk
      · refine lv_tableOut (tgt := 1897) hx hb dL_law_44 (Or.inr (by rw [nI_toInt (by omega)]; omega)) (by decide) ?_
        refine W.widen (k := 100 + 8 * k + 8) (n := 3000 + 400 * k + 400) (by omega) (by omega) ?_
        exact kk H locs ls I hl
set_option maxHeartbeats 4000000 in
set_option maxRecDepth 100000 in
/-- THE LAW, from its entry -/
theorem whole_start {p : Program} {e : Env} {s : State} {m : MethodId} {below : List Frame} {meth : Method} {c : Code} (l : Launch) (hflags : l.flags = flags0) {b L : Nat} {xs : Nat → Int32} (hL : L ≤ 2048) (C0 : lw_At p s m meth c b L xs) : W p l e room_1 s m #[Value.ref b] below meth c s.heap [] 0 0 (lw_Z below #[Value.ref b] s) (entryFrame m ([Value.ref b] : List Value).toArray 9) := by
  obtain ⟨hx, hb, hr, hml, hown, hts0, hXs, hbl, hlocks, hgv⟩ := id C0
  have hst : l.stackTraces = false := by unfold Launch.stackTraces; rw [hflags]; decide +kernel
  obtain ⟨D, cy, hK⟩ := lw_known hts0
  have hfc : ∃ cc : ClassId, s.vm.findClass RX4 = some cc := ⟨_, (hK.1 8 (RX4, TX4, 6) rfl).2.1⟩
  obtain ⟨cc4, hfc⟩ := hfc
  have hao : gAO s := va_AO.of (lw_hao hts0)
  have C1 : gC p s m #[.ref b] meth c code 9 (some .boolean) RL D (gts cy) (fun q : Nat => s.heap.size ≤ q) := ⟨hx, hb, hml, hr, hlocks, hown, fun w hw => hts0 w (gTs_in w hw), hK, lw_gT hts0 hgv hfc, lw_gS hts0 hgv, fun _ h => h⟩
  have hts := C1.2.2.2.2.2.2.1
  have G : gW D [] (fun q : Nat => s.heap.size ≤ q) s s.heap [] := ⟨fun k q h => by simp at h, ⟨fun i j p q h => by simp at h, fun k q h => by simp at h⟩, va_S.rf⟩
  have hl := lv_entry ([.ref b]) (n := 9) (Nat.le_of_ble_eq_true rfl)
  rw [lg_entry_eq]
  generalize (lg_sl ([.ref b]) ++ List.replicate (9 - (lg_sl ([.ref b])).length) Slot.unset).toArray = ls at hl ⊢
  have hl : lv_has ls 9 [(0, .ref b)] := hl
  refine g_newO (ci := 8) (fs := [.null, .null, .null, .null, .null, .null]) C1 G in_X4 ft_X4 xl_L_8 ist_X4 ini_X4 rfl (by intro j hj; rcases (show j = 0 ∨ j = 1 ∨ j = 2 ∨ j = 3 ∨ j = 4 ∨ j = 5 by omega) with rfl | rfl | rfl | rfl | rfl | rfl <;> rfl) (Nat.le_of_ble_eq_true rfl) (Nat.le_of_ble_eq_true rfl) dL_law_0 (fun q1 H G => ?_)
  refine lv_dup hx hb dL_law_3 rfl ?_
  refine g_callK (As := []) (rest := [.ref q1]) C1 G hao (c_X4_init l D cy (h := q1)) k_X4_init ml_L_96 dL_law_4 rfl rfl hl.1 (Nat.le_of_ble_eq_true rfl) ⟨Nat.le_of_ble_eq_true rfl, Nat.le_of_ble_eq_true rfl⟩ ⟨Nat.le_of_ble_eq_true rfl, Nat.le_of_ble_eq_true rfl⟩ (fun r W2 H locs hp G => ?_)
  obtain ⟨rfl, ad, tv, had, hw⟩ := hp
  have G9 := g_wc hw G
  subst had
  have G := G9
  refine W.eq (g2 := F0 m 7 ls [.ref (ad 0)]) rfl ?_
  refine lv_astore_n (lv' := [(1, .ref (ad 0)), (0, .ref b)]) hx hb dL_law_7 rfl hl (by decide) rfl (fun ls hl => ?_)
  refine g_newO (ci := 9) (fs := [.int 0, .null, .int (nI 0), .null, .int (nI 0), .int (nI 0), .int (nI 0), .int (nI 0), .int 0, .int 0, .null, .long 0]) C1 G in_X5 ft_X5 xl_L_97 ist_X5 ini_X5 rfl (by intro j hj; rcases (show j = 0 ∨ j = 1 ∨ j = 2 ∨ j = 3 ∨ j = 4 ∨ j = 5 ∨ j = 6 ∨ j = 7 ∨ j = 8 ∨ j = 9 ∨ j = 10 ∨ j = 11 by omega) with rfl | rfl | rfl | rfl | rfl | rfl | rfl | rfl | rfl | rfl | rfl | rfl <;> rfl) (Nat.le_of_ble_eq_true rfl) (Nat.le_of_ble_eq_true rfl) dL_law_8 (fun q2 H G => ?_)
  refine lv_dup hx hb dL_law_11 rfl ?_
  refine g_callK (As := []) (rest := [.ref q2]) C1 G hao (c_X5_init l D cy (R := _) (h := q2)) k_X5_init ml_L_99 dL_law_12 rfl rfl hl.1 (Nat.le_of_ble_eq_true rfl) ⟨Nat.le_of_ble_eq_true rfl, Nat.le_of_ble_eq_true rfl⟩ ⟨Nat.le_of_ble_eq_true rfl, Nat.le_of_ble_eq_true rfl⟩ (fun r W2 H locs hp G => ?_)
  obtain ⟨rfl, am, ham, hw⟩ := hp
  have G9 := g_wc hw G
  subst ham
  have G := G9
  refine W.eq (g2 := F0 m 15 ls [.ref (am 0)]) rfl ?_
  refine lv_astore_n (lv' := [(2, .ref (am 0)), (1, .ref (ad 0)), (0, .ref b)]) hx hb dL_law_15 rfl hl (by decide) rfl (fun ls hl => ?_)
  refine lv_iconst (v := 1) hx hb dL_law_16 (by decide) ?_
  refine g_newL (n := 1) C1 G 2 rfl rfl (by decide) (Nat.le_of_ble_eq_true rfl) (Nat.le_of_ble_eq_true rfl) dL_law_17 (fun ou H G => ?_)
  refine lv_astore_n (lv' := [(3, .ref ou), (2, .ref (am 0)), (1, .ref (ad 0)), (0, .ref b)]) hx hb dL_law_19 rfl hl (by decide) rfl (fun ls hl => ?_)
  refine lv_iconst (v := 1) hx hb dL_law_20 (by decide) ?_
  refine g_newD (n := 1) C1 G 3 rfl rfl (by decide) (Nat.le_of_ble_eq_true rfl) (Nat.le_of_ble_eq_true rfl) dL_law_21 (fun od H G => ?_)
  refine lv_astore (lv' := [(4, .ref od), (3, .ref ou), (2, .ref (am 0)), (1, .ref (ad 0)), (0, .ref b)]) hx hb dL_law_23 hl (by decide) rfl (fun ls hl => ?_)
  refine lv_iconst (v := 0) hx hb dL_law_25 (by decide) ?_
  refine lv_istore (lv' := [(5, .int 0), (4, .ref od), (3, .ref ou), (2, .ref (am 0)), (1, .ref (ad 0)), (0, .ref b)]) hx hb dL_law_26 hl (by decide) rfl (fun ls hl => ?_)
  refine W.widen (k := 100 + 8 * 0) (n := 3000 + 400 * 0) (Nat.le_of_ble_eq_true rfl) (Nat.le_of_ble_eq_true rfl) ?_
  have G : gW D (wC ad cy (fun _ => 0) (fun _ => 0) (fun _ => 0) 0 0 0 0 0 0 0 false 0 0 0 tv 16 (fun _ => 0) 0 0 ((ou, .inl (cy 2, 1, .inr (.inl (fun _ => 0)))) :: (od, .inl (cy 3, 1, .inr (.inr (.inr (.inl (fun _ => 0)))))) :: wM am cy 0 (cS m0F m0B m0V) 0 (fun _ => 0) 0 0 0 0 0 0 (fun _ => 0) 0 ([]))) (fun q : Nat => s.heap.size ≤ q) s _ _ := g_permW (by rw [wC_tail (R := _ :: _ :: _)]; exact pm_st _ (wM am cy 0 (cS m0F m0B m0V) 0 (fun _ => 0) 0 0 0 0 0 0 (fun _ => 0) 0 ([])) _ _) G
  have G := g_swCM G
  have G := wM_B (B' := biF (-1) 0) (fun p hp => biF_0 p hp) G
  have G := g_swMC G
  exact law_loop C1 hr hst hXs hbl hL (L + 1) 0 0 (by omega) rfl (Nat.zero_le _) _ _ ls ⟨(fun _ => 0), (fun _ => 0), (fun _ => 0), 0, 0, 0, 0, 0, 0, 0, false, 0, 0, 0, tv, 16, (fun _ => 0), 0, 0, m0F, m0B, m0V, (-1), 0, 0, (fun _ => 0), 0, 0, 0, 0, 0, 0, (fun _ => 0), (fun _ => 0), (fun _ => 0), lwF_0, lwT_i, (by refine ⟨?_, ?_, ?_, ?_, ?_⟩ <;> decide), G⟩ (lv_sub hl [5, 4, 3, 2, 1, 0] rfl)
set_option maxHeartbeats 4000000 in
theorem lw_walk (l : Launch) (hflags : l.flags = flags0) (b : Addr) (xs : List Int32) : MetFree l x (headSpec (Jvm.Cond.code x code maxLocals ret :: tables_1) room_1) (lw_P b xs) (fun _ _ _ _ _ => True) lw_Q := by
  refine MetFree.of_bodyS (code := code) (maxLocals := maxLocals) (ret := ret) (by decide) ?_ ?_
  · intro args s m h hn
    obtain ⟨meth, c, h1, h2, h3, h4, h5, h6, -, -⟩ := Cond.code_spec hn (atoms_spec (ws := Jvm.Cond.code x code maxLocals ret :: tables_1) h _ List.mem_cons_self)
    exact ⟨meth, c, h1, h2, h3, h4, h5, h6⟩
  · intro p e s m args below meth c s₁ B hml0 hP _
    obtain ⟨rfl, hx, hbd, hgv⟩ := hP
    obtain ⟨scr, harrAt, hlist, hof, hsmall⟩ := hx
    obtain ⟨hcb, hkn, -, -⟩ := State.arrayAt?_spec harrAt
    have hown : s.vm.findClass R_law = some m.cls := findClass_of_methodNamed B.named
    have hts0 : ∀ c ∈ (Jvm.Cond.code x code maxLocals ret :: tables_1), c.before #[Value.ref b] s = true := atoms_spec (ws := Jvm.Cond.code x code maxLocals ret :: tables_1) B.pre
    have hts : ∀ w ∈ lw_tbl, w.before #[Value.ref b] s = true := k2_hts_sels lw_privs (fun w hw => hts0 w (List.mem_cons_of_mem _ hw)) lw_privs_ok
    have hml : c.maxLocals = 9 := B.maxLocals_eq (hts0 _ List.mem_cons_self)
    have X₀ : Stand p l e room_1 s m #[Value.ref b] below meth c s₁ [] 0 0 := Stand.of_body B
    have hh0 : s₁.heap = s.heap := by rw [B.state]; rfl
    have hsz : scr.slots.size = xs.length := by rw [← Array.length_toList, hlist, List.length_map]
    have hval : ∀ j : Nat, j < xs.length → scr.slots[j]? = some (.int (xs.getD j 0)) := fun j hj => by
      rw [← Array.getElem?_toList, hlist]
      simp [hj]
    have hbl : b < s.heap.size := (Array.getElem?_eq_some_iff.mp hcb).1
    have hX : va_X b xs.length (fun j => xs.getD j 0) s s.heap := ⟨scr, hcb, hof, hkn, hsz, hval⟩
    have K : W p l e room_1 s m #[Value.ref b] below meth c s₁.heap [] 0 0 (lw_Z below #[Value.ref b] s) (entryFrame m ([Value.ref b] : List Value).toArray 9) := by
      rw [hh0]
      exact whole_start l hflags hbd ⟨B.exec, B.bytes, B.returns, hml, hown, hts, hX, hbl, B.notSynchronized, hgv⟩
    obtain ⟨t, a1, o, b1, b2, b3⟩ := K s₁ rfl X₀
    exact ⟨t, o, a1, b1, b2, b3⟩
theorem lw_pre_spec {args : Array Value} {s : State} (h : (Jvm.Cond.and given_1 narrow_1).before args s = true) (hr : rest_1_c.before args s = true) : ∃ (b : Addr) (xs : List Int32), lw_P b xs args s := by
  have hs := flat_of_before _ h
  have hq := flat_of_before _ hr
  have hc : (Cond.count 1).before args s = true := hs _ (by decide +kernel)
  have harr : (Cond.arrayOf (.arg 0) .int).before args s = true := hs _ (by decide +kernel)
  have hle : (Cond.le (.length (.arg 0)) (.int 2048)).before args s = true := hs _ (by decide +kernel)
  have hlen : (Cond.isInt (.length (.arg 0))).before args s = true := hq _ (by decide +kernel)
  have hall : (Cond.all (.arg 0) (.isInt (.elem (.arg 0) (.index 0)))).before args s = true := hq _ (by decide +kernel)
  obtain ⟨b, xs, hb, hx⟩ := State.ints_of_pre rfl harr hlen hall
  have hsm : xs.length < 2 ^ 31 := hx.choose_spec.2.2.2
  have hev : (Term.length (.arg 0)).eval args s none [] s = some (.int xs.length.toInt32) := hx.length_eval hb
  have hv := Cond.le_ints hev (show (Term.int 2048).eval args s none [] s = some (.int 2048) from rfl)
  have hd : xs.length.toInt32 ≤ 2048 := by
    simpa [Cond.before, Cond.holds, hv] using hle
  have hN : xs.length ≤ 2048 := (Int32.ofNat_le_ofNat hsm (by decide)).mp (show Int32.ofNat xs.length ≤ Int32.ofNat 2048 from hd)
  exact ⟨b, xs, Cond.one_arg hc (show args[0]? = some (.ref b) from hb), hx, hN, h⟩
theorem lw_comes (l : Launch) (hflags : l.flags = flags0) : Comes l x (Jvm.Cond.code x code maxLocals ret :: tables_1) room_1 (fun tb e args s => Calls_1 tb e args s ∧ rest_1 tb e args s ∧ Pre_1 tb e args s)
    (fun _ _ args s o t => lw_Q args s o t) := by
  intro p e ha hc hk s m args below hf hfit hheap happ hpre
  obtain ⟨b, xs, hP⟩ := lw_pre_spec hpre.2.2 hpre.2.1
  obtain ⟨k, o, h1, h2, h3, hQ⟩ := lw_walk l hflags b xs p e ha hc hk s m args below hf ((Spec.applies_iff_loose hf).mp happ).1 hP trivial
  exact ⟨k, o, h1, h2, h3, hQ⟩
theorem lw_frame {s t : State} {o : Outcome} {args : Array Value} (h : State.butDraws s t lw_cs (fun t1 => Framed s o t1 [] 601024 7293034)) :
    State.butDraws s t [Jvm.Choice.named "NaN.bits"] (fun t1 => Framed s o t1 (fieldLocs frame_1_writes args s ++ arrayLocs frame_1_arrays args s ++ staticLocs frame_1_statics s) 601024 7293034) := h
theorem lw_limb (L : Cond) (hL : ∀ (args : Array Value) (s t : State), L.after args s (.returned (some (.int 1))) t = true) :
    ArmFor flags0 classFile x code maxLocals ret World_1 tables_1 room_1 Calls_1 rest_1 Pre_1
      (fun tb e a s o t => postC L tb e a s o t ∧ State.butDraws s t [Jvm.Choice.named "NaN.bits"] (fun t1 => Framed s o t1 (fieldLocs frame_1_writes a s ++ arrayLocs frame_1_arrays a s ++ staticLocs frame_1_statics s) 601024 7293034)) := by
  intro l hflags _ _ p e ha hc hk s m args below hf hfit hheap happ hpre
  obtain ⟨k, o, h1, h2, h3, rfl, hF⟩ := lw_comes l hflags p e ha hc hk s m args below hf hfit hheap happ hpre
  exact ⟨k, _, h1, h2, h3, hL args s _, lw_frame hF⟩
theorem i_vc : Claimed_1_1 ∧ Claimed_1_2 := ⟨lw_limb limb_1_1 (fun args s t => by simp [limb_1_1, Cond.after, Cond.holds, Cond.value]), lw_limb limb_1_2 (fun args s t => Cond.after_iff.mpr (by
  first | (rw [show limb_1_2 = Cond.eq .result (.int 1) from rfl, Cond.eq_ints (x := 1) (y := 1) rfl rfl]; simp; done) | (simp [limb_1_2, Cond.value, Term.eval]; done)))⟩

