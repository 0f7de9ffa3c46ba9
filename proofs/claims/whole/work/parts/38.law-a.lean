/-! the law: what holds between the class's state and the reference's -/
def lwF (kp : Nat) (fr bk : Nat → Int64) (vw : Nat → Nat) (mf mb : Nat → Int64) (mv : Nat → Nat) : Prop := kp ≤ 6 ∧ ∀ z, z < 3 + 3 * kp → fr z = mf z ∧ bk z = mb z ∧ vw z = mv z ∧ vw z < 4
def lwT (tm tn : Nat) (ta X : Nat → Int32) (tx : Nat → Nat) : Prop := (tm = 16 ∨ tm = 34 ∨ tm = 70) ∧ tn ≤ tm ∧ tn ≤ 60 ∧ (∀ i, i < tm → fits .byte (.int (ta i)) = true) ∧ ∀ j, j < tn → ta j = nI (tx j) ∧ X j = nI (tx j) ∧ tx j < 128
theorem sa_ex {kp z : Nat} (hkp : kp ≤ 6) (hz : z < 3 + 3 * saK kp) : ∃ z', z' < 3 + 3 * kp ∧ ∀ {α : Type} (g : Nat → α), saU g kp z = g z' := by
  unfold saK at hz
  by_cases h : kp < 6
  · rw [if_pos h] at hz
    by_cases e : 3 + kp * 3 ≤ z
    · refine ⟨z - (3 + kp * 3), by omega, fun g => ?_⟩
      unfold saU
      rw [if_pos h, svU_at 3 (Nat.le_refl _), if_pos (by omega)]
    · refine ⟨z, by omega, fun g => ?_⟩
      unfold saU
      rw [if_pos h, svU_at 3 (Nat.le_refl _), if_neg (by omega)]
  · rw [if_neg h] at hz
    by_cases e : 18 ≤ z
    · refine ⟨z - 18, by omega, fun g => ?_⟩
      unfold saU
      rw [if_neg h, svU_at 3 (Nat.le_refl _), if_pos (by omega), dcU_at, if_neg (by omega)]
    · by_cases e3 : 3 ≤ z
      · refine ⟨z + 3, by omega, fun g => ?_⟩
        unfold saU
        rw [if_neg h, svU_at 3 (Nat.le_refl _), if_neg (by omega), dcU_at, if_pos (by omega)]
      · refine ⟨z, by omega, fun g => ?_⟩
        unfold saU
        rw [if_neg h, svU_at 3 (Nat.le_refl _), if_neg (by omega), dcU_at, if_neg (by omega)]
theorem saK_le {kp : Nat} (h : kp ≤ 6) : saK kp ≤ 6 := by unfold saK; split <;> omega
section LWF
variable {kp k v : Nat} {fr bk mf mb : Nat → Int64} {vw mv : Nat → Nat} {f b : Int64}
theorem lwF_sa (hF : lwF kp fr bk vw mf mb mv) : lwF (saK kp) (saU fr kp) (saU bk kp) (saU vw kp) (saU mf kp) (saU mb kp) (saU mv kp) := by
  refine ⟨saK_le hF.1, fun z hz => ?_⟩
  obtain ⟨z', h1, h2⟩ := sa_ex hF.1 hz
  rw [h2 fr, h2 bk, h2 vw, h2 mf, h2 mb, h2 mv]
  exact hF.2 z' h1
theorem lwF_f (hF : lwF kp fr bk vw mf mb mv) : lwF kp (va_up fr k f) bk vw (va_up mf k f) mb mv := by
  refine ⟨hF.1, fun z hz => ?_⟩
  obtain ⟨h1, h2, h3, h4⟩ := hF.2 z hz
  refine ⟨?_, h2, h3, h4⟩
  by_cases e : z = k
  · subst e; rw [va_up_e, va_up_e]
  · rw [va_up_n _ _ e, va_up_n _ _ e, h1]
theorem lwF_b (hF : lwF kp fr bk vw mf mb mv) : lwF kp fr (va_up bk k b) vw mf (va_up mb k b) mv := by
  refine ⟨hF.1, fun z hz => ?_⟩
  obtain ⟨h1, h2, h3, h4⟩ := hF.2 z hz
  refine ⟨h1, ?_, h3, h4⟩
  by_cases e : z = k
  · subst e; rw [va_up_e, va_up_e]
  · rw [va_up_n _ _ e, va_up_n _ _ e, h2]
theorem lwF_v (hF : lwF kp fr bk vw mf mb mv) (hv : v < 4) : lwF kp fr bk (va_up vw k v) mf mb (va_up mv k v) := by
  refine ⟨hF.1, fun z hz => ?_⟩
  obtain ⟨h1, h2, h3, h4⟩ := hF.2 z hz
  refine ⟨h1, h2, ?_⟩
  by_cases e : z = k
  · subst e; rw [va_up_e, va_up_e]; exact ⟨rfl, hv⟩
  · rw [va_up_n _ _ e, va_up_n _ _ e]; exact ⟨h3, h4⟩
theorem lwF_rs (hF : lwF kp fr bk vw mf mb mv) (hk : 0 < kp) : lwF (kp - 1) (rsU fr ((kp - 1) * 3) 3) (rsU bk ((kp - 1) * 3) 3) (rsU vw ((kp - 1) * 3) 3) (rsU mf ((kp - 1) * 3) 3) (rsU mb ((kp - 1) * 3) 3) (rsU mv ((kp - 1) * 3) 3) := by
  refine ⟨by have := hF.1; omega, fun z hz => ?_⟩
  simp only [rsU_at 3 (Nat.le_refl _)]
  by_cases e : z < 3
  · simp only [if_pos e]; exact hF.2 _ (by omega)
  · simp only [if_neg e]; exact hF.2 _ (by omega)
end LWF
theorem lwT_app {tm tn m2 u : Nat} {ta X a2 : Nat → Int32} {tx : Nat → Nat} (hT : lwT tm tn ta X tx) (h60 : tn < 60) (hu : u < 128) (hm : m2 = 16 ∨ m2 = 34 ∨ m2 = 70) (hmn : tn + 1 ≤ m2) (h1 : ∀ j, j < tn → a2 j = ta j) (h2 : a2 tn = nI u) (h3 : ∀ i, i < m2 → fits .byte (.int (a2 i)) = true) : lwT m2 (tn + 1) a2 (upd X tn (nI u)) (fun j => if j = tn then u else tx j) := by
  refine ⟨hm, hmn, by omega, h3, fun j hj => ?_⟩
  by_cases e : j = tn
  · subst e
    show a2 j = nI (if j = j then u else tx j) ∧ upd X j (nI u) j = nI (if j = j then u else tx j) ∧ (if j = j then u else tx j) < 128
    rw [if_pos rfl]; exact ⟨h2, if_pos rfl, hu⟩
  · obtain ⟨g1, g2, g3⟩ := hT.2.2.2.2 j (by omega)
    show a2 j = nI (if j = tn then u else tx j) ∧ upd X tn (nI u) j = nI (if j = tn then u else tx j) ∧ (if j = tn then u else tx j) < 128
    rw [if_neg e]; exact ⟨(h1 j (by omega)).trans g1, (if_neg e).trans g2, g3⟩
theorem lwT_0 {tm tn : Nat} {ta X : Nat → Int32} {tx : Nat → Nat} (hT : lwT tm tn ta X tx) : lwT tm 0 ta X tx := ⟨hT.1, by omega, by omega, hT.2.2.2.1, fun j hj => absurd hj (Nat.not_lt_zero _)⟩
theorem ir_ex {x : Int32} {n : Nat} (h : ir x n = true) (hn : n < 2 ^ 31) : ∃ k, k < n ∧ x = nI k := by
  unfold ir at h
  rw [Bool.and_eq_true, decide_eq_true_eq, decide_eq_true_eq] at h
  exact ir_y hn h.1 h.2
theorem ap_inB {x : Int32} (h : inB x 33 126 = true) : ∃ u, 33 ≤ u ∧ u ≤ 126 ∧ x = nI u := by
  unfold inB at h
  rw [Bool.and_eq_true, Bool.not_eq_true', Bool.not_eq_true', decide_eq_false_iff_not, decide_eq_false_iff_not] at h
  exact ap_rng h.1 (Int32.not_lt.mp h.2)
theorem dg_eq {fr bk mf mb : Nat → Int64} {vw mv : Nat → Nat} (h : ∀ z, z < 3 → fr z = mf z ∧ bk z = mb z ∧ vw z = mv z) : dgH fr bk vw 3 = dgH mf mb mv 3 := by
  obtain ⟨a1, a2, a3⟩ := h 0 (by decide)
  obtain ⟨b1, b2, b3⟩ := h 1 (by decide)
  obtain ⟨c1, c2, c3⟩ := h 2 (by decide)
  show dgU (fr 2) (bk 2) (vw 2) (dgU (fr 1) (bk 1) (vw 1) (dgU (fr 0) (bk 0) (vw 0) 4876)) = dgU (mf 2) (mb 2) (mv 2) (dgU (mf 1) (mb 1) (mv 1) (dgU (mf 0) (mb 0) (mv 0) 4876))
  rw [a1, a2, a3, b1, b2, b3, c1, c2, c3]
theorem n64_c : ∀ n, n < 65 → Op.cmpValue (FP.dcmp (n64 n) (n64 n)) .l = 0 := by decide +kernel
/-- a view stays one -/
theorem dp_v4 {tx : Nat → Nat} {q : RS} {tn : Nat} {f b : Int64} {v : Nat} (htx : ∀ j, j < tn → tx j < 128) (hq : rsOk q) (h0 : q.1 = 0) (hw : wkB tx q tn = true) (hv : v < 4) : ∀ j, j ≤ tn → (dpS tx q tn f b v j).2.2.1 < 4
  | 0, _ => hv
  | j + 1, hj => by
    have ih := dp_v4 (f := f) (b := b) htx hq h0 hw hv j (by omega)
    unfold wkB at hw
    rw [Bool.and_eq_true, decide_eq_true_eq, Bool.or_eq_true, decide_eq_true_eq, decide_eq_true_eq] at hw
    by_cases h : (dpS tx q tn f b v j).2.2.2.2.1 = true
    · rw [show dpS tx q tn f b v (j + 1) = dpS tx q tn f b v j from if_pos h]; exact ih
    · have h' : (dpS tx q tn f b v j).2.2.2.2.1 = false := by simpa using h
      by_cases hb : dpB tx tn j = true
      · rw [dp_u h' hb]
        show tpV (dpS tx q tn f b v j).2.2.1 (rdS tx q (j + 1)).2.1 (rdS tx q (j + 1)).2.2.2.2.2 < 4
        unfold tpV
        by_cases hl : (rdS tx q (j + 1)).2.1 = 118
        · rw [if_pos hl]
          have hri := ri_at htx (ri_0 hq h0) (j + 1) hj
          have hrv := rv_at htx (ri_0 hq h0) h0 (j + 1) hj
          have h68 : (rdS tx q (j + 1)).1 = 6 ∨ (rdS tx q (j + 1)).1 = 8 := by
            rcases Nat.lt_or_ge (j + 1) tn with g | g
            · have h59 : tx (j + 1) = 59 := by
                unfold dpB at hb
                rw [Bool.or_eq_true, decide_eq_true_eq, decide_eq_true_eq] at hb
                rcases hb with hb | hb
                · omega
                · exact hb
              have hok := ldN_ok hw.1 (j + 1) g
              unfold rdOk at hok
              rw [h59] at hok
              exact tk_59 hri.1.1 hok
            · rw [show j + 1 = tn by omega]; exact hw.2
          rcases h68 with h6 | h8
          · exact absurd (hri.2.2.2.2.1 (Or.inr (Or.inr h6))).1 (by omega)
          · exact hrv h8 hl
        · rw [if_neg hl]; exact ih
      · rw [dp_n h' (by simpa using hb)]; exact ih
def lwI (D : va_G) (A : Nat → Prop) (s : State) (cy : Nat → ClassId) (ad am : Nat → Nat) (ou od : Nat) (H : Heap) (locs : List Loc) : Prop :=
  ∃ (fr bk : Nat → Int64) (vw : Nat → Nat) (tk to fk fo : Int64) (kp sp lt : Nat) (ib : Bool) (rw cl nu tv tm : Nat) (ta : Nat → Int32) (ml : Int32) (tn : Nat) (mf mb : Nat → Int64) (mv : Nat → Nat) (kn on : Int64) (th : Int32) (X : Nat → Int32) (ap le fc : Nat) (f1 f2 : Int32) (ha : Int64) (og : Nat → Int64) (oh : Nat → UInt64) (tx : Nat → Nat),
    lwF kp fr bk vw mf mb mv ∧ lwT tm tn ta X tx ∧ rsOk (sp, lt, ib, rw, cl, nu) ∧ gW D (wC ad cy fr bk vw tk to fk fo kp sp lt ib rw cl nu tv tm ta ml tn ((ou, .inl (cy 2, 1, .inr (.inl og))) :: (od, .inl (cy 3, 1, .inr (.inr (.inr (.inl oh))))) :: wM am cy th (cS mf mb mv) kp X tn ap le fc f1 f2 (biF kn on) ha [])) A s H locs
theorem ok_fa (f b : Int64) : okS ((fa (sdW f b) (onW f b)).1, (fa (sdW f b) (onW f b)).2) := by
  unfold fa
  exact ok_rdn (ok_sd f b) 65
set_option maxHeartbeats 4000000 in
set_option maxRecDepth 100000 in
theorem lw_c0 {p : Program} {l : Launch} {e : Env} {s : State} {m : MethodId} {below : List Frame} {meth : Method} {c : Code} {H : Heap} {locs : List Loc} {cells slots : Nat} {Q : State → Prop} {D : va_G} {cy : Nat → ClassId} {A : Nat → Prop} {ad am : Nat → Nat} {ou od b L li : Nat} {xs : Nat → Int32} {ls : Array Slot} (C0 : gC p s m #[.ref b] meth c code 9 (some .boolean) RL D (gts cy) A) (hst : l.stackTraces = false) (hXs : va_X b L xs s s.heap) (hbl : b < s.heap.size) (hbA : ¬ A b) (hli : li + 3 < L) (hL : L ≤ 2048) (hce : cells + 8 ≤ 601024) (hsl : slots + 400 ≤ 7293034) (I : lwI D A s cy ad am ou od H locs) (hl : lv_has ls 9 [(0, .ref b), (1, .ref (ad 0)), (2, .ref (am 0)), (3, .ref ou), (4, .ref od), (5, .int (nI li))])
    (kk : ∀ (H : Heap) (locs : List Loc) (ls : Array Slot), lwI D A s cy ad am ou od H locs → lv_has ls 9 [(0, .ref b), (1, .ref (ad 0)), (2, .ref (am 0)), (3, .ref ou), (4, .ref od), (5, .int (nI li))] → W p l e room_1 s m #[.ref b] below meth c H locs (cells + 8) (slots + 400) Q (F0 m 1897 ls [])) : W p l e room_1 s m #[.ref b] below meth c H locs cells slots Q (F0 m 176 ls []) := by
  obtain ⟨fr, bk, vw, tk, to, fk, fo, kp, sp, lt, ib, rw, cl, nu, tv, tm, ta, ml, tn, mf, mb, mv, kn, on, th, X, ap, le, fc, f1, f2, ha, og, oh, tx, hF, hT, hR, G⟩ := I
  have hx := C0.1
  have hb := C0.2.1
  have hown := C0.2.2.2.2.2.1
  have hts := C0.2.2.2.2.2.2.1
  have hRs : rsOk (0, lt, ib, rw, cl, nu) := ⟨by show 0 < 9; decide, hR.2⟩
  have hkp := hF.1
  have h60 := hT.2.2.1
  have htm := hT.1
  obtain ⟨p0, hp0⟩ : ∃ z : Int32, z = xs (li + 1) := ⟨_, rfl⟩
  obtain ⟨p1, hp1⟩ : ∃ z : Int32, z = xs (li + 2) := ⟨_, rfl⟩
  obtain ⟨p2, hp2⟩ : ∃ z : Int32, z = xs (li + 3) := ⟨_, rfl⟩
  refine lv_aload_n hx hb dL_law_176 rfl (lv_at hl 1 rfl) ?_
  refine lv_aload_n hx hb dL_law_177 rfl (lv_at hl 0 rfl) ?_
  refine lv_iload hx hb dL_law_178 (lv_at hl 5 rfl) ?_
  refine lv_iconst (v := 1) hx hb dL_law_180 (by decide) ?_
  refine lv_iadd hx hb dL_law_181 ?_
  refine g_topi (x' := nI (li + 1)) (nI_add li 1) ?_
  refine va_sld hx hb hXs hbl hbA G.2.2 (vp_in_nI (n := li + 1) (by omega) (by omega)) dL_law_182 ?_
  refine g_topi (x' := p0) (by rw [nI_clamp (n := li + 1) (by omega)]; exact hp0.symm) ?_
  refine lv_aload_n hx hb dL_law_183 rfl (lv_at hl 0 rfl) ?_
  refine lv_iload hx hb dL_law_184 (lv_at hl 5 rfl) ?_
  refine lv_iconst (v := 2) hx hb dL_law_186 (by decide) ?_
  refine lv_iadd hx hb dL_law_187 ?_
  refine g_topi (x' := nI (li + 2)) (nI_add li 2) ?_
  refine va_sld hx hb hXs hbl hbA G.2.2 (vp_in_nI (n := li + 2) (by omega) (by omega)) dL_law_188 ?_
  refine g_topi (x' := p1) (by rw [nI_clamp (n := li + 2) (by omega)]; exact hp1.symm) ?_
  refine lv_aload_n hx hb dL_law_189 rfl (lv_at hl 0 rfl) ?_
  refine lv_iload hx hb dL_law_190 (lv_at hl 5 rfl) ?_
  refine lv_iconst (v := 3) hx hb dL_law_192 (by decide) ?_
  refine lv_iadd hx hb dL_law_193 ?_
  refine g_topi (x' := nI (li + 3)) (nI_add li 3) ?_
  refine va_sld hx hb hXs hbl hbA G.2.2 (vp_in_nI (n := li + 3) (by omega) (by omega)) dL_law_194 ?_
  refine g_topi (x' := p2) (by rw [nI_clamp (n := li + 3) (by omega)]; exact hp2.symm) ?_
  refine lv_aload_n hx hb dL_law_195 rfl (lv_at hl 3 rfl) ?_
  refine g_callH (As := [.ref (ad 0), .int p0, .int p1, .int p2, .ref ou]) (rest := []) C0 G (c_L_punch l D cy (ad := ad) (fr := fr) (bk := bk) (vw := vw) (tk := tk) (to := to) (fk := fk) (fo := fo) (kp := kp) (sp := sp) (lt := lt) (ib := ib) (rw := rw) (cl := cl) (nu := nu) (tv := tv) (tm := tm) (ta := ta) (ml := ml) (tn := tn) (R := wM am cy th (cS mf mb mv) kp X tn ap le fc f1 f2 (biF kn on) ha ([])) (ou := ou) (od := od) (og := og) (oh := oh) (p0 := p0) (p1 := p1) (p2 := p2) hst hF.1) k_L_punch ml_L_100 dL_law_196 rfl rfl hl.1 (Nat.le_of_ble_eq_true rfl) ⟨Nat.le_of_ble_eq_true rfl, Nat.le_of_ble_eq_true rfl⟩ ⟨(by show _ ≤ 601024; omega), (by show _ ≤ 7293034; omega)⟩ (fun r W2 H locs hp G => ?_)
  rcases hp with ⟨k, hk, rfl, row, hrow, rfl, u, hu, rfl, hcd0, rfl, hw⟩ | ⟨rfl, hw, hx9⟩ | ⟨rfl, hw, hx9⟩ | ⟨rfl, hw, hx9⟩
  · skip
    obtain ⟨eF, eB, eV, hv4⟩ := hF.2 k (by omega)
    have G : gW D (wC ad cy (va_up (saU fr kp) k (pwF ((saU fr kp) k) row u)) (va_up (saU bk kp) k (pwB ((saU bk kp) k) row u)) (saU vw kp) tk to fk fo (saK kp) sp lt ib rw cl nu tv tm ta ml tn ((ou, .inl (cy 2, 1, .inr (.inl (vp_updL og 0 (nI (pc7 u % 2)).toInt64)))) :: (od, .inl (cy 3, 1, .inr (.inr (.inr (.inl oh))))) :: wM am cy th (cS mf mb mv) kp X tn ap le fc f1 f2 (biF kn on) ha ([]))) A s _ _ := g_wc hw G
    refine W.eq (g2 := F0 m 199 ls [.int 0]) rfl ?_
    refine lv_istore (lv' := [(6, .int 0), (0, .ref b), (1, .ref (ad 0)), (2, .ref (am 0)), (3, .ref ou), (4, .ref od), (5, .int (nI li))]) hx hb dL_law_199 hl (by decide) rfl (fun ls hl => ?_)
    refine lv_aload_n hx hb dL_law_201 rfl (lv_at hl 3 rfl) ?_
    refine lv_aload_n hx hb dL_law_202 rfl (lv_at hl 1 rfl) ?_
    refine lv_iload hx hb dL_law_203 (lv_at hl 6 rfl) ?_
    refine lv_iconst (v := 1) hx hb dL_law_205 (by decide) ?_
    refine lv_iadd hx hb dL_law_206 ?_
    refine g_topi (x' := nI (li + 1)) (nI_add li 1) ?_
    refine va_sld hx hb hXs hbl hbA G.2.2 (vp_in_nI (n := li + 1) (by omega) (by omega)) dL_law_207 ?_
    refine g_topi (x' := nI k) (by rw [nI_clamp (n := li + 1) (by omega)]; exact hp0.symm) ?_
    refine lv_aload_n hx hb dL_law_208 rfl (lv_at hl 1 rfl) ?_
    refine lv_iload hx hb dL_law_209 (lv_at hl 6 rfl) ?_
    refine lv_iconst (v := 2) hx hb dL_law_211 (by decide) ?_
    refine lv_iadd hx hb dL_law_212 ?_
    refine g_topi (x' := nI (li + 2)) (nI_add li 2) ?_
    refine va_sld hx hb hXs hbl hbA G.2.2 (vp_in_nI (n := li + 2) (by omega) (by omega)) dL_law_213 ?_
    refine g_topi (x' := nI row) (by rw [nI_clamp (n := li + 2) (by omega)]; exact hp1.symm) ?_
    refine lv_aload_n hx hb dL_law_214 rfl (lv_at hl 1 rfl) ?_
    refine lv_iload hx hb dL_law_215 (lv_at hl 6 rfl) ?_
    refine lv_iconst (v := 3) hx hb dL_law_217 (by decide) ?_
    refine lv_iadd hx hb dL_law_218 ?_
    refine g_topi (x' := nI (li + 3)) (nI_add li 3) ?_
    refine va_sld hx hb hXs hbl hbA G.2.2 (vp_in_nI (n := li + 3) (by omega) (by omega)) dL_law_219 ?_
    refine g_topi (x' := nI u) (by rw [nI_clamp (n := li + 3) (by omega)]; exact hp2.symm) ?_
    have G : gW D (wM am cy th (cS mf mb mv) kp X tn ap le fc f1 f2 (biF kn on) ha ((ou, .inl (cy 2, 1, .inr (.inl (vp_updL og 0 (nI (pc7 u % 2)).toInt64)))) :: (od, .inl (cy 3, 1, .inr (.inr (.inr (.inl oh))))) :: wC ad cy (va_up (saU fr kp) k (pwF ((saU fr kp) k) row u)) (va_up (saU bk kp) k (pwB ((saU bk kp) k) row u)) (saU vw kp) tk to fk fo (saK kp) sp lt ib rw cl nu tv tm ta ml tn ([]))) A s _ _ := g_swCM G
    refine g_callV (As := [.int (nI k), .int (nI row), .int (nI u)]) (rest := []) (q0 := 0) C0 G (c_X5_punch_ok l D cy (am := am) (mf := mf) (mb := mb) (mv := mv) (th := th) (sv := kp) (X := X) (ln := tn) (ap := ap) (le := le) (fc := fc) (f1 := f1) (f2 := f2) (ha := ha) (R := ((ou, .inl (cy 2, 1, .inr (.inl (vp_updL og 0 (nI (pc7 u % 2)).toInt64)))) :: (od, .inl (cy 3, 1, .inr (.inr (.inr (.inl oh))))) :: wC ad cy (va_up (saU fr kp) k (pwF ((saU fr kp) k) row u)) (va_up (saU bk kp) k (pwB ((saU bk kp) k) row u)) (saU vw kp) tk to fk fo (saK kp) sp lt ib rw cl nu tv tm ta ml tn ([]))) (B := biF kn on) (k := k) (row := row) (u := u) (by omega) (by omega) (by omega) (by rw [← eF, ← eB]; exact hcd0) hkp) k_X5_punch ml_L_105 rfl rfl dL_law_220 rfl rfl hl.1 (Nat.le_of_ble_eq_true rfl) ⟨Nat.le_of_ble_eq_true rfl, Nat.le_of_ble_eq_true rfl⟩ ⟨(by show _ ≤ 601024; omega), (by show _ ≤ 7293034; omega)⟩ (fun r W2 H locs hp G => ?_)
    obtain ⟨rfl, hw⟩ := hp
    have G := g_wc hw G
    refine W.eq (g2 := F0 m 223 ls [.int (nI (pc7 u % 2))]) rfl ?_
    refine lv_istore (lv' := [(7, .int (nI (pc7 u % 2))), (6, .int 0), (0, .ref b), (1, .ref (ad 0)), (2, .ref (am 0)), (3, .ref ou), (4, .ref od), (5, .int (nI li))]) hx hb dL_law_223 hl (by decide) rfl (fun ls hl => ?_)
    refine lv_aload_n hx hb dL_law_225 rfl (lv_at hl 4 rfl) ?_
    refine g_callV (As := []) (rest := []) (q0 := 0) C0 G (c_X5_thrown l D cy (am := am) (mf := va_up (mSv mf kp) k (pnF ((mSv mf kp) k) row u)) (mb := va_up (mSv mb kp) k (pnB ((mSv mb kp) k) row u)) (mv := mSv mv kp) (th := nI 0) (sv := saK kp) (X := X) (ln := tn) (ap := ap) (le := le) (fc := fc) (f1 := f1) (f2 := f2) (ha := ha) (R := ((ou, .inl (cy 2, 1, .inr (.inl (vp_updL og 0 (nI (pc7 u % 2)).toInt64)))) :: (od, .inl (cy 3, 1, .inr (.inr (.inr (.inl oh))))) :: wC ad cy (va_up (saU fr kp) k (pwF ((saU fr kp) k) row u)) (va_up (saU bk kp) k (pwB ((saU bk kp) k) row u)) (saU vw kp) tk to fk fo (saK kp) sp lt ib rw cl nu tv tm ta ml tn ([]))) (B := biF kn on)  ) k_X5_thrown ml_L_106 rfl rfl dL_law_226 rfl rfl hl.1 (Nat.le_of_ble_eq_true rfl) ⟨Nat.le_of_ble_eq_true rfl, Nat.le_of_ble_eq_true rfl⟩ ⟨(by show _ ≤ 601024; omega), (by show _ ≤ 7293034; omega)⟩ (fun r W2 H locs hp G => ?_)
    obtain ⟨rfl, hw⟩ := hp
    have G := g_wc hw G
    refine W.eq (g2 := F0 m 229 ls [.int (nI 0)]) rfl ?_
    refine g_topi (x' := 0) rfl ?_
    refine lv_iload hx hb dL_law_229 (lv_at hl 1 rfl) ?_
    refine lv_icmp_eq (tgt := 236) hx hb dL_law_231 (by decide) (fun c_231 => ?_) (fun c_231 => ?_)
    · skip
      refine lv_iload hx hb dL_law_236 (lv_at hl 1 rfl) ?_
      refine lv_if_ne (tgt := 253) hx hb dL_law_238 (by decide) (fun c_238 => ?_) (fun c_238 => ?_)
      · exact absurd c_238 (by decide)
      · skip
        refine lv_aload_n hx hb dL_law_241 rfl (lv_at hl 5 rfl) ?_
        refine lv_iconst (v := 0) hx hb dL_law_242 (by decide) ?_
        refine g_topi (x' := nI 0) rfl ?_
        refine g_lald (q0 := 4) (n := 1) C0 G rfl 2 rfl (vp_in_nI (n := 0) (by omega) (by decide)) dL_law_243 ?_
        refine g_topl (x' := (vp_updL og 0 (nI (pc7 u % 2)).toInt64) 0) (congrArg (vp_updL og 0 (nI (pc7 u % 2)).toInt64) (nI_clamp (n := 0) (by omega))) ?_
        refine g_topl (x' := (nI (pc7 u % 2)).toInt64) (if_pos rfl) ?_
        refine lv_iload hx hb dL_law_244 (lv_at hl 0 rfl) ?_
        refine lv_i2l hx hb dL_law_246 rfl ?_
        refine W.lcmp hx hb dL_law_247 ?_
        refine lv_if_eq (tgt := 253) hx hb dL_law_248 (by decide) (fun c_248 => ?_) (fun c_248 => ?_)
        · skip
          have c_248 : ((nI (pc7 u % 2)).toInt64) = ((nI (pc7 u % 2)).toInt64) := lgc_eq.mp c_248
          refine lv_goto (tgt := 1897) hx hb dL_law_253 (by decide) ?_
          have G : gW D (wC ad cy (va_up (saU fr kp) k (pwF ((saU fr kp) k) row u)) (va_up (saU bk kp) k (pwB ((saU bk kp) k) row u)) (saU vw kp) tk to fk fo (saK kp) sp lt ib rw cl nu tv tm ta ml tn ((ou, .inl (cy 2, 1, .inr (.inl (vp_updL og 0 (nI (pc7 u % 2)).toInt64)))) :: (od, .inl (cy 3, 1, .inr (.inr (.inr (.inl oh))))) :: wM am cy (nI 0) (cS (va_up (mSv mf kp) k (pnF ((mSv mf kp) k) row u)) (va_up (mSv mb kp) k (pnB ((mSv mb kp) k) row u)) (mSv mv kp)) (saK kp) X tn ap le fc f1 f2 (biF kn on) ha ([]))) A s _ _ := g_swMC G
          refine W.widen (k := cells + 8) (n := slots + 400) (by omega) (by omega) ?_
          exact kk _ _ _ ⟨(va_up (saU fr kp) k (pwF ((saU fr kp) k) row u)), (va_up (saU bk kp) k (pwB ((saU bk kp) k) row u)), (saU vw kp), tk, to, fk, fo, (saK kp), sp, lt, ib, rw, cl, nu, tv, tm, ta, ml, tn, (va_up (mSv mf kp) k (pnF ((mSv mf kp) k) row u)), (va_up (mSv mb kp) k (pnB ((mSv mb kp) k) row u)), (mSv mv kp), kn, on, (nI 0), X, ap, le, fc, f1, f2, ha, (vp_updL og 0 (nI (pc7 u % 2)).toInt64), oh, tx, (by simp only [mSv_sa, saU_lo hk, ← eF, ← eB, ← eV, (pn_pw (f := fr k) (b := bk k) (r := row) (v := u) (by omega) hcd0).1, (pn_pw (f := fr k) (b := bk k) (r := row) (v := u) (by omega) hcd0).2]; exact lwF_b (lwF_f (lwF_sa hF))), hT, hR, G⟩ (lv_sub hl [2, 3, 4, 5, 6, 7] rfl)
        · skip
          have c_248 : ¬ ((nI (pc7 u % 2)).toInt64) = ((nI (pc7 u % 2)).toInt64) := fun h => c_248 (lgc_eq.mpr h)
          exact absurd (by first | rfl | (simp only [mSv_sa, saU_lo hk, ← eF, ← eB, ← eV]; done) | (simp only [mSv_sa, saU_lo hk, ← eF, ← eB, ← eV]; rfl)) c_248
    · exact absurd c_231 (by decide)
  · skip
    have G : gW D (wC ad cy fr bk vw tk to fk fo kp sp lt ib rw cl nu tv tm ta ml tn ((ou, .inl (cy 2, 1, .inr (.inl og))) :: (od, .inl (cy 3, 1, .inr (.inr (.inr (.inl oh))))) :: wM am cy th (cS mf mb mv) kp X tn ap le fc f1 f2 (biF kn on) ha ([]))) A s _ _ := g_wc hw G
    refine W.eq (g2 := F0 m 199 ls [.int 1]) rfl ?_
    refine lv_istore (lv' := [(6, .int 1), (0, .ref b), (1, .ref (ad 0)), (2, .ref (am 0)), (3, .ref ou), (4, .ref od), (5, .int (nI li))]) hx hb dL_law_199 hl (by decide) rfl (fun ls hl => ?_)
    refine lv_aload_n hx hb dL_law_201 rfl (lv_at hl 3 rfl) ?_
    refine lv_aload_n hx hb dL_law_202 rfl (lv_at hl 1 rfl) ?_
    refine lv_iload hx hb dL_law_203 (lv_at hl 6 rfl) ?_
    refine lv_iconst (v := 1) hx hb dL_law_205 (by decide) ?_
    refine lv_iadd hx hb dL_law_206 ?_
    refine g_topi (x' := nI (li + 1)) (nI_add li 1) ?_
    refine va_sld hx hb hXs hbl hbA G.2.2 (vp_in_nI (n := li + 1) (by omega) (by omega)) dL_law_207 ?_
    refine g_topi (x' := p0) (by rw [nI_clamp (n := li + 1) (by omega)]; exact hp0.symm) ?_
    refine lv_aload_n hx hb dL_law_208 rfl (lv_at hl 1 rfl) ?_
    refine lv_iload hx hb dL_law_209 (lv_at hl 6 rfl) ?_
    refine lv_iconst (v := 2) hx hb dL_law_211 (by decide) ?_
    refine lv_iadd hx hb dL_law_212 ?_
    refine g_topi (x' := nI (li + 2)) (nI_add li 2) ?_
    refine va_sld hx hb hXs hbl hbA G.2.2 (vp_in_nI (n := li + 2) (by omega) (by omega)) dL_law_213 ?_
    refine g_topi (x' := p1) (by rw [nI_clamp (n := li + 2) (by omega)]; exact hp1.symm) ?_
    refine lv_aload_n hx hb dL_law_214 rfl (lv_at hl 1 rfl) ?_
    refine lv_iload hx hb dL_law_215 (lv_at hl 6 rfl) ?_
    refine lv_iconst (v := 3) hx hb dL_law_217 (by decide) ?_
    refine lv_iadd hx hb dL_law_218 ?_
    refine g_topi (x' := nI (li + 3)) (nI_add li 3) ?_
    refine va_sld hx hb hXs hbl hbA G.2.2 (vp_in_nI (n := li + 3) (by omega) (by omega)) dL_law_219 ?_
    refine g_topi (x' := p2) (by rw [nI_clamp (n := li + 3) (by omega)]; exact hp2.symm) ?_
    have G : gW D (wM am cy th (cS mf mb mv) kp X tn ap le fc f1 f2 (biF kn on) ha ((ou, .inl (cy 2, 1, .inr (.inl og))) :: (od, .inl (cy 3, 1, .inr (.inr (.inr (.inl oh))))) :: wC ad cy fr bk vw tk to fk fo kp sp lt ib rw cl nu tv tm ta ml tn ([]))) A s _ _ := g_swCM G
    refine g_callV (As := [.int p0, .int p1, .int p2]) (rest := []) (q0 := 0) C0 G (c_X5_punch_e1 l D cy (am := am) (mf := mf) (mb := mb) (mv := mv) (th := th) (sv := kp) (X := X) (ln := tn) (ap := ap) (le := le) (fc := fc) (f1 := f1) (f2 := f2) (ha := ha) (R := ((ou, .inl (cy 2, 1, .inr (.inl og))) :: (od, .inl (cy 3, 1, .inr (.inr (.inr (.inl oh))))) :: wC ad cy fr bk vw tk to fk fo kp sp lt ib rw cl nu tv tm ta ml tn ([]))) (B := biF kn on) (p0 := p0) (p1 := p1) (p2 := p2) (by rw [inB_ir (x := p0) (n := 2) (hi := 2) rfl (by decide), inB_ir (x := p1) (n := 6) (hi := 6) rfl (by decide)]; exact hx9)) k_X5_punch ml_L_105 rfl rfl dL_law_220 rfl rfl hl.1 (Nat.le_of_ble_eq_true rfl) ⟨Nat.le_of_ble_eq_true rfl, Nat.le_of_ble_eq_true rfl⟩ ⟨(by show _ ≤ 601024; omega), (by show _ ≤ 7293034; omega)⟩ (fun r W2 H locs hp G => ?_)
    obtain ⟨rfl, hw⟩ := hp
    have G := g_wc hw G
    refine W.eq (g2 := F0 m 223 ls [.int 0]) rfl ?_
    refine lv_istore (lv' := [(7, .int 0), (6, .int 1), (0, .ref b), (1, .ref (ad 0)), (2, .ref (am 0)), (3, .ref ou), (4, .ref od), (5, .int (nI li))]) hx hb dL_law_223 hl (by decide) rfl (fun ls hl => ?_)
    refine lv_aload_n hx hb dL_law_225 rfl (lv_at hl 4 rfl) ?_
    refine g_callV (As := []) (rest := []) (q0 := 0) C0 G (c_X5_thrown l D cy (am := am) (mf := mf) (mb := mb) (mv := mv) (th := nI 1) (sv := kp) (X := X) (ln := tn) (ap := ap) (le := le) (fc := fc) (f1 := f1) (f2 := f2) (ha := ha) (R := ((ou, .inl (cy 2, 1, .inr (.inl og))) :: (od, .inl (cy 3, 1, .inr (.inr (.inr (.inl oh))))) :: wC ad cy fr bk vw tk to fk fo kp sp lt ib rw cl nu tv tm ta ml tn ([]))) (B := biF kn on)  ) k_X5_thrown ml_L_106 rfl rfl dL_law_226 rfl rfl hl.1 (Nat.le_of_ble_eq_true rfl) ⟨Nat.le_of_ble_eq_true rfl, Nat.le_of_ble_eq_true rfl⟩ ⟨(by show _ ≤ 601024; omega), (by show _ ≤ 7293034; omega)⟩ (fun r W2 H locs hp G => ?_)
    obtain ⟨rfl, hw⟩ := hp
    have G := g_wc hw G
    refine W.eq (g2 := F0 m 229 ls [.int (nI 1)]) rfl ?_
    refine g_topi (x' := 1) rfl ?_
    refine lv_iload hx hb dL_law_229 (lv_at hl 1 rfl) ?_
    refine lv_icmp_eq (tgt := 236) hx hb dL_law_231 (by decide) (fun c_231 => ?_) (fun c_231 => ?_)
    · skip
      refine lv_iload hx hb dL_law_236 (lv_at hl 1 rfl) ?_
      refine lv_if_ne (tgt := 253) hx hb dL_law_238 (by decide) (fun c_238 => ?_) (fun c_238 => ?_)
      · skip
        refine lv_goto (tgt := 1897) hx hb dL_law_253 (by decide) ?_
        have G : gW D (wC ad cy fr bk vw tk to fk fo kp sp lt ib rw cl nu tv tm ta ml tn ((ou, .inl (cy 2, 1, .inr (.inl og))) :: (od, .inl (cy 3, 1, .inr (.inr (.inr (.inl oh))))) :: wM am cy (nI 1) (cS mf mb mv) kp X tn ap le fc f1 f2 (biF kn on) ha ([]))) A s _ _ := g_swMC G
        refine W.widen (k := cells + 8) (n := slots + 400) (by omega) (by omega) ?_
        exact kk _ _ _ ⟨fr, bk, vw, tk, to, fk, fo, kp, sp, lt, ib, rw, cl, nu, tv, tm, ta, ml, tn, mf, mb, mv, kn, on, (nI 1), X, ap, le, fc, f1, f2, ha, og, oh, tx, hF, hT, hR, G⟩ (lv_sub hl [2, 3, 4, 5, 6, 7] rfl)
      · exact absurd c_238 (by decide)
    · exact absurd c_231 (by decide)
  · skip
    obtain ⟨a1, a2, a3⟩ := hx9
    obtain ⟨k, hk, rfl⟩ := ir_ex (n := 3) a1 (by decide)
    obtain ⟨row, hrow, rfl⟩ := ir_ex (n := 7) a2 (by decide)
    have G : gW D (wC ad cy fr bk vw tk to fk fo kp sp lt ib rw cl nu tv tm ta ml tn ((ou, .inl (cy 2, 1, .inr (.inl og))) :: (od, .inl (cy 3, 1, .inr (.inr (.inr (.inl oh))))) :: wM am cy th (cS mf mb mv) kp X tn ap le fc f1 f2 (biF kn on) ha ([]))) A s _ _ := g_wc hw G
    refine W.eq (g2 := F0 m 199 ls [.int 2]) rfl ?_
    refine lv_istore (lv' := [(6, .int 2), (0, .ref b), (1, .ref (ad 0)), (2, .ref (am 0)), (3, .ref ou), (4, .ref od), (5, .int (nI li))]) hx hb dL_law_199 hl (by decide) rfl (fun ls hl => ?_)
    refine lv_aload_n hx hb dL_law_201 rfl (lv_at hl 3 rfl) ?_
    refine lv_aload_n hx hb dL_law_202 rfl (lv_at hl 1 rfl) ?_
    refine lv_iload hx hb dL_law_203 (lv_at hl 6 rfl) ?_
    refine lv_iconst (v := 1) hx hb dL_law_205 (by decide) ?_
    refine lv_iadd hx hb dL_law_206 ?_
    refine g_topi (x' := nI (li + 1)) (nI_add li 1) ?_
    refine va_sld hx hb hXs hbl hbA G.2.2 (vp_in_nI (n := li + 1) (by omega) (by omega)) dL_law_207 ?_
    refine g_topi (x' := nI k) (by rw [nI_clamp (n := li + 1) (by omega)]; exact hp0.symm) ?_
    refine lv_aload_n hx hb dL_law_208 rfl (lv_at hl 1 rfl) ?_
    refine lv_iload hx hb dL_law_209 (lv_at hl 6 rfl) ?_
    refine lv_iconst (v := 2) hx hb dL_law_211 (by decide) ?_
    refine lv_iadd hx hb dL_law_212 ?_
    refine g_topi (x' := nI (li + 2)) (nI_add li 2) ?_
    refine va_sld hx hb hXs hbl hbA G.2.2 (vp_in_nI (n := li + 2) (by omega) (by omega)) dL_law_213 ?_
    refine g_topi (x' := nI row) (by rw [nI_clamp (n := li + 2) (by omega)]; exact hp1.symm) ?_
    refine lv_aload_n hx hb dL_law_214 rfl (lv_at hl 1 rfl) ?_
    refine lv_iload hx hb dL_law_215 (lv_at hl 6 rfl) ?_
    refine lv_iconst (v := 3) hx hb dL_law_217 (by decide) ?_
    refine lv_iadd hx hb dL_law_218 ?_
    refine g_topi (x' := nI (li + 3)) (nI_add li 3) ?_
    refine va_sld hx hb hXs hbl hbA G.2.2 (vp_in_nI (n := li + 3) (by omega) (by omega)) dL_law_219 ?_
    refine g_topi (x' := p2) (by rw [nI_clamp (n := li + 3) (by omega)]; exact hp2.symm) ?_
    have G : gW D (wM am cy th (cS mf mb mv) kp X tn ap le fc f1 f2 (biF kn on) ha ((ou, .inl (cy 2, 1, .inr (.inl og))) :: (od, .inl (cy 3, 1, .inr (.inr (.inr (.inl oh))))) :: wC ad cy fr bk vw tk to fk fo kp sp lt ib rw cl nu tv tm ta ml tn ([]))) A s _ _ := g_swCM G
    refine g_callV (As := [.int (nI k), .int (nI row), .int p2]) (rest := []) (q0 := 0) C0 G (c_X5_punch_e2 l D cy (am := am) (mf := mf) (mb := mb) (mv := mv) (th := th) (sv := kp) (X := X) (ln := tn) (ap := ap) (le := le) (fc := fc) (f1 := f1) (f2 := f2) (ha := ha) (R := ((ou, .inl (cy 2, 1, .inr (.inl og))) :: (od, .inl (cy 3, 1, .inr (.inr (.inr (.inl oh))))) :: wC ad cy fr bk vw tk to fk fo kp sp lt ib rw cl nu tv tm ta ml tn ([]))) (B := biF kn on) (k := k) (row := row) (p2 := p2) (by omega) (by omega) (by rw [inB_ir (x := p2) (n := 127) (hi := 127) rfl (by decide)]; exact a3)) k_X5_punch ml_L_105 rfl rfl dL_law_220 rfl rfl hl.1 (Nat.le_of_ble_eq_true rfl) ⟨Nat.le_of_ble_eq_true rfl, Nat.le_of_ble_eq_true rfl⟩ ⟨(by show _ ≤ 601024; omega), (by show _ ≤ 7293034; omega)⟩ (fun r W2 H locs hp G => ?_)
    obtain ⟨rfl, hw⟩ := hp
    have G := g_wc hw G
    refine W.eq (g2 := F0 m 223 ls [.int 0]) rfl ?_
    refine lv_istore (lv' := [(7, .int 0), (6, .int 2), (0, .ref b), (1, .ref (ad 0)), (2, .ref (am 0)), (3, .ref ou), (4, .ref od), (5, .int (nI li))]) hx hb dL_law_223 hl (by decide) rfl (fun ls hl => ?_)
    refine lv_aload_n hx hb dL_law_225 rfl (lv_at hl 4 rfl) ?_
    refine g_callV (As := []) (rest := []) (q0 := 0) C0 G (c_X5_thrown l D cy (am := am) (mf := mf) (mb := mb) (mv := mv) (th := nI 2) (sv := kp) (X := X) (ln := tn) (ap := ap) (le := le) (fc := fc) (f1 := f1) (f2 := f2) (ha := ha) (R := ((ou, .inl (cy 2, 1, .inr (.inl og))) :: (od, .inl (cy 3, 1, .inr (.inr (.inr (.inl oh))))) :: wC ad cy fr bk vw tk to fk fo kp sp lt ib rw cl nu tv tm ta ml tn ([]))) (B := biF kn on)  ) k_X5_thrown ml_L_106 rfl rfl dL_law_226 rfl rfl hl.1 (Nat.le_of_ble_eq_true rfl) ⟨Nat.le_of_ble_eq_true rfl, Nat.le_of_ble_eq_true rfl⟩ ⟨(by show _ ≤ 601024; omega), (by show _ ≤ 7293034; omega)⟩ (fun r W2 H locs hp G => ?_)
    obtain ⟨rfl, hw⟩ := hp
    have G := g_wc hw G
    refine W.eq (g2 := F0 m 229 ls [.int (nI 2)]) rfl ?_
    refine g_topi (x' := 2) rfl ?_
    refine lv_iload hx hb dL_law_229 (lv_at hl 1 rfl) ?_
    refine lv_icmp_eq (tgt := 236) hx hb dL_law_231 (by decide) (fun c_231 => ?_) (fun c_231 => ?_)
    · skip
      refine lv_iload hx hb dL_law_236 (lv_at hl 1 rfl) ?_
      refine lv_if_ne (tgt := 253) hx hb dL_law_238 (by decide) (fun c_238 => ?_) (fun c_238 => ?_)
      · skip
        refine lv_goto (tgt := 1897) hx hb dL_law_253 (by decide) ?_
        have G : gW D (wC ad cy fr bk vw tk to fk fo kp sp lt ib rw cl nu tv tm ta ml tn ((ou, .inl (cy 2, 1, .inr (.inl og))) :: (od, .inl (cy 3, 1, .inr (.inr (.inr (.inl oh))))) :: wM am cy (nI 2) (cS mf mb mv) kp X tn ap le fc f1 f2 (biF kn on) ha ([]))) A s _ _ := g_swMC G
        refine W.widen (k := cells + 8) (n := slots + 400) (by omega) (by omega) ?_
        exact kk _ _ _ ⟨fr, bk, vw, tk, to, fk, fo, kp, sp, lt, ib, rw, cl, nu, tv, tm, ta, ml, tn, mf, mb, mv, kn, on, (nI 2), X, ap, le, fc, f1, f2, ha, og, oh, tx, hF, hT, hR, G⟩ (lv_sub hl [2, 3, 4, 5, 6, 7] rfl)
      · exact absurd c_238 (by decide)
    · exact absurd c_231 (by decide)
  · skip
    obtain ⟨k, hk, rfl, row, hrow, rfl, a3, hcf⟩ := hx9
    obtain ⟨u, hu, rfl⟩ := ir_ex (n := 128) a3 (by decide)
    obtain ⟨eF, eB, eV, hv4⟩ := hF.2 k (by omega)
    have G : gW D (wC ad cy fr bk vw tk to fk fo kp sp lt ib rw cl nu tv tm ta ml tn ((ou, .inl (cy 2, 1, .inr (.inl og))) :: (od, .inl (cy 3, 1, .inr (.inr (.inr (.inl oh))))) :: wM am cy th (cS mf mb mv) kp X tn ap le fc f1 f2 (biF kn on) ha ([]))) A s _ _ := g_wc hw G
    refine W.eq (g2 := F0 m 199 ls [.int 3]) rfl ?_
    refine lv_istore (lv' := [(6, .int 3), (0, .ref b), (1, .ref (ad 0)), (2, .ref (am 0)), (3, .ref ou), (4, .ref od), (5, .int (nI li))]) hx hb dL_law_199 hl (by decide) rfl (fun ls hl => ?_)
    refine lv_aload_n hx hb dL_law_201 rfl (lv_at hl 3 rfl) ?_
    refine lv_aload_n hx hb dL_law_202 rfl (lv_at hl 1 rfl) ?_
    refine lv_iload hx hb dL_law_203 (lv_at hl 6 rfl) ?_
    refine lv_iconst (v := 1) hx hb dL_law_205 (by decide) ?_
    refine lv_iadd hx hb dL_law_206 ?_
    refine g_topi (x' := nI (li + 1)) (nI_add li 1) ?_
    refine va_sld hx hb hXs hbl hbA G.2.2 (vp_in_nI (n := li + 1) (by omega) (by omega)) dL_law_207 ?_
    refine g_topi (x' := nI k) (by rw [nI_clamp (n := li + 1) (by omega)]; exact hp0.symm) ?_
    refine lv_aload_n hx hb dL_law_208 rfl (lv_at hl 1 rfl) ?_
    refine lv_iload hx hb dL_law_209 (lv_at hl 6 rfl) ?_
    refine lv_iconst (v := 2) hx hb dL_law_211 (by decide) ?_
    refine lv_iadd hx hb dL_law_212 ?_
    refine g_topi (x' := nI (li + 2)) (nI_add li 2) ?_
    refine va_sld hx hb hXs hbl hbA G.2.2 (vp_in_nI (n := li + 2) (by omega) (by omega)) dL_law_213 ?_
    refine g_topi (x' := nI row) (by rw [nI_clamp (n := li + 2) (by omega)]; exact hp1.symm) ?_
    refine lv_aload_n hx hb dL_law_214 rfl (lv_at hl 1 rfl) ?_
    refine lv_iload hx hb dL_law_215 (lv_at hl 6 rfl) ?_
    refine lv_iconst (v := 3) hx hb dL_law_217 (by decide) ?_
    refine lv_iadd hx hb dL_law_218 ?_
    refine g_topi (x' := nI (li + 3)) (nI_add li 3) ?_
    refine va_sld hx hb hXs hbl hbA G.2.2 (vp_in_nI (n := li + 3) (by omega) (by omega)) dL_law_219 ?_
    refine g_topi (x' := nI u) (by rw [nI_clamp (n := li + 3) (by omega)]; exact hp2.symm) ?_
    have G : gW D (wM am cy th (cS mf mb mv) kp X tn ap le fc f1 f2 (biF kn on) ha ((ou, .inl (cy 2, 1, .inr (.inl og))) :: (od, .inl (cy 3, 1, .inr (.inr (.inr (.inl oh))))) :: wC ad cy fr bk vw tk to fk fo kp sp lt ib rw cl nu tv tm ta ml tn ([]))) A s _ _ := g_swCM G
    refine g_callV (As := [.int (nI k), .int (nI row), .int (nI u)]) (rest := []) (q0 := 0) C0 G (c_X5_punch_e3 l D cy (am := am) (mf := mf) (mb := mb) (mv := mv) (th := th) (sv := kp) (X := X) (ln := tn) (ap := ap) (le := le) (fc := fc) (f1 := f1) (f2 := f2) (ha := ha) (R := ((ou, .inl (cy 2, 1, .inr (.inl og))) :: (od, .inl (cy 3, 1, .inr (.inr (.inr (.inl oh))))) :: wC ad cy fr bk vw tk to fk fo kp sp lt ib rw cl nu tv tm ta ml tn ([]))) (B := biF kn on) (k := k) (row := row) (u := u) (by omega) (by omega) (by omega) (by rw [← eF, ← eB]; exact hcf)) k_X5_punch ml_L_105 rfl rfl dL_law_220 rfl rfl hl.1 (Nat.le_of_ble_eq_true rfl) ⟨Nat.le_of_ble_eq_true rfl, Nat.le_of_ble_eq_true rfl⟩ ⟨(by show _ ≤ 601024; omega), (by show _ ≤ 7293034; omega)⟩ (fun r W2 H locs hp G => ?_)
    obtain ⟨rfl, hw⟩ := hp
    have G := g_wc hw G
    refine W.eq (g2 := F0 m 223 ls [.int 0]) rfl ?_
    refine lv_istore (lv' := [(7, .int 0), (6, .int 3), (0, .ref b), (1, .ref (ad 0)), (2, .ref (am 0)), (3, .ref ou), (4, .ref od), (5, .int (nI li))]) hx hb dL_law_223 hl (by decide) rfl (fun ls hl => ?_)
    refine lv_aload_n hx hb dL_law_225 rfl (lv_at hl 4 rfl) ?_
    refine g_callV (As := []) (rest := []) (q0 := 0) C0 G (c_X5_thrown l D cy (am := am) (mf := mf) (mb := mb) (mv := mv) (th := nI 3) (sv := kp) (X := X) (ln := tn) (ap := ap) (le := le) (fc := fc) (f1 := f1) (f2 := f2) (ha := ha) (R := ((ou, .inl (cy 2, 1, .inr (.inl og))) :: (od, .inl (cy 3, 1, .inr (.inr (.inr (.inl oh))))) :: wC ad cy fr bk vw tk to fk fo kp sp lt ib rw cl nu tv tm ta ml tn ([]))) (B := biF kn on)  ) k_X5_thrown ml_L_106 rfl rfl dL_law_226 rfl rfl hl.1 (Nat.le_of_ble_eq_true rfl) ⟨Nat.le_of_ble_eq_true rfl, Nat.le_of_ble_eq_true rfl⟩ ⟨(by show _ ≤ 601024; omega), (by show _ ≤ 7293034; omega)⟩ (fun r W2 H locs hp G => ?_)
    obtain ⟨rfl, hw⟩ := hp
    have G := g_wc hw G
    refine W.eq (g2 := F0 m 229 ls [.int (nI 3)]) rfl ?_
    refine g_topi (x' := 3) rfl ?_
    refine lv_iload hx hb dL_law_229 (lv_at hl 1 rfl) ?_
    refine lv_icmp_eq (tgt := 236) hx hb dL_law_231 (by decide) (fun c_231 => ?_) (fun c_231 => ?_)
    · skip
      refine lv_iload hx hb dL_law_236 (lv_at hl 1 rfl) ?_
      refine lv_if_ne (tgt := 253) hx hb dL_law_238 (by decide) (fun c_238 => ?_) (fun c_238 => ?_)
      · skip
        refine lv_goto (tgt := 1897) hx hb dL_law_253 (by decide) ?_
        have G : gW D (wC ad cy fr bk vw tk to fk fo kp sp lt ib rw cl nu tv tm ta ml tn ((ou, .inl (cy 2, 1, .inr (.inl og))) :: (od, .inl (cy 3, 1, .inr (.inr (.inr (.inl oh))))) :: wM am cy (nI 3) (cS mf mb mv) kp X tn ap le fc f1 f2 (biF kn on) ha ([]))) A s _ _ := g_swMC G
        refine W.widen (k := cells + 8) (n := slots + 400) (by omega) (by omega) ?_
        exact kk _ _ _ ⟨fr, bk, vw, tk, to, fk, fo, kp, sp, lt, ib, rw, cl, nu, tv, tm, ta, ml, tn, mf, mb, mv, kn, on, (nI 3), X, ap, le, fc, f1, f2, ha, og, oh, tx, hF, hT, hR, G⟩ (lv_sub hl [2, 3, 4, 5, 6, 7] rfl)
      · exact absurd c_238 (by decide)
    · exact absurd c_231 (by decide)
