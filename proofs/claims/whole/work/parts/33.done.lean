/-! a part done: the reference beside the class -/
section TP
variable {f b : Int64} {lt rw cl nu v : Nat} {ib : Bool}
theorem tp_c (h : lt = 99) : tpO f b lt ib rw cl = ccB f b ∧ tpF f b lt ib rw cl nu = (if ccB f b then clF f b else f) ∧ tpB f b lt ib rw cl nu = (if ccB f b then clB f b else b) ∧ tpV v lt nu = v := by subst h; exact ⟨rfl, rfl, rfl, rfl⟩
theorem tp_p (h : lt = 112) : tpO f b lt ib rw cl = cpB f b rw ∧ tpF f b lt ib rw cl nu = (if cpB f b rw then pwF f rw nu else f) ∧ tpB f b lt ib rw cl nu = (if cpB f b rw then pwB b rw nu else b) ∧ tpV v lt nu = v := by subst h; exact ⟨rfl, rfl, rfl, rfl⟩
theorem tp_v (h : lt = 118) : tpO f b lt ib rw cl = true ∧ tpF f b lt ib rw cl nu = f ∧ tpB f b lt ib rw cl nu = b ∧ tpV v lt nu = nu := by subst h; exact ⟨rfl, rfl, rfl, rfl⟩
theorem tp_w (h : lt = 119) : tpO f b lt ib rw cl = !decide (hoB f b ib (8 * rw + cl) = true) ∧ tpF f b lt ib rw cl nu = thF f b ib (8 * rw + cl) true ∧ tpB f b lt ib rw cl nu = thB f b ib (8 * rw + cl) true ∧ tpV v lt nu = v := by subst h; exact ⟨rfl, rfl, rfl, rfl⟩
theorem tp_x (h : lt = 120) : tpO f b lt ib rw cl = !decide (hoB f b ib (8 * rw + cl) = false) ∧ tpF f b lt ib rw cl nu = thF f b ib (8 * rw + cl) false ∧ tpB f b lt ib rw cl nu = thB f b ib (8 * rw + cl) false ∧ tpV v lt nu = v := by subst h; exact ⟨rfl, rfl, rfl, rfl⟩
end TP
theorem hh_ho {f b : Int64} {k fc : Nat} {ib : Bool} (h : fc = if ib then 0 else 1) : hhB (kdI f b k) (nI fc) = hoB f b ib k := by
  subst h; unfold hhB hoB kdI
  cases ib <;> cases tb f k <;> cases tb b k <;> decide
theorem tu_tg2 {f b : Int64} {k fc : Nat} {ib : Bool} (h : fc = if ib then 0 else 1) : tuI (kdI f b k) (nI fc) = nI (tgN f b k ib) := by
  subst h; unfold tuI tgN kdI
  cases ib <;> cases tb f k <;> cases tb b k <;> decide
def kdN (f b : Int64) (k : Nat) : Nat := if tb f k then (if tb b k then 3 else 1) else (if tb b k then 0 else 2)
theorem kd_n (f b : Int64) (k : Nat) : kdI f b k = nI (kdN f b k) := by unfold kdI kdN; cases tb f k <;> cases tb b k <;> rfl
theorem kdN_lt (f b : Int64) (k : Nat) : kdN f b k < 4 := by unfold kdN; cases tb f k <;> cases tb b k <;> decide
theorem sk_id {f b : Int64} {k : Nat} (hk : k < 64) : skF f k (kdN f b k) = f ∧ skB b k (kdN f b k) = b := by
  unfold skF skB kdN
  cases h1 : tb f k <;> cases h2 : tb b k <;> simp [clr_same2 hk, or_same hk, h1, h2]
theorem th_y {f b : Int64} {k : Nat} {ib ho : Bool} (h : hoB f b ib k = ho) : thF f b ib k ho = f ∧ thB f b ib k ho = b := ⟨if_pos h, if_pos h⟩
theorem th_n {f b : Int64} {k : Nat} {ib ho : Bool} (hk : k < 64) (h : hoB f b ib k = !ho) : skF f k (tgN f b k ib) = thF f b ib k ho ∧ skB b k (tgN f b k ib) = thB f b ib k ho := by
  have h2 : ¬ hoB f b ib k = ho := by rw [h]; cases ho <;> decide
  have h3 := sk_sh hk h
  exact ⟨h3.1.trans (if_neg h2).symm, h3.2.trans (if_neg h2).symm⟩
/-- within a part nothing is done -/
theorem dp_mid {tx : Nat → Nat} {q : RS} {tn : Nat} {f b : Int64} {v a : Nat} (h : (dpS tx q tn f b v a).2.2.2.2.1 = false) : ∀ d, (∀ j, a ≤ j → j < a + d → dpB tx tn j = false) →
    (dpS tx q tn f b v (a + d)).1 = (dpS tx q tn f b v a).1 ∧ (dpS tx q tn f b v (a + d)).2.1 = (dpS tx q tn f b v a).2.1 ∧ (dpS tx q tn f b v (a + d)).2.2.1 = (dpS tx q tn f b v a).2.2.1 ∧ (dpS tx q tn f b v (a + d)).2.2.2.1 = (dpS tx q tn f b v a).2.2.2.1 ∧ (dpS tx q tn f b v (a + d)).2.2.2.2.1 = false
  | 0, _ => ⟨rfl, rfl, rfl, rfl, h⟩
  | d + 1, hd => by
    obtain ⟨i1, i2, i3, i4, i5⟩ := dp_mid h d (fun j h1 h2 => hd j h1 (by omega))
    have e := dp_n (tx := tx) (q := q) (f := f) (b := b) (v := v) i5 (hd (a + d) (by omega) (by omega))
    have e2 : a + (d + 1) = a + d + 1 := by omega
    rw [e2, e]
    exact ⟨i1, i2, i3, i4, rfl⟩
section DPP
variable {tx : Nat → Nat} {q : RS} {tn : Nat} {f b : Int64} {v a a2 lt rw cl nu sp : Nat} {ib : Bool}
/-- a part's end: what is done there -/
theorem dp_part (hQ : rdQ tx q tn a a2 (sp, lt, ib, rw, cl, nu)) (hlt : a < a2) (h : (dpS tx q tn f b v a).2.2.2.2.1 = false) (he : a2 = tn ∨ tx a2 = 59) :
    (dpS tx q tn f b v a2).1 = tpF (dpS tx q tn f b v a).1 (dpS tx q tn f b v a).2.1 lt ib rw cl nu ∧ (dpS tx q tn f b v a2).2.1 = tpB (dpS tx q tn f b v a).1 (dpS tx q tn f b v a).2.1 lt ib rw cl nu ∧ (dpS tx q tn f b v a2).2.2.1 = tpV (dpS tx q tn f b v a).2.2.1 lt nu ∧
    (dpS tx q tn f b v a2).2.2.2.1 = (if tpO (dpS tx q tn f b v a).1 (dpS tx q tn f b v a).2.1 lt ib rw cl then (dpS tx q tn f b v a).2.2.2.1 + 1 else (dpS tx q tn f b v a).2.2.2.1) ∧ (dpS tx q tn f b v a2).2.2.2.2.1 = !tpO (dpS tx q tn f b v a).1 (dpS tx q tn f b v a).2.1 lt ib rw cl := by
  obtain ⟨h1, h2, h3, h4, h5⟩ := hQ
  obtain ⟨d, rfl⟩ : ∃ d, a2 = a + d + 1 := ⟨a2 - a - 1, by omega⟩
  have hm := dp_mid (tx := tx) (q := q) (tn := tn) (f := f) (b := b) (v := v) h d (fun j g1 g2 => dpB_n (by omega) (h5 (j + 1) (by omega) (by omega)))
  obtain ⟨i1, i2, i3, i4, i5⟩ := hm
  have hb : dpB tx tn (a + d) = true := by
    rcases he with he | he
    · exact dpB_1 (by omega)
    · exact dpB_2 he
  rw [dp_u i5 hb]
  unfold dpU
  rw [i1, i2, i3, i4, h3]
  exact ⟨rfl, rfl, rfl, rfl, rfl⟩
/-- behind a ';' of a complete text -/
theorem dp_sep (hw : wkB tx q tn = true) (hQ : rdQ tx q tn (a2 + 1) (a2 + 1) (0, lt, ib, rw, cl, nu)) (h : (dpS tx q tn f b v a2).2.2.2.2.1 = false) :
    a2 + 1 < tn ∧ (dpS tx q tn f b v (a2 + 1)).1 = (dpS tx q tn f b v a2).1 ∧ (dpS tx q tn f b v (a2 + 1)).2.1 = (dpS tx q tn f b v a2).2.1 ∧ (dpS tx q tn f b v (a2 + 1)).2.2.1 = (dpS tx q tn f b v a2).2.2.1 ∧ (dpS tx q tn f b v (a2 + 1)).2.2.2.1 = (dpS tx q tn f b v a2).2.2.2.1 ∧ (dpS tx q tn f b v (a2 + 1)).2.2.2.2.1 = false := by
  obtain ⟨h1, h2, h3, h4, h5⟩ := hQ
  unfold wkB at hw
  rw [Bool.and_eq_true, decide_eq_true_eq, Bool.or_eq_true, decide_eq_true_eq, decide_eq_true_eq] at hw
  have hlt : a2 + 1 < tn := by
    rcases Nat.lt_or_ge (a2 + 1) tn with g | g
    · exact g
    · have e : a2 + 1 = tn := by omega
      rw [← e, h3] at hw
      rcases hw.2 with g2 | g2 <;> first | exact absurd (show (0 : Nat) = 6 from g2) (by decide) | exact absurd (show (0 : Nat) = 8 from g2) (by decide)
  have hok := ldN_ok hw.1 (a2 + 1) hlt
  unfold rdOk at hok
  rw [h3] at hok
  have h59 : tx (a2 + 1) ≠ 59 := by
    intro e
    rw [e] at hok
    exact absurd (show ltOk 59 = true from hok) (by decide)
  rw [dp_n h (dpB_n (by omega) h59)]
  exact ⟨hlt, rfl, rfl, rfl, rfl, rfl⟩
/-- in a complete text a part is read to its end -/
theorem wk_part {o : Bool} (hw : wkB tx q tn = true) (ha : a2 ≤ tn) (hf : o = false → rdF tx q tn a2) : o = true := by
  cases o
  · have := wk_f (hf rfl) ha
    rw [hw] at this
    exact absurd this.2 (by decide)
  · rfl
theorem wk_end (hw : wkB tx q tn = true) (ha : a2 ≤ tn) (hm : a2 < tn → rdOk tx q a2 = true → tx a2 = 59) : a2 = tn ∨ tx a2 = 59 := by
  unfold wkB at hw
  rw [Bool.and_eq_true, decide_eq_true_eq] at hw
  rcases Nat.lt_or_ge a2 tn with g | g
  · exact Or.inr (hm g (ldN_ok hw.1 a2 g))
  · exact Or.inl (by omega)
theorem wk_lt (hw : wkB tx q tn = true) (hQ : rdQ tx q tn a a (0, lt, ib, rw, cl, nu)) : a < tn := by
  unfold wkB at hw
  rw [Bool.and_eq_true, decide_eq_true_eq, Bool.or_eq_true, decide_eq_true_eq, decide_eq_true_eq] at hw
  rcases Nat.lt_or_ge a tn with g | g
  · exact g
  · have e : a = tn := by have := hQ.1; omega
    rw [← e, hQ.2.2.1] at hw
    rcases hw.2 with g2 | g2 <;> first | exact absurd (show (0 : Nat) = 6 from g2) (by decide) | exact absurd (show (0 : Nat) = 8 from g2) (by decide)
end DPP
/-- a view that was read is one -/
def rvOk (q : RS) : Prop := q.1 = 8 → q.2.1 = 118 → q.2.2.2.2.2 < 4
theorem rv_step {s : Nat} {q : RS} (h0 : riOk q) (h : rvOk q) : rvOk (tkS s q) := by
  obtain ⟨g0, g1, g2, g3, g4, g6, g7, g8⟩ := h0
  have g9 := g0.1
  obtain ⟨sp, lt, ib, rw, cl, nu⟩ := q
  unfold rvOk at h ⊢
  simp only [] at h g1 g2 g3 g4 g6 g7 g8 g9
  simp only [tkS]
  have hsp : sp = 0 ∨ sp = 1 ∨ sp = 2 ∨ sp = 3 ∨ sp = 4 ∨ sp = 5 ∨ sp = 6 ∨ sp = 7 ∨ sp = 8 := by omega
  have hm := moR_b lt
  rcases hsp with rfl | rfl | rfl | rfl | rfl | rfl | rfl | rfl | rfl
  all_goals simp only [tkSp, tkLt, tkNu, ltSp, Nat.reduceEqDiff, ↓reduceIte]
  · repeat' split
    all_goals omega
  · split <;> omega
  · repeat' split
    all_goals omega
  · split <;> omega
  · split <;> omega
  · split <;> omega
  · repeat' split
    all_goals omega
  · split
    · rename_i hd; have hd := dgOk_b hd
      omega
    · omega
  · split <;> omega
theorem rv_at {tx : Nat → Nat} {q : RS} {n : Nat} (htx : ∀ j, j < n → tx j < 128) (h : riOk q) (h0 : q.1 = 0) : ∀ i, i ≤ n → rvOk (rdS tx q i)
  | 0, _ => fun h8 => by have h8 : q.1 = 8 := h8; omega
  | i + 1, hi => rv_step (ri_at htx h i (by omega)) (rv_at htx h h0 i (by omega))
theorem rq_b {tx : Nat → Nat} {q : RS} {ln b a sp lt rw cl nu : Nat} {ib : Bool} (htx : ∀ j, j < ln → tx j < 128) (hq : rsOk q) (h0 : q.1 = 0) (h : rdQ tx q ln b a (sp, lt, ib, rw, cl, nu)) (h6 : sp = 6 ∨ sp = 8) : (lt = 112 → rw < 7 ∧ nu < 128) ∧ rw < 8 ∧ cl < 8 ∧ (lt = 118 → nu < 4) := by
  have h1 := ri_at htx (ri_0 hq h0) a h.1
  have h2 := rv_at htx (ri_0 hq h0) h0 a h.1
  have h3 := h1.2.2.2.2.1
  rw [h.2.2.1] at h1 h2 h3
  have hp := ri_part h1 h6
  refine ⟨hp.1, h1.1.2.2.2.1, h1.1.2.2.2.2, fun e => ?_⟩
  rcases h6 with rfl | rfl
  · have := (h3 (Or.inr (Or.inr rfl))).1
    exact absurd (show lt = 112 from this) (by omega)
  · exact h2 rfl e
/-- the reader's state at its beginning does not matter -/
def rEq (q q' : RS) : Prop := q.1 = q'.1 ∧ (q.1 ≠ 0 → q.2.1 = q'.2.1) ∧ (q.1 = 6 → q.2.2.2.2.2 = q'.2.2.2.2.2)
theorem re_ok {q q' : RS} (h : rEq q q') (s : Nat) : tkOk s q.1 q.2.1 q.2.2.2.2.2 = tkOk s q'.1 q'.2.1 q'.2.2.2.2.2 := by
  obtain ⟨sp, lt, ib, rw, cl, nu⟩ := q
  obtain ⟨sp', lt', ib', rw', cl', nu'⟩ := q'
  obtain ⟨h1, h2, h3⟩ := h
  simp only [] at h1 h2 h3
  subst h1
  simp only []
  unfold tkOk
  by_cases e0 : sp = 0
  · rw [if_pos e0, if_pos e0]
  · have e2 := h2 e0
    subst e2
    by_cases e6 : sp = 6
    · have e3 := h3 e6
      subst e3; rfl
    · simp only [e6, ↓reduceIte]
theorem re_step {q q' : RS} (h : rEq q q') (s : Nat) : rEq (tkS s q) (tkS s q') := by
  obtain ⟨sp, lt, ib, rw, cl, nu⟩ := q
  obtain ⟨sp', lt', ib', rw', cl', nu'⟩ := q'
  obtain ⟨h1, h2, h3⟩ := h
  simp only [] at h1 h2 h3
  subst h1
  unfold rEq
  simp only [tkS]
  by_cases e0 : sp = 0
  · subst e0
    refine ⟨rfl, fun _ => rfl, fun h6 => ?_⟩
    exfalso
    revert h6
    simp only [tkSp, ltSp, ↓reduceIte]
    repeat' split
    all_goals omega
  · have e2 := h2 e0
    subst e2
    by_cases e6 : sp = 6
    · have e3 := h3 e6
      subst e3
      exact ⟨rfl, fun _ => by unfold tkLt; rw [if_neg e0], fun _ => rfl⟩
    · refine ⟨by unfold tkSp; simp only [e6, ↓reduceIte], fun _ => by unfold tkLt; rw [if_neg e0], fun h6 => ?_⟩
      unfold tkNu
      by_cases e5 : sp = 5
      · simp only [e5, ↓reduceIte]
        by_cases hd : dgOk 9 s = true
        · rw [if_pos hd, if_pos hd]
        · exfalso
          revert h6
          unfold tkSp
          rw [if_neg (by omega), if_neg (by omega), if_neg (by omega), if_neg (by omega), if_neg (by omega), if_pos e5, if_neg hd]
          omega
      · exfalso
        revert h6
        unfold tkSp
        repeat' split
        all_goals omega
theorem re_at {q q' : RS} (h : rEq q q') (tx : Nat → Nat) : ∀ j, rEq (rdS tx q j) (rdS tx q' j)
  | 0 => h
  | j + 1 => re_step (re_at h tx j) (tx j)
theorem re_0 {q q' : RS} (h : q.1 = 0) (h' : q'.1 = 0) : rEq q q' := ⟨h.trans h'.symm, fun h2 => absurd h h2, fun h2 => by omega⟩
theorem re_rdOk {q q' : RS} (h : rEq q q') (tx : Nat → Nat) (j : Nat) : rdOk tx q j = rdOk tx q' j := re_ok (re_at h tx j) (tx j)
theorem re_ldN {q q' : RS} (h : rEq q q') (tx : Nat → Nat) (n : Nat) : ldN (rdOk tx q) n = ldN (rdOk tx q') n := by rw [show rdOk tx q = rdOk tx q' from funext (re_rdOk h tx)]
theorem re_wkB {q q' : RS} (h : rEq q q') (tx : Nat → Nat) (n : Nat) : wkB tx q n = wkB tx q' n := by
  unfold wkB
  rw [re_ldN h, (re_at h tx n).1]
theorem rdV_le {le fc lt rw cl nu : Nat} {f1 f2 : Int32} {ib : Bool} (h : rdV le fc f1 f2 lt ib rw cl nu) : le < 128 := by
  obtain ⟨e, h⟩ := h
  subst e
  rcases h with h | h | h | h
  · omega
  · have := h.1; omega
  · have := h.1; omega
  · have := h.1; omega
theorem wk_sg {tx : Nat → Nat} {tn a2 : Nat} (he : a2 = tn ∨ tx a2 = 59) (ha : a2 ≤ tn) (h : ¬ sgN tx tn a2 = 59) : a2 = tn := by
  rcases he with he | he
  · exact he
  · rcases Nat.lt_or_ge a2 tn with g | g
    · rw [sg_at g] at h; exact absurd he h
    · omega
set_option maxHeartbeats 4000000 in
set_option maxRecDepth 100000 in
theorem c_X5_isDone (l : Launch) (D : va_G) (cy : Nat → ClassId) (am : Nat → Nat) (mf : Nat → Int64) (mb : Nat → Int64) (mv : Nat → Nat) (th : Int32) (sv : Nat) (X : Nat → Int32) (ln : Nat) (ap : Nat) (le : Nat) (fc : Nat) (f1 : Int32) (f2 : Int32) (ha : Int64) (R : va_W) (B : Nat → Int32) (lt : Nat) (ib : Bool) (rw : Nat) (cl : Nat) (nu : Nat) (hV : rdV le fc f1 f2 lt ib rw cl nu) (hpp : lt = 112 → rw < 7 ∧ nu < 128) (hrw : rw < 8) (hcl : cl < 8) (hv4 : lt = 118 → nu < 4) (hle : le < 128) : GE l D (gts cy) yX5_isDone cX5_isDone 3 (some .boolean) 3 0 0 [.ref (am 0)] (wM am cy th (cS mf mb mv) sv X ln ap le fc f1 f2 (B) ha R) (gF (some (.int (bI (tpO (mf 0) (mb 0) lt ib rw cl)))) (wM am cy th (cS (va_up mf 0 (tpF (mf 0) (mb 0) lt ib rw cl nu)) (va_up mb 0 (tpB (mf 0) (mb 0) lt ib rw cl nu)) (va_up mv 0 (tpV (mv 0) lt nu))) sv X ln ap le fc f1 f2 (B) ha R)) := by
  refine g_intro (by decide +kernel) (lv := [(0, .ref (am 0))]) rfl (Nat.le_of_ble_eq_true rfl) ?_
  intro p e s m below meth c C0 G ls hl
  have hx := C0.1
  have hb := C0.2.1
  have hown := C0.2.2.2.2.2.1
  have hts := C0.2.2.2.2.2.2.1
  have hcs := csN_le (mf 0) (mb 0) 8
  obtain ⟨hV1, hV2⟩ := hV
  refine lv_bipush (v := 8) hx hb dX5_isDone_0 (by decide) ?_
  refine lv_aload_n hx hb dX5_isDone_2 rfl (lv_at hl 0 rfl) ?_
  refine g_get (q0 := 0) (v := .int f1) C0 G in_X5 rfl rfl 8 (by decide) fl_X5_162 (fun _ h => h) rfl dX5_isDone_3 ?_
  refine lv_imul hx hb dX5_isDone_6 ?_
  refine lv_aload_n hx hb dX5_isDone_7 rfl (lv_at hl 0 rfl) ?_
  refine g_get (q0 := 0) (v := .int f2) C0 G in_X5 rfl rfl 9 (by decide) fl_X5_153 (fun _ h => h) rfl dX5_isDone_8 ?_
  refine lv_iadd hx hb dX5_isDone_11 ?_
  refine lv_istore_n (lv' := [(1, .int ((8 * f1) + f2)), (0, .ref (am 0))]) hx hb dX5_isDone_12 rfl hl (by decide) rfl (fun ls hl => ?_)
  refine lv_aload_n hx hb dX5_isDone_13 rfl (lv_at hl 1 rfl) ?_
  refine g_get (q0 := 0) (v := .int (nI le)) C0 G in_X5 rfl rfl 6 (by decide) fl_X5_156 (fun _ h => h) rfl dX5_isDone_14 ?_
  by_cases s_17_99 : le = 99
  · skip
    refine lv_lookup (off := 35) (tgt := 52) hx hb dX5_isDone_17 (by decide) (by rw [s_17_99]; decide) (by decide) ?_
    have hlt : lt = 99 := by omega
    obtain ⟨t1, t2, t3, t4⟩ := tp_c (f := mf 0) (b := mb 0) (ib := ib) (rw := rw) (cl := cl) (nu := nu) (v := mv 0) hlt
    refine lv_aload_n hx hb dX5_isDone_52 rfl (lv_at hl 1 rfl) ?_
    refine lv_iconst (v := 0) hx hb dX5_isDone_53 (by decide) ?_
    refine g_callV (As := [.int 0]) (rest := []) (q0 := 0) C0 G (c_X5_canClose l D cy (am := am) (mf := mf) (mb := mb) (mv := mv) (th := th) (sv := sv) (X := X) (ln := ln) (ap := ap) (le := le) (fc := fc) (f1 := f1) (f2 := f2) (ha := ha) (R := R) (B := B) (z := 0) (by omega)) k_X5_canClose ml_X5_101 rfl rfl dX5_isDone_54 rfl rfl hl.1 (Nat.le_of_ble_eq_true rfl) ⟨Nat.le_of_ble_eq_true rfl, Nat.le_of_ble_eq_true rfl⟩ ⟨Nat.le_of_ble_eq_true rfl, Nat.le_of_ble_eq_true rfl⟩ (fun r W2 H locs hp G => ?_)
    obtain ⟨rfl, hw⟩ := hp
    have G := g_wc hw G
    refine W.eq (g2 := F0 m 57 ls [.int (bI (ccB (mf 0) (mb 0)))]) rfl ?_
    refine lv_if_eq (tgt := 72) hx hb dX5_isDone_57 (by decide) (fun c_57 => ?_) (fun c_57 => ?_)
    · skip
      have c_57 : (ccB (mf 0) (mb 0)) = false := bI_f c_57
      refine lv_iconst (v := 0) hx hb dX5_isDone_72 (by decide) ?_
      exact g_zret C0 G rfl ⟨by (rw [t1, c_57]; rfl), by first | (simp only [t2, t3, t4, c_57, if_true, (cm_cl c_57).1, (cm_cl c_57).2, va_up_s]; done) | (simp only [t2, t3, t4, c_57, Bool.false_eq_true, if_false, va_up_s]; done)⟩ dX5_isDone_73
    · skip
      have c_57 : (ccB (mf 0) (mb 0)) = true := bI_t c_57
      refine lv_aload_n hx hb dX5_isDone_60 rfl (lv_at hl 1 rfl) ?_
      refine lv_iconst (v := 0) hx hb dX5_isDone_61 (by decide) ?_
      refine g_callV (As := [.int 0]) (rest := []) (q0 := 0) C0 G (c_X5_closes l D cy (am := am) (mf := mf) (mb := mb) (mv := mv) (th := th) (sv := sv) (X := X) (ln := ln) (ap := ap) (le := le) (fc := fc) (f1 := f1) (f2 := f2) (ha := ha) (R := R) (B := B) (z := 0) (by omega) (cc_sd c_57)) k_X5_closes ml_X5_104 rfl rfl dX5_isDone_62 rfl rfl hl.1 (Nat.le_of_ble_eq_true rfl) ⟨Nat.le_of_ble_eq_true rfl, Nat.le_of_ble_eq_true rfl⟩ ⟨Nat.le_of_ble_eq_true rfl, Nat.le_of_ble_eq_true rfl⟩ (fun r W2 H locs hp G => ?_)
      obtain ⟨rfl, hw⟩ := hp
      have G := g_wc hw G
      refine W.eq (g2 := F0 m 65 ls [.int (nI (csN (mf 0) (mb 0) 8))]) rfl ?_
      refine lv_if_lt (tgt := 72) hx hb dX5_isDone_65 (by decide) (fun c_65 => ?_) (fun c_65 => ?_)
      · skip
        have c_65 : (csN (mf 0) (mb 0) 8) < 0 := (nI_ltI (a := csN (mf 0) (mb 0) 8) (b := 0) (by omega) (by omega)).mp c_65
        exact absurd c_65 (Nat.not_lt_zero _)
      · skip
        have c_65 : ¬ ((csN (mf 0) (mb 0) 8) < 0) := fun h => c_65 ((nI_ltI (a := csN (mf 0) (mb 0) 8) (b := 0) (by omega) (by omega)).mpr h)
        refine lv_iconst (v := 1) hx hb dX5_isDone_68 (by decide) ?_
        refine lv_goto (tgt := 73) hx hb dX5_isDone_69 (by decide) ?_
        exact g_zret C0 G rfl ⟨by (rw [t1, c_57]; rfl), by first | (simp only [t2, t3, t4, c_57, if_true, (cm_cl c_57).1, (cm_cl c_57).2, va_up_s]; done) | (simp only [t2, t3, t4, c_57, Bool.false_eq_true, if_false, va_up_s]; done)⟩ dX5_isDone_73
  by_cases s_17_112 : le = 112
  · skip
    refine lv_lookup (off := 57) (tgt := 74) hx hb dX5_isDone_17 (by decide) (by rw [s_17_112]; decide) (by decide) ?_
    have hlt : lt = 112 := by omega
    obtain ⟨t1, t2, t3, t4⟩ := tp_p (f := mf 0) (b := mb 0) (ib := ib) (rw := rw) (cl := cl) (nu := nu) (v := mv 0) hlt
    obtain ⟨hrw7, hnu⟩ := hpp hlt
    have hf : f1 = nI rw ∧ f2 = nI nu := by rcases hV2 with h | h | h | h <;> first | exact h.2 | (exfalso; omega)
    obtain ⟨hf1, hf2⟩ := hf
    obtain rfl : f1 = (nI rw) := by exact hf1
    have G : gW D (wM am cy th (cS mf mb mv) sv X ln ap le fc (nI rw) f2 (B) ha R) (va_A (wM am cy th (cS mf mb mv) sv X ln ap le fc (nI rw) f2 (B) ha R) s.heap.size) s _ _ := G
    have hl : lv_has ls 3 [(1, .int ((8 * (nI rw)) + f2)), (0, .ref (am 0))] := hl
    obtain rfl : f2 = (nI nu) := by exact hf2
    have G : gW D (wM am cy th (cS mf mb mv) sv X ln ap le fc (nI rw) (nI nu) (B) ha R) (va_A (wM am cy th (cS mf mb mv) sv X ln ap le fc (nI rw) (nI nu) (B) ha R) s.heap.size) s _ _ := G
    have hl : lv_has ls 3 [(1, .int ((8 * (nI rw)) + (nI nu))), (0, .ref (am 0))] := hl
    refine lv_aload_n hx hb dX5_isDone_74 rfl (lv_at hl 1 rfl) ?_
    refine lv_iconst (v := 0) hx hb dX5_isDone_75 (by decide) ?_
    refine lv_aload_n hx hb dX5_isDone_76 rfl (lv_at hl 1 rfl) ?_
    refine g_get (q0 := 0) (v := .int (nI rw)) C0 G in_X5 rfl rfl 8 (by decide) fl_X5_162 (fun _ h => h) rfl dX5_isDone_77 ?_
    refine g_topi (x' := nI rw) rfl ?_
    refine g_callV (As := [.int 0, .int (nI rw)]) (rest := []) (q0 := 0) C0 G (c_X5_isBlank l D cy (am := am) (mf := mf) (mb := mb) (mv := mv) (th := th) (sv := sv) (X := X) (ln := ln) (ap := ap) (le := le) (fc := fc) (f1 := (nI rw)) (f2 := (nI nu)) (ha := ha) (R := R) (B := B) (z := 0) (row := rw) (by omega) (by omega)) k_X5_isBlank ml_X5_79 rfl rfl dX5_isDone_80 rfl rfl hl.1 (Nat.le_of_ble_eq_true rfl) ⟨Nat.le_of_ble_eq_true rfl, Nat.le_of_ble_eq_true rfl⟩ ⟨Nat.le_of_ble_eq_true rfl, Nat.le_of_ble_eq_true rfl⟩ (fun r W2 H locs hp G => ?_)
    obtain ⟨rfl, hw⟩ := hp
    have G := g_wc hw G
    refine W.eq (g2 := F0 m 83 ls [.int (bI (cpB (mf 0) (mb 0) rw))]) rfl ?_
    refine lv_if_eq (tgt := 106) hx hb dX5_isDone_83 (by decide) (fun c_83 => ?_) (fun c_83 => ?_)
    · skip
      have c_83 : (cpB (mf 0) (mb 0) rw) = false := bI_f c_83
      refine lv_iconst (v := 0) hx hb dX5_isDone_106 (by decide) ?_
      exact g_zret C0 G rfl ⟨by (rw [t1, c_83]; rfl), by first | (simp only [t2, t3, t4, c_83, if_true, (pn_pw (v := nu) (by omega) c_83).1, (pn_pw (v := nu) (by omega) c_83).2, va_up_s]; done) | (simp only [t2, t3, t4, c_83, Bool.false_eq_true, if_false, va_up_s]; done)⟩ dX5_isDone_107
    · skip
      have c_83 : (cpB (mf 0) (mb 0) rw) = true := bI_t c_83
      refine lv_aload_n hx hb dX5_isDone_86 rfl (lv_at hl 1 rfl) ?_
      refine lv_iconst (v := 0) hx hb dX5_isDone_87 (by decide) ?_
      refine lv_aload_n hx hb dX5_isDone_88 rfl (lv_at hl 1 rfl) ?_
      refine g_get (q0 := 0) (v := .int (nI rw)) C0 G in_X5 rfl rfl 8 (by decide) fl_X5_162 (fun _ h => h) rfl dX5_isDone_89 ?_
      refine g_topi (x' := nI rw) rfl ?_
      refine lv_aload_n hx hb dX5_isDone_92 rfl (lv_at hl 1 rfl) ?_
      refine g_get (q0 := 0) (v := .int (nI nu)) C0 G in_X5 rfl rfl 9 (by decide) fl_X5_153 (fun _ h => h) rfl dX5_isDone_93 ?_
      refine g_topi (x' := nI nu) rfl ?_
      refine g_callV (As := [.int 0, .int (nI rw), .int (nI nu)]) (rest := []) (q0 := 0) C0 G (c_X5_punches l D cy (am := am) (mf := mf) (mb := mb) (mv := mv) (th := th) (sv := sv) (X := X) (ln := ln) (ap := ap) (le := le) (fc := fc) (f1 := (nI rw)) (f2 := (nI nu)) (ha := ha) (R := R) (B := B) (z := 0) (row := rw) (u := nu) (by omega) (by omega) (by omega)) k_X5_punches ml_X5_98 rfl rfl dX5_isDone_96 rfl rfl hl.1 (Nat.le_of_ble_eq_true rfl) ⟨Nat.le_of_ble_eq_true rfl, Nat.le_of_ble_eq_true rfl⟩ ⟨Nat.le_of_ble_eq_true rfl, Nat.le_of_ble_eq_true rfl⟩ (fun r W2 H locs hp G => ?_)
      obtain ⟨rfl, hw⟩ := hp
      have G := g_wc hw G
      refine W.eq (g2 := F0 m 99 ls [.int (nI (pc7 nu % 2))]) rfl ?_
      refine lv_if_lt (tgt := 106) hx hb dX5_isDone_99 (by decide) (fun c_99 => ?_) (fun c_99 => ?_)
      · skip
        have c_99 : (pc7 nu % 2) < 0 := (nI_ltI (a := pc7 nu % 2) (b := 0) (by omega) (by omega)).mp c_99
        exact absurd c_99 (Nat.not_lt_zero _)
      · skip
        have c_99 : ¬ ((pc7 nu % 2) < 0) := fun h => c_99 ((nI_ltI (a := pc7 nu % 2) (b := 0) (by omega) (by omega)).mpr h)
        refine lv_iconst (v := 1) hx hb dX5_isDone_102 (by decide) ?_
        refine lv_goto (tgt := 107) hx hb dX5_isDone_103 (by decide) ?_
        exact g_zret C0 G rfl ⟨by (rw [t1, c_83]; rfl), by first | (simp only [t2, t3, t4, c_83, if_true, (pn_pw (v := nu) (by omega) c_83).1, (pn_pw (v := nu) (by omega) c_83).2, va_up_s]; done) | (simp only [t2, t3, t4, c_83, Bool.false_eq_true, if_false, va_up_s]; done)⟩ dX5_isDone_107
  by_cases s_17_118 : le = 118
  · skip
    refine lv_lookup (off := 91) (tgt := 108) hx hb dX5_isDone_17 (by decide) (by rw [s_17_118]; decide) (by decide) ?_
    have hlt : lt = 118 := by omega
    obtain ⟨t1, t2, t3, t4⟩ := tp_v (f := mf 0) (b := mb 0) (ib := ib) (rw := rw) (cl := cl) (nu := nu) (v := mv 0) hlt
    have hnu := hv4 hlt
    have hf1 : f1 = nI nu := by rcases hV2 with h | h | h | h <;> first | exact h.2 | (exfalso; omega)
    obtain rfl : f1 = (nI nu) := by exact hf1
    have G : gW D (wM am cy th (cS mf mb mv) sv X ln ap le fc (nI nu) f2 (B) ha R) (va_A (wM am cy th (cS mf mb mv) sv X ln ap le fc (nI nu) f2 (B) ha R) s.heap.size) s _ _ := G
    have hl : lv_has ls 3 [(1, .int ((8 * (nI nu)) + f2)), (0, .ref (am 0))] := hl
    refine lv_aload_n hx hb dX5_isDone_108 rfl (lv_at hl 1 rfl) ?_
    refine g_get (q0 := 0) (v := .ref (am 1)) C0 G in_X5 rfl rfl 1 (by decide) fl_X5_7 (fun _ h => h) rfl dX5_isDone_109 ?_
    refine lv_iconst (v := 0) hx hb dX5_isDone_112 (by decide) ?_
    refine g_topi (x' := nI 0) rfl ?_
    refine lv_aload_n hx hb dX5_isDone_113 rfl (lv_at hl 1 rfl) ?_
    refine g_get (q0 := 0) (v := .int (nI nu)) C0 G in_X5 rfl rfl 8 (by decide) fl_X5_162 (fun _ h => h) rfl dX5_isDone_114 ?_
    refine g_topi (x' := nI nu) rfl ?_
    refine g_iast (q0 := 1) (n := 1365) (W2 := wM am cy th (upd (cS mf mb mv) 0 (nI nu)) sv X ln ap le fc (nI nu) f2 (B) ha R) C0 G rfl 1 rfl (vp_in_nI (n := 0) (by omega) (by decide)) (by rw [nI_clamp (n := 0) (by omega)]; rfl) dX5_isDone_117 (fun H locs G => ?_)
    have G : gW D (wM am cy th (cS mf mb (va_up mv 0 nu)) sv X ln ap le fc (nI nu) f2 (B) ha R) (va_A (wM am cy th (cS mf mb mv) sv X ln ap le fc (nI nu) f2 (B) ha R) s.heap.size) s H locs := wM_S (fun p hp => cS_put (z := 0) p) G
    refine lv_iconst (v := 1) hx hb dX5_isDone_118 (by decide) ?_
    exact g_zret C0 G rfl ⟨by (rw [t1]; rfl), by (simp only [t2, t3, t4, va_up_s]; done)⟩ dX5_isDone_119
  refine lv_lookup (off := 103) (tgt := 120) hx hb dX5_isDone_17 (by decide) (g_lkd (by omega) (by decide) (by simp; omega)) (by decide) ?_
  have hlt : lt = 119 ∨ lt = 120 := by omega
  have hf : fc = (if ib then 0 else 1) ∧ f1 = nI rw ∧ f2 = nI cl := by rcases hV2 with h | h | h | h <;> first | exact h.2 | (exfalso; omega)
  obtain ⟨hfc, hf1, hf2⟩ := hf
  have hfc2 : fc < 2 := by rw [hfc]; split <;> decide
  have htg := tgN_lt (mf 0) (mb 0) (8 * rw + cl) ib
  have hkdn := kdN_lt (mf 0) (mb 0) (8 * rw + cl)
  obtain rfl : f1 = (nI rw) := by exact hf1
  have G : gW D (wM am cy th (cS mf mb mv) sv X ln ap le fc (nI rw) f2 (B) ha R) (va_A (wM am cy th (cS mf mb mv) sv X ln ap le fc (nI rw) f2 (B) ha R) s.heap.size) s _ _ := G
  have hl : lv_has ls 3 [(1, .int ((8 * (nI rw)) + f2)), (0, .ref (am 0))] := hl
  obtain rfl : f2 = (nI cl) := by exact hf2
  have G : gW D (wM am cy th (cS mf mb mv) sv X ln ap le fc (nI rw) (nI cl) (B) ha R) (va_A (wM am cy th (cS mf mb mv) sv X ln ap le fc (nI rw) (nI cl) (B) ha R) s.heap.size) s _ _ := G
  have hl : lv_has ls 3 [(1, .int ((8 * (nI rw)) + (nI cl))), (0, .ref (am 0))] := hl
  have e8 : (8 : Int32) * nI rw + nI cl = nI (8 * rw + cl) := by rw [show (8 : Int32) = nI 8 from rfl, pk_mul, nI_add]
  rw [e8] at hl
  refine lv_aload_n hx hb dX5_isDone_120 rfl (lv_at hl 1 rfl) ?_
  refine lv_iconst (v := 0) hx hb dX5_isDone_121 (by decide) ?_
  refine lv_iload_n hx hb dX5_isDone_122 rfl (lv_at hl 0 rfl) ?_
  refine g_callV (As := [.int 0, .int (nI (8 * rw + cl))]) (rest := []) (q0 := 0) C0 G (c_X5_of l D cy (am := am) (mf := mf) (mb := mb) (mv := mv) (th := th) (sv := sv) (X := X) (ln := ln) (ap := ap) (le := le) (fc := fc) (f1 := (nI rw)) (f2 := (nI cl)) (ha := ha) (R := R) (B := B) (z := 0) (k := 8 * rw + cl) (by omega) (by omega)) k_X5_of ml_X5_35 rfl rfl dX5_isDone_123 rfl rfl hl.1 (Nat.le_of_ble_eq_true rfl) ⟨Nat.le_of_ble_eq_true rfl, Nat.le_of_ble_eq_true rfl⟩ ⟨Nat.le_of_ble_eq_true rfl, Nat.le_of_ble_eq_true rfl⟩ (fun r W2 H locs hp G => ?_)
  obtain ⟨rfl, hw⟩ := hp
  have G := g_wc hw G
  refine W.eq (g2 := F0 m 126 ls [.int (kdI (mf 0) (mb 0) (8 * rw + cl))]) rfl ?_
  refine lv_aload_n hx hb dX5_isDone_126 rfl (lv_at hl 1 rfl) ?_
  refine g_get (q0 := 0) (v := .int (nI fc)) C0 G in_X5 rfl rfl 7 (by decide) fl_X5_169 (fun _ h => h) rfl dX5_isDone_127 ?_
  refine g_callS (As := [.int (kdI (mf 0) (mb 0) (8 * rw + cl)), .int (nI fc)]) (rest := []) C0 G (c_X5_hasHole l D cy (W1 := wM am cy th (cS mf mb mv) sv X ln ap le fc (nI rw) (nI cl) (B) ha R) (q := kdI (mf 0) (mb 0) (8 * rw + cl)) (fr := nI fc) ) k_X5_hasHole ml_X5_50 dX5_isDone_130 rfl rfl hl.1 (Nat.le_of_ble_eq_true rfl) ⟨Nat.le_of_ble_eq_true rfl, Nat.le_of_ble_eq_true rfl⟩ ⟨Nat.le_of_ble_eq_true rfl, Nat.le_of_ble_eq_true rfl⟩ (fun r W2 H locs hp G => ?_)
  obtain ⟨rfl, hw⟩ := hp
  have G := g_wc hw G
  refine W.eq (g2 := F0 m 133 ls [.int (bI (hhB (kdI (mf 0) (mb 0) (8 * rw + cl)) (nI fc)))]) rfl ?_
  refine g_topi (x' := bI (hoB (mf 0) (mb 0) ib (8 * rw + cl))) (congrArg bI (hh_ho hfc)) ?_
  refine lv_aload_n hx hb dX5_isDone_133 rfl (lv_at hl 1 rfl) ?_
  refine g_get (q0 := 0) (v := .int (nI le)) C0 G in_X5 rfl rfl 6 (by decide) fl_X5_156 (fun _ h => h) rfl dX5_isDone_134 ?_
  refine lv_bipush (v := 120) hx hb dX5_isDone_137 (by decide) ?_
  refine lv_icmp_ne (tgt := 146) hx hb dX5_isDone_139 (by decide) (fun c_139 => ?_) (fun c_139 => ?_)
  · skip
    have c_139 : ¬ (le = 120) := fun h => c_139 ((nI_eq (a := le) (b := 120) (by omega) (by omega)).mpr h)
    refine lv_iconst (v := 0) hx hb dX5_isDone_146 (by decide) ?_
    refine lv_icmp_ne (tgt := 154) hx hb dX5_isDone_147 (by decide) (fun c_147 => ?_) (fun c_147 => ?_)
    · skip
      have c_147 : (hoB (mf 0) (mb 0) ib (8 * rw + cl)) = true := bI_t c_147
      refine lv_iconst (v := 0) hx hb dX5_isDone_154 (by decide) ?_
      refine lv_istore_n (lv' := [(2, .int 0), (1, .int (nI (8 * rw + cl))), (0, .ref (am 0))]) hx hb dX5_isDone_155 rfl hl (by decide) rfl (fun ls hl => ?_)
      refine lv_aload_n hx hb dX5_isDone_156 rfl (lv_at hl 2 rfl) ?_
      refine lv_iconst (v := 0) hx hb dX5_isDone_157 (by decide) ?_
      refine lv_iload_n hx hb dX5_isDone_158 rfl (lv_at hl 1 rfl) ?_
      refine lv_iload_n hx hb dX5_isDone_159 rfl (lv_at hl 0 rfl) ?_
      refine lv_if_eq (tgt := 179) hx hb dX5_isDone_160 (by decide) (fun c_160 => ?_) (fun c_160 => ?_)
      · skip
        refine lv_aload_n hx hb dX5_isDone_179 rfl (lv_at hl 2 rfl) ?_
        refine lv_iconst (v := 0) hx hb dX5_isDone_180 (by decide) ?_
        refine lv_iload_n hx hb dX5_isDone_181 rfl (lv_at hl 1 rfl) ?_
        refine g_callV (As := [.int 0, .int (nI (8 * rw + cl))]) (rest := [.int (nI (8 * rw + cl)), .int 0, .ref (am 0)]) (q0 := 0) C0 G (c_X5_of l D cy (am := am) (mf := mf) (mb := mb) (mv := mv) (th := th) (sv := sv) (X := X) (ln := ln) (ap := ap) (le := le) (fc := fc) (f1 := (nI rw)) (f2 := (nI cl)) (ha := ha) (R := R) (B := B) (z := 0) (k := 8 * rw + cl) (by omega) (by omega)) k_X5_of ml_X5_35 rfl rfl dX5_isDone_182 rfl rfl hl.1 (Nat.le_of_ble_eq_true rfl) ⟨Nat.le_of_ble_eq_true rfl, Nat.le_of_ble_eq_true rfl⟩ ⟨Nat.le_of_ble_eq_true rfl, Nat.le_of_ble_eq_true rfl⟩ (fun r W2 H locs hp G => ?_)
        obtain ⟨rfl, hw⟩ := hp
        have G := g_wc hw G
        refine W.eq (g2 := F0 m 185 ls [.int (kdI (mf 0) (mb 0) (8 * rw + cl)), .int (nI (8 * rw + cl)), .int 0, .ref (am 0)]) rfl ?_
        refine g_topi (x' := nI (kdN (mf 0) (mb 0) (8 * rw + cl))) (kd_n _ _ _) ?_
        refine g_callV (As := [.int 0, .int (nI (8 * rw + cl)), .int (nI (kdN (mf 0) (mb 0) (8 * rw + cl)))]) (rest := []) (q0 := 0) C0 G (c_X5_lay l D cy (am := am) (mf := mf) (mb := mb) (mv := mv) (th := th) (sv := sv) (X := X) (ln := ln) (ap := ap) (le := le) (fc := fc) (f1 := (nI rw)) (f2 := (nI cl)) (ha := ha) (R := R) (B := B) (z := 0) (k := 8 * rw + cl) (q := kdN (mf 0) (mb 0) (8 * rw + cl)) (by omega) (by omega) (by omega)) k_X5_lay ml_X5_31 rfl rfl dX5_isDone_185 rfl rfl hl.1 (Nat.le_of_ble_eq_true rfl) ⟨Nat.le_of_ble_eq_true rfl, Nat.le_of_ble_eq_true rfl⟩ ⟨Nat.le_of_ble_eq_true rfl, Nat.le_of_ble_eq_true rfl⟩ (fun r W2 H locs hp G => ?_)
        obtain ⟨rfl, hw⟩ := hp
        have G := g_wc hw G
        refine W.eq (g2 := F0 m 188 ls []) rfl ?_
        refine lv_iload_n hx hb dX5_isDone_188 rfl (lv_at hl 0 rfl) ?_
        exact g_zret C0 G rfl ⟨by first | (rw [(tp_w (lt := lt) (f := mf 0) (b := mb 0) (ib := ib) (rw := rw) (cl := cl) (nu := nu) (v := mv 0) (hlt.resolve_right (by omega))).1, c_147]; rfl) | (rw [(tp_x (lt := lt) (f := mf 0) (b := mb 0) (ib := ib) (rw := rw) (cl := cl) (nu := nu) (v := mv 0) (by omega)).1, c_147]; rfl), by first | (have hw := tp_w (lt := lt) (f := mf 0) (b := mb 0) (ib := ib) (rw := rw) (cl := cl) (nu := nu) (v := mv 0) (hlt.resolve_right (by omega)); obtain ⟨t1, t2, t3, t4⟩ := hw; have h3 := th_n (f := mf 0) (b := mb 0) (k := 8 * rw + cl) (ib := ib) (ho := true) (by omega) c_147; simp only [t2, t3, t4, h3.1, h3.2, va_up_s]; done) | (have hw := tp_x (lt := lt) (f := mf 0) (b := mb 0) (ib := ib) (rw := rw) (cl := cl) (nu := nu) (v := mv 0) (by omega); obtain ⟨t1, t2, t3, t4⟩ := hw; have h3 := th_n (f := mf 0) (b := mb 0) (k := 8 * rw + cl) (ib := ib) (ho := false) (by omega) c_147; simp only [t2, t3, t4, h3.1, h3.2, va_up_s]; done) | (have hw := tp_w (lt := lt) (f := mf 0) (b := mb 0) (ib := ib) (rw := rw) (cl := cl) (nu := nu) (v := mv 0) (hlt.resolve_right (by omega)); obtain ⟨t1, t2, t3, t4⟩ := hw; have h3 := th_y (f := mf 0) (b := mb 0) (k := 8 * rw + cl) (ib := ib) (ho := true) (by simpa using c_147); have h4 := sk_id (f := mf 0) (b := mb 0) (k := 8 * rw + cl) (by omega); simp only [t2, t3, t4, h3.1, h3.2, h4.1, h4.2, va_up_s]; done) | (have hw := tp_x (lt := lt) (f := mf 0) (b := mb 0) (ib := ib) (rw := rw) (cl := cl) (nu := nu) (v := mv 0) (by omega); obtain ⟨t1, t2, t3, t4⟩ := hw; have h3 := th_y (f := mf 0) (b := mb 0) (k := 8 * rw + cl) (ib := ib) (ho := false) (by simpa using c_147); have h4 := sk_id (f := mf 0) (b := mb 0) (k := 8 * rw + cl) (by omega); simp only [t2, t3, t4, h3.1, h3.2, h4.1, h4.2, va_up_s]; done)⟩ dX5_isDone_189
      · exact absurd c_160 (by decide)
    · skip
      have c_147 : (hoB (mf 0) (mb 0) ib (8 * rw + cl)) = false := bI_f c_147
      refine lv_iconst (v := 1) hx hb dX5_isDone_150 (by decide) ?_
      refine lv_goto (tgt := 155) hx hb dX5_isDone_151 (by decide) ?_
      refine lv_istore_n (lv' := [(2, .int 1), (1, .int (nI (8 * rw + cl))), (0, .ref (am 0))]) hx hb dX5_isDone_155 rfl hl (by decide) rfl (fun ls hl => ?_)
      refine lv_aload_n hx hb dX5_isDone_156 rfl (lv_at hl 2 rfl) ?_
      refine lv_iconst (v := 0) hx hb dX5_isDone_157 (by decide) ?_
      refine lv_iload_n hx hb dX5_isDone_158 rfl (lv_at hl 1 rfl) ?_
      refine lv_iload_n hx hb dX5_isDone_159 rfl (lv_at hl 0 rfl) ?_
      refine lv_if_eq (tgt := 179) hx hb dX5_isDone_160 (by decide) (fun c_160 => ?_) (fun c_160 => ?_)
      · exact absurd c_160 (by decide)
      · skip
        refine lv_aload_n hx hb dX5_isDone_163 rfl (lv_at hl 2 rfl) ?_
        refine lv_iconst (v := 0) hx hb dX5_isDone_164 (by decide) ?_
        refine lv_iload_n hx hb dX5_isDone_165 rfl (lv_at hl 1 rfl) ?_
        refine g_callV (As := [.int 0, .int (nI (8 * rw + cl))]) (rest := [.int (nI (8 * rw + cl)), .int 0, .ref (am 0)]) (q0 := 0) C0 G (c_X5_of l D cy (am := am) (mf := mf) (mb := mb) (mv := mv) (th := th) (sv := sv) (X := X) (ln := ln) (ap := ap) (le := le) (fc := fc) (f1 := (nI rw)) (f2 := (nI cl)) (ha := ha) (R := R) (B := B) (z := 0) (k := 8 * rw + cl) (by omega) (by omega)) k_X5_of ml_X5_35 rfl rfl dX5_isDone_166 rfl rfl hl.1 (Nat.le_of_ble_eq_true rfl) ⟨Nat.le_of_ble_eq_true rfl, Nat.le_of_ble_eq_true rfl⟩ ⟨Nat.le_of_ble_eq_true rfl, Nat.le_of_ble_eq_true rfl⟩ (fun r W2 H locs hp G => ?_)
        obtain ⟨rfl, hw⟩ := hp
        have G := g_wc hw G
        refine W.eq (g2 := F0 m 169 ls [.int (kdI (mf 0) (mb 0) (8 * rw + cl)), .int (nI (8 * rw + cl)), .int 0, .ref (am 0)]) rfl ?_
        refine lv_aload_n hx hb dX5_isDone_169 rfl (lv_at hl 2 rfl) ?_
        refine g_get (q0 := 0) (v := .int (nI fc)) C0 G in_X5 rfl rfl 7 (by decide) fl_X5_169 (fun _ h => h) rfl dX5_isDone_170 ?_
        refine g_callS (As := [.int (kdI (mf 0) (mb 0) (8 * rw + cl)), .int (nI fc)]) (rest := [.int (nI (8 * rw + cl)), .int 0, .ref (am 0)]) C0 G (c_X5_turned l D cy (W1 := wM am cy th (cS mf mb mv) sv X ln ap le fc (nI rw) (nI cl) (B) ha R) (q := kdI (mf 0) (mb 0) (8 * rw + cl)) (fr := nI fc) ) k_X5_turned ml_X5_113 dX5_isDone_173 rfl rfl hl.1 (Nat.le_of_ble_eq_true rfl) ⟨Nat.le_of_ble_eq_true rfl, Nat.le_of_ble_eq_true rfl⟩ ⟨Nat.le_of_ble_eq_true rfl, Nat.le_of_ble_eq_true rfl⟩ (fun r W2 H locs hp G => ?_)
        obtain ⟨rfl, hw⟩ := hp
        have G := g_wc hw G
        refine W.eq (g2 := F0 m 176 ls [.int (tuI (kdI (mf 0) (mb 0) (8 * rw + cl)) (nI fc)), .int (nI (8 * rw + cl)), .int 0, .ref (am 0)]) rfl ?_
        refine g_topi (x' := nI (tgN (mf 0) (mb 0) (8 * rw + cl) ib)) (tu_tg2 hfc) ?_
        refine lv_goto (tgt := 185) hx hb dX5_isDone_176 (by decide) ?_
        refine g_callV (As := [.int 0, .int (nI (8 * rw + cl)), .int (nI (tgN (mf 0) (mb 0) (8 * rw + cl) ib))]) (rest := []) (q0 := 0) C0 G (c_X5_lay l D cy (am := am) (mf := mf) (mb := mb) (mv := mv) (th := th) (sv := sv) (X := X) (ln := ln) (ap := ap) (le := le) (fc := fc) (f1 := (nI rw)) (f2 := (nI cl)) (ha := ha) (R := R) (B := B) (z := 0) (k := 8 * rw + cl) (q := tgN (mf 0) (mb 0) (8 * rw + cl) ib) (by omega) (by omega) (by omega)) k_X5_lay ml_X5_31 rfl rfl dX5_isDone_185 rfl rfl hl.1 (Nat.le_of_ble_eq_true rfl) ⟨Nat.le_of_ble_eq_true rfl, Nat.le_of_ble_eq_true rfl⟩ ⟨Nat.le_of_ble_eq_true rfl, Nat.le_of_ble_eq_true rfl⟩ (fun r W2 H locs hp G => ?_)
        obtain ⟨rfl, hw⟩ := hp
        have G := g_wc hw G
        refine W.eq (g2 := F0 m 188 ls []) rfl ?_
        refine lv_iload_n hx hb dX5_isDone_188 rfl (lv_at hl 0 rfl) ?_
        exact g_zret C0 G rfl ⟨by first | (rw [(tp_w (lt := lt) (f := mf 0) (b := mb 0) (ib := ib) (rw := rw) (cl := cl) (nu := nu) (v := mv 0) (hlt.resolve_right (by omega))).1, c_147]; rfl) | (rw [(tp_x (lt := lt) (f := mf 0) (b := mb 0) (ib := ib) (rw := rw) (cl := cl) (nu := nu) (v := mv 0) (by omega)).1, c_147]; rfl), by first | (have hw := tp_w (lt := lt) (f := mf 0) (b := mb 0) (ib := ib) (rw := rw) (cl := cl) (nu := nu) (v := mv 0) (hlt.resolve_right (by omega)); obtain ⟨t1, t2, t3, t4⟩ := hw; have h3 := th_n (f := mf 0) (b := mb 0) (k := 8 * rw + cl) (ib := ib) (ho := true) (by omega) c_147; simp only [t2, t3, t4, h3.1, h3.2, va_up_s]; done) | (have hw := tp_x (lt := lt) (f := mf 0) (b := mb 0) (ib := ib) (rw := rw) (cl := cl) (nu := nu) (v := mv 0) (by omega); obtain ⟨t1, t2, t3, t4⟩ := hw; have h3 := th_n (f := mf 0) (b := mb 0) (k := 8 * rw + cl) (ib := ib) (ho := false) (by omega) c_147; simp only [t2, t3, t4, h3.1, h3.2, va_up_s]; done) | (have hw := tp_w (lt := lt) (f := mf 0) (b := mb 0) (ib := ib) (rw := rw) (cl := cl) (nu := nu) (v := mv 0) (hlt.resolve_right (by omega)); obtain ⟨t1, t2, t3, t4⟩ := hw; have h3 := th_y (f := mf 0) (b := mb 0) (k := 8 * rw + cl) (ib := ib) (ho := true) (by simpa using c_147); have h4 := sk_id (f := mf 0) (b := mb 0) (k := 8 * rw + cl) (by omega); simp only [t2, t3, t4, h3.1, h3.2, h4.1, h4.2, va_up_s]; done) | (have hw := tp_x (lt := lt) (f := mf 0) (b := mb 0) (ib := ib) (rw := rw) (cl := cl) (nu := nu) (v := mv 0) (by omega); obtain ⟨t1, t2, t3, t4⟩ := hw; have h3 := th_y (f := mf 0) (b := mb 0) (k := 8 * rw + cl) (ib := ib) (ho := false) (by simpa using c_147); have h4 := sk_id (f := mf 0) (b := mb 0) (k := 8 * rw + cl) (by omega); simp only [t2, t3, t4, h3.1, h3.2, h4.1, h4.2, va_up_s]; done)⟩ dX5_isDone_189
  · skip
    have c_139 : le = 120 := (nI_eq (a := le) (b := 120) (by omega) (by omega)).mp c_139
    refine lv_iconst (v := 1) hx hb dX5_isDone_142 (by decide) ?_
    refine lv_goto (tgt := 147) hx hb dX5_isDone_143 (by decide) ?_
    refine lv_icmp_ne (tgt := 154) hx hb dX5_isDone_147 (by decide) (fun c_147 => ?_) (fun c_147 => ?_)
    · skip
      have c_147 : (hoB (mf 0) (mb 0) ib (8 * rw + cl)) = false := bI_f1 c_147
      refine lv_iconst (v := 0) hx hb dX5_isDone_154 (by decide) ?_
      refine lv_istore_n (lv' := [(2, .int 0), (1, .int (nI (8 * rw + cl))), (0, .ref (am 0))]) hx hb dX5_isDone_155 rfl hl (by decide) rfl (fun ls hl => ?_)
      refine lv_aload_n hx hb dX5_isDone_156 rfl (lv_at hl 2 rfl) ?_
      refine lv_iconst (v := 0) hx hb dX5_isDone_157 (by decide) ?_
      refine lv_iload_n hx hb dX5_isDone_158 rfl (lv_at hl 1 rfl) ?_
      refine lv_iload_n hx hb dX5_isDone_159 rfl (lv_at hl 0 rfl) ?_
      refine lv_if_eq (tgt := 179) hx hb dX5_isDone_160 (by decide) (fun c_160 => ?_) (fun c_160 => ?_)
      · skip
        refine lv_aload_n hx hb dX5_isDone_179 rfl (lv_at hl 2 rfl) ?_
        refine lv_iconst (v := 0) hx hb dX5_isDone_180 (by decide) ?_
        refine lv_iload_n hx hb dX5_isDone_181 rfl (lv_at hl 1 rfl) ?_
        refine g_callV (As := [.int 0, .int (nI (8 * rw + cl))]) (rest := [.int (nI (8 * rw + cl)), .int 0, .ref (am 0)]) (q0 := 0) C0 G (c_X5_of l D cy (am := am) (mf := mf) (mb := mb) (mv := mv) (th := th) (sv := sv) (X := X) (ln := ln) (ap := ap) (le := le) (fc := fc) (f1 := (nI rw)) (f2 := (nI cl)) (ha := ha) (R := R) (B := B) (z := 0) (k := 8 * rw + cl) (by omega) (by omega)) k_X5_of ml_X5_35 rfl rfl dX5_isDone_182 rfl rfl hl.1 (Nat.le_of_ble_eq_true rfl) ⟨Nat.le_of_ble_eq_true rfl, Nat.le_of_ble_eq_true rfl⟩ ⟨Nat.le_of_ble_eq_true rfl, Nat.le_of_ble_eq_true rfl⟩ (fun r W2 H locs hp G => ?_)
        obtain ⟨rfl, hw⟩ := hp
        have G := g_wc hw G
        refine W.eq (g2 := F0 m 185 ls [.int (kdI (mf 0) (mb 0) (8 * rw + cl)), .int (nI (8 * rw + cl)), .int 0, .ref (am 0)]) rfl ?_
        refine g_topi (x' := nI (kdN (mf 0) (mb 0) (8 * rw + cl))) (kd_n _ _ _) ?_
        refine g_callV (As := [.int 0, .int (nI (8 * rw + cl)), .int (nI (kdN (mf 0) (mb 0) (8 * rw + cl)))]) (rest := []) (q0 := 0) C0 G (c_X5_lay l D cy (am := am) (mf := mf) (mb := mb) (mv := mv) (th := th) (sv := sv) (X := X) (ln := ln) (ap := ap) (le := le) (fc := fc) (f1 := (nI rw)) (f2 := (nI cl)) (ha := ha) (R := R) (B := B) (z := 0) (k := 8 * rw + cl) (q := kdN (mf 0) (mb 0) (8 * rw + cl)) (by omega) (by omega) (by omega)) k_X5_lay ml_X5_31 rfl rfl dX5_isDone_185 rfl rfl hl.1 (Nat.le_of_ble_eq_true rfl) ⟨Nat.le_of_ble_eq_true rfl, Nat.le_of_ble_eq_true rfl⟩ ⟨Nat.le_of_ble_eq_true rfl, Nat.le_of_ble_eq_true rfl⟩ (fun r W2 H locs hp G => ?_)
        obtain ⟨rfl, hw⟩ := hp
        have G := g_wc hw G
        refine W.eq (g2 := F0 m 188 ls []) rfl ?_
        refine lv_iload_n hx hb dX5_isDone_188 rfl (lv_at hl 0 rfl) ?_
        exact g_zret C0 G rfl ⟨by first | (rw [(tp_w (lt := lt) (f := mf 0) (b := mb 0) (ib := ib) (rw := rw) (cl := cl) (nu := nu) (v := mv 0) (hlt.resolve_right (by omega))).1, c_147]; rfl) | (rw [(tp_x (lt := lt) (f := mf 0) (b := mb 0) (ib := ib) (rw := rw) (cl := cl) (nu := nu) (v := mv 0) (by omega)).1, c_147]; rfl), by first | (have hw := tp_w (lt := lt) (f := mf 0) (b := mb 0) (ib := ib) (rw := rw) (cl := cl) (nu := nu) (v := mv 0) (hlt.resolve_right (by omega)); obtain ⟨t1, t2, t3, t4⟩ := hw; have h3 := th_n (f := mf 0) (b := mb 0) (k := 8 * rw + cl) (ib := ib) (ho := true) (by omega) c_147; simp only [t2, t3, t4, h3.1, h3.2, va_up_s]; done) | (have hw := tp_x (lt := lt) (f := mf 0) (b := mb 0) (ib := ib) (rw := rw) (cl := cl) (nu := nu) (v := mv 0) (by omega); obtain ⟨t1, t2, t3, t4⟩ := hw; have h3 := th_n (f := mf 0) (b := mb 0) (k := 8 * rw + cl) (ib := ib) (ho := false) (by omega) c_147; simp only [t2, t3, t4, h3.1, h3.2, va_up_s]; done) | (have hw := tp_w (lt := lt) (f := mf 0) (b := mb 0) (ib := ib) (rw := rw) (cl := cl) (nu := nu) (v := mv 0) (hlt.resolve_right (by omega)); obtain ⟨t1, t2, t3, t4⟩ := hw; have h3 := th_y (f := mf 0) (b := mb 0) (k := 8 * rw + cl) (ib := ib) (ho := true) (by simpa using c_147); have h4 := sk_id (f := mf 0) (b := mb 0) (k := 8 * rw + cl) (by omega); simp only [t2, t3, t4, h3.1, h3.2, h4.1, h4.2, va_up_s]; done) | (have hw := tp_x (lt := lt) (f := mf 0) (b := mb 0) (ib := ib) (rw := rw) (cl := cl) (nu := nu) (v := mv 0) (by omega); obtain ⟨t1, t2, t3, t4⟩ := hw; have h3 := th_y (f := mf 0) (b := mb 0) (k := 8 * rw + cl) (ib := ib) (ho := false) (by simpa using c_147); have h4 := sk_id (f := mf 0) (b := mb 0) (k := 8 * rw + cl) (by omega); simp only [t2, t3, t4, h3.1, h3.2, h4.1, h4.2, va_up_s]; done)⟩ dX5_isDone_189
      · exact absurd c_160 (by decide)
    · skip
      have c_147 : (hoB (mf 0) (mb 0) ib (8 * rw + cl)) = true := bI_t1 c_147
      refine lv_iconst (v := 1) hx hb dX5_isDone_150 (by decide) ?_
      refine lv_goto (tgt := 155) hx hb dX5_isDone_151 (by decide) ?_
      refine lv_istore_n (lv' := [(2, .int 1), (1, .int (nI (8 * rw + cl))), (0, .ref (am 0))]) hx hb dX5_isDone_155 rfl hl (by decide) rfl (fun ls hl => ?_)
      refine lv_aload_n hx hb dX5_isDone_156 rfl (lv_at hl 2 rfl) ?_
      refine lv_iconst (v := 0) hx hb dX5_isDone_157 (by decide) ?_
      refine lv_iload_n hx hb dX5_isDone_158 rfl (lv_at hl 1 rfl) ?_
      refine lv_iload_n hx hb dX5_isDone_159 rfl (lv_at hl 0 rfl) ?_
      refine lv_if_eq (tgt := 179) hx hb dX5_isDone_160 (by decide) (fun c_160 => ?_) (fun c_160 => ?_)
      · exact absurd c_160 (by decide)
      · skip
        refine lv_aload_n hx hb dX5_isDone_163 rfl (lv_at hl 2 rfl) ?_
        refine lv_iconst (v := 0) hx hb dX5_isDone_164 (by decide) ?_
        refine lv_iload_n hx hb dX5_isDone_165 rfl (lv_at hl 1 rfl) ?_
        refine g_callV (As := [.int 0, .int (nI (8 * rw + cl))]) (rest := [.int (nI (8 * rw + cl)), .int 0, .ref (am 0)]) (q0 := 0) C0 G (c_X5_of l D cy (am := am) (mf := mf) (mb := mb) (mv := mv) (th := th) (sv := sv) (X := X) (ln := ln) (ap := ap) (le := le) (fc := fc) (f1 := (nI rw)) (f2 := (nI cl)) (ha := ha) (R := R) (B := B) (z := 0) (k := 8 * rw + cl) (by omega) (by omega)) k_X5_of ml_X5_35 rfl rfl dX5_isDone_166 rfl rfl hl.1 (Nat.le_of_ble_eq_true rfl) ⟨Nat.le_of_ble_eq_true rfl, Nat.le_of_ble_eq_true rfl⟩ ⟨Nat.le_of_ble_eq_true rfl, Nat.le_of_ble_eq_true rfl⟩ (fun r W2 H locs hp G => ?_)
        obtain ⟨rfl, hw⟩ := hp
        have G := g_wc hw G
        refine W.eq (g2 := F0 m 169 ls [.int (kdI (mf 0) (mb 0) (8 * rw + cl)), .int (nI (8 * rw + cl)), .int 0, .ref (am 0)]) rfl ?_
        refine lv_aload_n hx hb dX5_isDone_169 rfl (lv_at hl 2 rfl) ?_
        refine g_get (q0 := 0) (v := .int (nI fc)) C0 G in_X5 rfl rfl 7 (by decide) fl_X5_169 (fun _ h => h) rfl dX5_isDone_170 ?_
        refine g_callS (As := [.int (kdI (mf 0) (mb 0) (8 * rw + cl)), .int (nI fc)]) (rest := [.int (nI (8 * rw + cl)), .int 0, .ref (am 0)]) C0 G (c_X5_turned l D cy (W1 := wM am cy th (cS mf mb mv) sv X ln ap le fc (nI rw) (nI cl) (B) ha R) (q := kdI (mf 0) (mb 0) (8 * rw + cl)) (fr := nI fc) ) k_X5_turned ml_X5_113 dX5_isDone_173 rfl rfl hl.1 (Nat.le_of_ble_eq_true rfl) ⟨Nat.le_of_ble_eq_true rfl, Nat.le_of_ble_eq_true rfl⟩ ⟨Nat.le_of_ble_eq_true rfl, Nat.le_of_ble_eq_true rfl⟩ (fun r W2 H locs hp G => ?_)
        obtain ⟨rfl, hw⟩ := hp
        have G := g_wc hw G
        refine W.eq (g2 := F0 m 176 ls [.int (tuI (kdI (mf 0) (mb 0) (8 * rw + cl)) (nI fc)), .int (nI (8 * rw + cl)), .int 0, .ref (am 0)]) rfl ?_
        refine g_topi (x' := nI (tgN (mf 0) (mb 0) (8 * rw + cl) ib)) (tu_tg2 hfc) ?_
        refine lv_goto (tgt := 185) hx hb dX5_isDone_176 (by decide) ?_
        refine g_callV (As := [.int 0, .int (nI (8 * rw + cl)), .int (nI (tgN (mf 0) (mb 0) (8 * rw + cl) ib))]) (rest := []) (q0 := 0) C0 G (c_X5_lay l D cy (am := am) (mf := mf) (mb := mb) (mv := mv) (th := th) (sv := sv) (X := X) (ln := ln) (ap := ap) (le := le) (fc := fc) (f1 := (nI rw)) (f2 := (nI cl)) (ha := ha) (R := R) (B := B) (z := 0) (k := 8 * rw + cl) (q := tgN (mf 0) (mb 0) (8 * rw + cl) ib) (by omega) (by omega) (by omega)) k_X5_lay ml_X5_31 rfl rfl dX5_isDone_185 rfl rfl hl.1 (Nat.le_of_ble_eq_true rfl) ⟨Nat.le_of_ble_eq_true rfl, Nat.le_of_ble_eq_true rfl⟩ ⟨Nat.le_of_ble_eq_true rfl, Nat.le_of_ble_eq_true rfl⟩ (fun r W2 H locs hp G => ?_)
        obtain ⟨rfl, hw⟩ := hp
        have G := g_wc hw G
        refine W.eq (g2 := F0 m 188 ls []) rfl ?_
        refine lv_iload_n hx hb dX5_isDone_188 rfl (lv_at hl 0 rfl) ?_
        exact g_zret C0 G rfl ⟨by first | (rw [(tp_w (lt := lt) (f := mf 0) (b := mb 0) (ib := ib) (rw := rw) (cl := cl) (nu := nu) (v := mv 0) (hlt.resolve_right (by omega))).1, c_147]; rfl) | (rw [(tp_x (lt := lt) (f := mf 0) (b := mb 0) (ib := ib) (rw := rw) (cl := cl) (nu := nu) (v := mv 0) (by omega)).1, c_147]; rfl), by first | (have hw := tp_w (lt := lt) (f := mf 0) (b := mb 0) (ib := ib) (rw := rw) (cl := cl) (nu := nu) (v := mv 0) (hlt.resolve_right (by omega)); obtain ⟨t1, t2, t3, t4⟩ := hw; have h3 := th_n (f := mf 0) (b := mb 0) (k := 8 * rw + cl) (ib := ib) (ho := true) (by omega) c_147; simp only [t2, t3, t4, h3.1, h3.2, va_up_s]; done) | (have hw := tp_x (lt := lt) (f := mf 0) (b := mb 0) (ib := ib) (rw := rw) (cl := cl) (nu := nu) (v := mv 0) (by omega); obtain ⟨t1, t2, t3, t4⟩ := hw; have h3 := th_n (f := mf 0) (b := mb 0) (k := 8 * rw + cl) (ib := ib) (ho := false) (by omega) c_147; simp only [t2, t3, t4, h3.1, h3.2, va_up_s]; done) | (have hw := tp_w (lt := lt) (f := mf 0) (b := mb 0) (ib := ib) (rw := rw) (cl := cl) (nu := nu) (v := mv 0) (hlt.resolve_right (by omega)); obtain ⟨t1, t2, t3, t4⟩ := hw; have h3 := th_y (f := mf 0) (b := mb 0) (k := 8 * rw + cl) (ib := ib) (ho := true) (by simpa using c_147); have h4 := sk_id (f := mf 0) (b := mb 0) (k := 8 * rw + cl) (by omega); simp only [t2, t3, t4, h3.1, h3.2, h4.1, h4.2, va_up_s]; done) | (have hw := tp_x (lt := lt) (f := mf 0) (b := mb 0) (ib := ib) (rw := rw) (cl := cl) (nu := nu) (v := mv 0) (by omega); obtain ⟨t1, t2, t3, t4⟩ := hw; have h3 := th_y (f := mf 0) (b := mb 0) (k := 8 * rw + cl) (ib := ib) (ho := false) (by simpa using c_147); have h4 := sk_id (f := mf 0) (b := mb 0) (k := 8 * rw + cl) (by omega); simp only [t2, t3, t4, h3.1, h3.2, h4.1, h4.2, va_up_s]; done)⟩ dX5_isDone_189
