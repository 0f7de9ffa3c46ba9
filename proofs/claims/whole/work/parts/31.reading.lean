/-! the reference's reading of a text, beside the automaton -/
def sgN (tx : Nat → Nat) (ln ap : Nat) : Nat := if ap < ln then tx ap else 0
theorem sg_b {tx : Nat → Nat} {X : Nat → Int32} {ln ap : Nat} (hx : ∀ j, j < ln → X j = nI (tx j) ∧ tx j < 128) : sgN tx ln ap < 128 := by
  unfold sgN; split
  · rename_i h; exact (hx ap h).2
  · decide
theorem sg_in {tx : Nat → Nat} {ln ap : Nat} (h : sgN tx ln ap ≠ 0) : ap < ln ∧ sgN tx ln ap = tx ap := by
  unfold sgN at h ⊢
  by_cases e : ap < ln
  · rw [if_pos e]; exact ⟨e, rfl⟩
  · rw [if_neg e] at h; exact absurd rfl h
theorem sg_at {tx : Nat → Nat} {ln ap : Nat} (h : ap < ln) : sgN tx ln ap = tx ap := if_pos h
theorem sg_end {tx : Nat → Nat} {ln ap : Nat} (h : ln ≤ ap) : sgN tx ln ap = 0 := if_neg (by omega)
theorem inB_dg {n most : Nat} {hi : Int32} (hn : n < 65536) (hm : most < 10) (hh : hi = nI (48 + most)) : inB (nI n) 48 hi = dgOk most n := by
  subst hh
  unfold inB dgOk
  rw [show (48 : Int32) = nI 48 from rfl]
  by_cases h1 : 48 ≤ n
  · rw [decide_eq_false (nI_nlt h1 (by omega)), decide_eq_true h1]
    by_cases h2 : n ≤ 48 + most
    · rw [decide_eq_false (nI_nlt h2 (by omega)), decide_eq_true h2]; rfl
    · rw [decide_eq_true (nI_lt (a := 48 + most) (b := n) (by omega) (by omega)), decide_eq_false h2]; rfl
  · rw [decide_eq_true (nI_lt (a := n) (b := 48) (by omega) (by omega)), decide_eq_false h1]; rfl
theorem nI_nm {k : Nat} (hk : k < 2147483648) : ¬ nI k = -1 := by
  intro h
  have h2 := congrArg Int32.toInt h
  rw [nI_toInt (by omega)] at h2
  exact absurd h2 (by show ¬ (k : Int) = -1; omega)
/-- all is taken up to a, where the state is u; the part at hand begins at b, and holds no ';' so far -/
def rdQ (tx : Nat → Nat) (q : RS) (ln b a : Nat) (u : RS) : Prop := a ≤ ln ∧ (∀ j, j < a → rdOk tx q j = true) ∧ rdS tx q a = u ∧ b ≤ a ∧ ∀ j, b ≤ j → j < a → tx j ≠ 59
/-- the text's first error is at a, or it ends there within a part -/
def rdF (tx : Nat → Nat) (q : RS) (ln a : Nat) : Prop := (∀ j, j < a → rdOk tx q j = true) ∧ (a < ln → rdOk tx q a = false) ∧ (a = ln → (rdS tx q a).1 ≠ 6 ∧ (rdS tx q a).1 ≠ 8)
section TXT
variable {tx : Nat → Nat} {q : RS} {ln b a lt rw cl nu : Nat} {ib : Bool}
theorem rd_go {u : RS} (h : rdQ tx q ln b a u) (ha : a < ln) (h9 : tx a ≠ 59) (hk : tkOk (tx a) u.1 u.2.1 u.2.2.2.2.2 = true) : rdQ tx q ln b (a + 1) (tkS (tx a) u) := by
  obtain ⟨h1, h2, h3, h4, h5⟩ := h
  refine ⟨ha, fun j hj => ?_, ?_, by omega, fun j hj hk => ?_⟩
  · rcases Nat.lt_or_ge j a with h | h
    · exact h2 j h
    · have : j = a := by omega
      subst this; unfold rdOk; rw [h3]; exact hk
  · show tkS (tx a) (rdS tx q a) = _; rw [h3]
  · rcases Nat.lt_or_ge j a with h | h
    · exact h5 j hj h
    · have : j = a := by omega
      subst this; exact h9
theorem rd_no {u : RS} (h : rdQ tx q ln b a u) (hk : a < ln → tkOk (tx a) u.1 u.2.1 u.2.2.2.2.2 = false) (h6 : u.1 ≠ 6 ∧ u.1 ≠ 8) : rdF tx q ln a := by
  obtain ⟨h1, h2, h3, h4, h5⟩ := h
  refine ⟨h2, fun ha => ?_, fun _ => by rw [h3]; exact h6⟩
  unfold rdOk; rw [h3]; exact hk ha
theorem q_c (h : rdQ tx q ln b a (0, lt, ib, rw, cl, nu)) (e : sgN tx ln a = 99) : rdQ tx q ln b (a + 1) (8, 99, ib, rw, cl, nu) := by
  obtain ⟨ha, hs⟩ := sg_in (by rw [e]; decide); rw [e] at hs
  have := rd_go h ha (by omega) (by rw [← hs]; rfl)
  rw [← hs] at this; exact this
theorem q_v (h : rdQ tx q ln b a (0, lt, ib, rw, cl, nu)) (e : sgN tx ln a = 118) : rdQ tx q ln b (a + 1) (7, 118, ib, rw, cl, nu) := by
  obtain ⟨ha, hs⟩ := sg_in (by rw [e]; decide); rw [e] at hs
  have := rd_go h ha (by omega) (by rw [← hs]; rfl)
  rw [← hs] at this; exact this
theorem q_p (h : rdQ tx q ln b a (0, lt, ib, rw, cl, nu)) (e : sgN tx ln a = 112) : rdQ tx q ln b (a + 1) (2, 112, ib, rw, cl, nu) := by
  obtain ⟨ha, hs⟩ := sg_in (by rw [e]; decide); rw [e] at hs
  have := rd_go h ha (by omega) (by rw [← hs]; rfl)
  rw [← hs] at this; exact this
theorem q_w (h : rdQ tx q ln b a (0, lt, ib, rw, cl, nu)) (e : sgN tx ln a = 119 ∨ sgN tx ln a = 120) : rdQ tx q ln b (a + 1) (1, sgN tx ln a, ib, rw, cl, nu) := by
  rcases e with e | e
  · obtain ⟨ha, hs⟩ := sg_in (by rw [e]; decide); rw [e] at hs
    have := rd_go h ha (by omega) (by rw [← hs]; rfl)
    rw [← hs] at this; rw [e]; exact this
  · obtain ⟨ha, hs⟩ := sg_in (by rw [e]; decide); rw [e] at hs
    have := rd_go h ha (by omega) (by rw [← hs]; rfl)
    rw [← hs] at this; rw [e]; exact this
theorem q_f (h : rdQ tx q ln b a (1, lt, ib, rw, cl, nu)) (e : sgN tx ln a = 102) : rdQ tx q ln b (a + 1) (2, lt, false, rw, cl, nu) := by
  obtain ⟨ha, hs⟩ := sg_in (by rw [e]; decide); rw [e] at hs
  have := rd_go h ha (by omega) (by rw [← hs]; rfl)
  rw [← hs] at this; exact this
theorem q_b (h : rdQ tx q ln b a (1, lt, ib, rw, cl, nu)) (e : sgN tx ln a = 98) : rdQ tx q ln b (a + 1) (2, lt, true, rw, cl, nu) := by
  obtain ⟨ha, hs⟩ := sg_in (by rw [e]; decide); rw [e] at hs
  have := rd_go h ha (by omega) (by rw [← hs]; rfl)
  rw [← hs] at this; exact this
theorem sg_dg {most : Nat} (hm : most < 10) (hd : dgOk most (sgN tx ln a) = true) : a < ln ∧ tx a = sgN tx ln a ∧ tx a ≠ 59 := by
  have hb := dgOk_b hd
  obtain ⟨ha, hs⟩ := sg_in (show sgN tx ln a ≠ 0 by omega)
  exact ⟨ha, hs.symm, by omega⟩
theorem q_r6 (h : rdQ tx q ln b a (2, 112, ib, rw, cl, nu)) (hd : dgOk 6 (sgN tx ln a) = true) : rdQ tx q ln b (a + 1) (4, 112, ib, sgN tx ln a - 48, cl, nu) := by
  obtain ⟨ha, hs, h9⟩ := sg_dg (by decide) hd
  have := rd_go h ha h9 (by rw [hs]; exact hd)
  rw [hs] at this
  simp only [tkS, tkSp, tkLt, tkIb, tkRw, tkCl, tkNu, moR, Nat.reduceEqDiff, ↓reduceIte, hd] at this
  exact this
theorem q_r7 (h : rdQ tx q ln b a (2, lt, ib, rw, cl, nu)) (hl : lt ≠ 112) (hd : dgOk 7 (sgN tx ln a) = true) : rdQ tx q ln b (a + 1) (3, lt, ib, sgN tx ln a - 48, cl, nu) := by
  obtain ⟨ha, hs, h9⟩ := sg_dg (by decide) hd
  have hm : moR lt = 7 := if_neg hl
  have := rd_go h ha h9 (by rw [hs]; show dgOk (moR lt) _ = true; rw [hm]; exact hd)
  rw [hs] at this
  simp only [tkS, tkSp, tkLt, tkIb, tkRw, tkCl, tkNu, hm, hl, Nat.reduceEqDiff, ↓reduceIte, hd] at this
  exact this
theorem q_k (h : rdQ tx q ln b a (3, lt, ib, rw, cl, nu)) (hd : dgOk 7 (sgN tx ln a) = true) : rdQ tx q ln b (a + 1) (8, lt, ib, rw, sgN tx ln a - 48, nu) := by
  obtain ⟨ha, hs, h9⟩ := sg_dg (by decide) hd
  have := rd_go h ha h9 (by rw [hs]; exact hd)
  rw [hs] at this
  simp only [tkS, tkSp, tkLt, tkIb, tkRw, tkCl, tkNu, Nat.reduceEqDiff, ↓reduceIte, hd] at this
  exact this
theorem q_e (h : rdQ tx q ln b a (4, lt, ib, rw, cl, nu)) (e : sgN tx ln a = 61) : rdQ tx q ln b (a + 1) (5, lt, ib, rw, cl, nu) := by
  obtain ⟨ha, hs⟩ := sg_in (by rw [e]; decide); rw [e] at hs
  have := rd_go h ha (by omega) (by rw [← hs]; rfl)
  rw [← hs] at this; exact this
theorem q_n (h : rdQ tx q ln b a (7, lt, ib, rw, cl, nu)) (hd : dgOk 3 (sgN tx ln a) = true) : rdQ tx q ln b (a + 1) (8, lt, ib, rw, cl, sgN tx ln a - 48) := by
  obtain ⟨ha, hs, h9⟩ := sg_dg (by decide) hd
  have := rd_go h ha h9 (by rw [hs]; exact hd)
  rw [hs] at this
  simp only [tkS, tkSp, tkLt, tkIb, tkRw, tkCl, tkNu, Nat.reduceEqDiff, ↓reduceIte, hd] at this
  exact this
theorem q_d (h : rdQ tx q ln b a (5, lt, ib, rw, cl, nu)) (hd : dgOk 9 (sgN tx ln a) = true) : rdQ tx q ln b (a + 1) (6, lt, ib, rw, cl, sgN tx ln a - 48) := by
  obtain ⟨ha, hs, h9⟩ := sg_dg (by decide) hd
  have := rd_go h ha h9 (by rw [hs]; exact hd)
  rw [hs] at this
  simp only [tkS, tkSp, tkLt, tkIb, tkRw, tkCl, tkNu, Nat.reduceEqDiff, ↓reduceIte, hd] at this
  exact this
theorem mvA_y {s n : Nat} (hd : dgOk 9 s = true) (h0 : ¬ n ≤ 0) (hb : ¬ 128 ≤ 10 * n + s - 48) : mvA s n = true := by
  have h1 := dgOk_b hd
  unfold mvA
  rw [hd, decide_eq_false (by omega), decide_eq_false (by omega)]; rfl
theorem mvA_n {s n : Nat} (hd : dgOk 9 s = true) (h : n ≤ 0 ∨ 128 ≤ 10 * n + s - 48) : mvA s n = false := by
  have h1 := dgOk_b hd
  unfold mvA
  rcases h with h | h
  · rw [hd, decide_eq_true (show n = 0 by omega)]; rfl
  · rw [hd, decide_eq_true (show 127 < 10 * n + (s - 48) by omega), Bool.or_true]; rfl
theorem q_m (h : rdQ tx q ln b a (6, lt, ib, rw, cl, nu)) (hd : dgOk 9 (sgN tx ln a) = true) (h0 : ¬ nu ≤ 0) (hb : ¬ 128 ≤ 10 * nu + sgN tx ln a - 48) : rdQ tx q ln b (a + 1) (6, lt, ib, rw, cl, 10 * nu + (sgN tx ln a - 48)) := by
  obtain ⟨ha, hs, h9⟩ := sg_dg (by decide) hd
  have hm := mvA_y hd h0 hb
  have := rd_go h ha h9 (by rw [hs]; show mvOk _ _ = true; unfold mvOk; rw [hd, if_pos rfl]; exact hm)
  rw [hs] at this
  simp only [tkS, tkSp, tkLt, tkIb, tkRw, tkCl, tkNu, Nat.reduceEqDiff, ↓reduceIte, hd, hm] at this
  exact this
theorem mx_8 (h : rdQ tx q ln b a (8, lt, ib, rw, cl, nu)) : a < ln → rdOk tx q a = true → tx a = 59 := by
  intro _ h2
  unfold rdOk at h2; rw [h.2.2.1] at h2
  exact of_decide_eq_true h2
theorem mx_6 (h : rdQ tx q ln b a (6, lt, ib, rw, cl, nu)) (hn : dgOk 9 (sgN tx ln a) = true → nu ≤ 0 ∨ 128 ≤ 10 * nu + sgN tx ln a - 48) : a < ln → rdOk tx q a = true → tx a = 59 := by
  intro ha h2
  unfold rdOk at h2; rw [h.2.2.1] at h2
  have h3 : mvOk (tx a) nu = true := h2
  rw [sg_at ha] at hn
  unfold mvOk at h3
  cases hd : dgOk 9 (tx a)
  · rw [hd] at h3; exact of_decide_eq_true h3
  · rw [hd, if_pos rfl, mvA_n hd (hn hd)] at h3; exact absurd h3 (by decide)
theorem q_s {sp : Nat} (h : rdQ tx q ln b a (sp, lt, ib, rw, cl, nu)) (hs6 : sp = 6 ∨ sp = 8) (e : sgN tx ln a = 59) : rdQ tx q ln (a + 1) (a + 1) (0, lt, ib, rw, cl, nu) := by
  obtain ⟨ha, hs⟩ := sg_in (by rw [e]; decide); rw [e] at hs
  obtain ⟨h1, h2, h3, h4, h5⟩ := h
  refine ⟨ha, fun j hj => ?_, ?_, Nat.le_refl _, fun j hj hk => by omega⟩
  · rcases Nat.lt_or_ge j a with h | h
    · exact h2 j h
    · have : j = a := by omega
      subst this; unfold rdOk; rw [h3, ← hs]; rcases hs6 with rfl | rfl <;> rfl
  · show tkS (tx a) (rdS tx q a) = _
    rw [h3, ← hs]
    rcases hs6 with rfl | rfl <;> rfl
theorem f_0 (h : rdQ tx q ln b a (0, lt, ib, rw, cl, nu)) (h1 : ¬ sgN tx ln a = 99) (h2 : ¬ sgN tx ln a = 118) (h3 : ¬ sgN tx ln a = 112) (h4 : ¬ sgN tx ln a = 119) (h5 : ¬ sgN tx ln a = 120) : rdF tx q ln a := by
  refine rd_no h (fun ha => ?_) ⟨by show 0 ≠ 6; decide, by show 0 ≠ 8; decide⟩
  rw [sg_at ha] at h1 h2 h3 h4 h5
  show ltOk (tx a) = false
  unfold ltOk
  rw [decide_eq_false h1, decide_eq_false h2, decide_eq_false h3, decide_eq_false h4, decide_eq_false h5]; rfl
theorem f_1 (h : rdQ tx q ln b a (1, lt, ib, rw, cl, nu)) (h1 : ¬ sgN tx ln a = 102) (h2 : ¬ sgN tx ln a = 98) : rdF tx q ln a := by
  refine rd_no h (fun ha => ?_) ⟨by show 1 ≠ 6; decide, by show 1 ≠ 8; decide⟩
  rw [sg_at ha] at h1 h2
  show fcOk (tx a) = false
  unfold fcOk
  rw [decide_eq_false h1, decide_eq_false h2]; rfl
theorem f_26 (h : rdQ tx q ln b a (2, 112, ib, rw, cl, nu)) (h1 : dgOk 6 (sgN tx ln a) = false) : rdF tx q ln a := by
  refine rd_no h (fun ha => ?_) ⟨by show 2 ≠ 6; decide, by show 2 ≠ 8; decide⟩
  rw [sg_at ha] at h1; exact h1
theorem f_27 (h : rdQ tx q ln b a (2, lt, ib, rw, cl, nu)) (hl : lt ≠ 112) (h1 : dgOk 7 (sgN tx ln a) = false) : rdF tx q ln a := by
  refine rd_no h (fun ha => ?_) ⟨by show 2 ≠ 6; decide, by show 2 ≠ 8; decide⟩
  rw [sg_at ha] at h1
  show dgOk (moR lt) _ = false
  rw [show moR lt = 7 from if_neg hl]; exact h1
theorem f_3 (h : rdQ tx q ln b a (3, lt, ib, rw, cl, nu)) (h1 : dgOk 7 (sgN tx ln a) = false) : rdF tx q ln a := by
  refine rd_no h (fun ha => ?_) ⟨by show 3 ≠ 6; decide, by show 3 ≠ 8; decide⟩
  rw [sg_at ha] at h1; exact h1
theorem f_4 (h : rdQ tx q ln b a (4, lt, ib, rw, cl, nu)) (h1 : ¬ sgN tx ln a = 61) : rdF tx q ln a := by
  refine rd_no h (fun ha => ?_) ⟨by show 4 ≠ 6; decide, by show 4 ≠ 8; decide⟩
  rw [sg_at ha] at h1; exact decide_eq_false h1
theorem f_5 (h : rdQ tx q ln b a (5, lt, ib, rw, cl, nu)) (h1 : dgOk 9 (sgN tx ln a) = false) : rdF tx q ln a := by
  refine rd_no h (fun ha => ?_) ⟨by show 5 ≠ 6; decide, by show 5 ≠ 8; decide⟩
  rw [sg_at ha] at h1; exact h1
theorem f_7 (h : rdQ tx q ln b a (7, lt, ib, rw, cl, nu)) (h1 : dgOk 3 (sgN tx ln a) = false) : rdF tx q ln a := by
  refine rd_no h (fun ha => ?_) ⟨by show 7 ≠ 6; decide, by show 7 ≠ 8; decide⟩
  rw [sg_at ha] at h1; exact h1
theorem f_s {sp : Nat} (h : rdQ tx q ln b a (sp, lt, ib, rw, cl, nu)) (hn : a ≠ ln) (hm : a < ln → rdOk tx q a = true → tx a = 59) (e : ¬ sgN tx ln a = 59) : rdF tx q ln a := by
  have ha : a < ln := by have := h.1; omega
  refine ⟨h.2.1, fun _ => ?_, fun h2 => absurd h2 hn⟩
  rw [sg_at ha] at e
  cases h3 : rdOk tx q a
  · rfl
  · exact absurd (hm ha h3) e
end TXT
theorem ldN_all {p : Nat → Bool} : ∀ {n : Nat}, (∀ j, j < n → p j = true) → ldN p n = n
  | 0, _ => rfl
  | n + 1, h => ldN_next (ldN_all (fun j hj => h j (by omega))) (h n (by omega))
theorem ldN_ok {p : Nat → Bool} : ∀ {n : Nat}, ldN p n = n → ∀ j, j < n → p j = true
  | 0, _, j, hj => absurd hj (Nat.not_lt_zero _)
  | n + 1, h, j, hj => by
    have hle := ldN_le p n
    by_cases e : ldN p n = n
    · by_cases hp : p n = true
      · rcases Nat.lt_or_ge j n with h2 | h2
        · exact ldN_ok e j h2
        · rw [show j = n by omega]; exact hp
      · have : ldN p (n + 1) = n := by
          show (if ldN p n = n then (if p n = true then n + 1 else n) else ldN p n) = n
          rw [if_pos e, if_neg hp]
        omega
    · have : ldN p (n + 1) = ldN p n := by
        show (if ldN p n = n then (if p n = true then n + 1 else n) else ldN p n) = _
        rw [if_neg e]
      omega
/-- is the text a complete one -/
def wkB (tx : Nat → Nat) (q : RS) (ln : Nat) : Bool := decide (ldN (rdOk tx q) ln = ln) && (decide ((rdS tx q ln).1 = 6) || decide ((rdS tx q ln).1 = 8))
theorem wk_f {tx : Nat → Nat} {q : RS} {ln a : Nat} (h : rdF tx q ln a) (ha : a ≤ ln) : a = ldN (rdOk tx q) ln ∧ false = wkB tx q ln := by
  obtain ⟨h1, h2, h3⟩ := h
  rcases Nat.lt_or_ge a ln with h | h
  · have e := ldN_at (ldN_all h1) (h2 h) h
    refine ⟨e.symm, ?_⟩
    unfold wkB; rw [e, decide_eq_false (by omega)]; rfl
  · have e : a = ln := by omega
    subst e
    refine ⟨(ldN_all h1).symm, ?_⟩
    unfold wkB; rw [decide_eq_false (h3 rfl).1, decide_eq_false (h3 rfl).2, Bool.or_false, Bool.and_false]
theorem wk_t {tx : Nat → Nat} {q : RS} {ln b a : Nat} {u : RS} (h : rdQ tx q ln b a u) (h6 : u.1 = 6 ∨ u.1 = 8) (ha : a = ln) : a = ldN (rdOk tx q) ln ∧ true = wkB tx q ln := by
  subst ha
  have e := ldN_all h.2.1
  refine ⟨e.symm, ?_⟩
  unfold wkB
  rw [e, decide_eq_true rfl, h.2.2.1]
  rcases h6 with h6 | h6 <;> rw [h6] <;> rfl
/-- the part that was read, as the reference holds it -/
def rdV (le fc : Nat) (f1 f2 : Int32) (lt : Nat) (ib : Bool) (rw cl nu : Nat) : Prop := le = lt ∧ (lt = 99 ∨ lt = 112 ∧ f1 = nI rw ∧ f2 = nI nu ∨ lt = 118 ∧ f1 = nI nu ∨ (lt = 119 ∨ lt = 120) ∧ fc = (if ib then 0 else 1) ∧ f1 = nI rw ∧ f2 = nI cl)
def rdD (tx : Nat → Nat) (q : RS) (ln b a le fc : Nat) (f1 f2 : Int32) : Prop := ∃ (sp lt : Nat) (ib : Bool) (rw cl nu : Nat), rdQ tx q ln b a (sp, lt, ib, rw, cl, nu) ∧ (sp = 6 ∨ sp = 8) ∧ (a < ln → rdOk tx q a = true → tx a = 59) ∧ b < a ∧ rdV le fc f1 f2 lt ib rw cl nu
theorem rs_0 {q : RS} (h : q.1 = 0) : q = (0, q.2.1, q.2.2.1, q.2.2.2.1, q.2.2.2.2.1, q.2.2.2.2.2) := by
  obtain ⟨sp, lt, ib, rw, cl, nu⟩ := q
  have h : sp = 0 := h
  subst h; rfl
set_option maxHeartbeats 4000000 in
set_option maxRecDepth 100000 in
theorem c_X5_sign (l : Launch) (D : va_G) (cy : Nat → ClassId) (am : Nat → Nat) (mf : Nat → Int64) (mb : Nat → Int64) (mv : Nat → Nat) (th : Int32) (sv : Nat) (X : Nat → Int32) (ln : Nat) (ap : Nat) (le : Nat) (fc : Nat) (f1 : Int32) (f2 : Int32) (ha : Int64) (R : va_W) (B : Nat → Int32) (tx : Nat → Nat) (h1 : ln ≤ 60) (h2 : ap ≤ ln) (hmx : ∀ j, j < ln → X j = nI (tx j) ∧ tx j < 128) : GE l D (gts cy) yX5_sign cX5_sign 1 (some .int) 0 0 0 [.ref (am 0)] (wM am cy th (cS mf mb mv) sv X ln ap le fc f1 f2 (B) ha R) (gF (some (.int (nI (sgN tx ln ap)))) (wM am cy th (cS mf mb mv) sv X ln ap le fc f1 f2 (B) ha R)) := by
  refine g_intro (by decide +kernel) (lv := [(0, .ref (am 0))]) rfl (Nat.le_of_ble_eq_true rfl) ?_
  intro p e s m below meth c C0 G ls hl
  have hx := C0.1
  have hb := C0.2.1
  have hown := C0.2.2.2.2.2.1
  have hts := C0.2.2.2.2.2.2.1
  refine lv_aload_n hx hb dX5_sign_0 rfl (lv_at hl 0 rfl) ?_
  refine g_get (q0 := 0) (v := .int (nI ap)) C0 G in_X5 rfl rfl 5 (by decide) fl_X5_143 (fun _ h => h) rfl dX5_sign_1 ?_
  refine lv_aload_n hx hb dX5_sign_4 rfl (lv_at hl 0 rfl) ?_
  refine g_get (q0 := 0) (v := .int (nI ln)) C0 G in_X5 rfl rfl 4 (by decide) fl_X5_140 (fun _ h => h) rfl dX5_sign_5 ?_
  refine lv_icmp_ge (tgt := 23) hx hb dX5_sign_8 (by decide) (fun c_8 => ?_) (fun c_8 => ?_)
  · skip
    have c_8 : ln ≤ ap := (nI_leI (a := ln) (b := ap) (by omega) (by omega)).mp c_8
    refine lv_iconst (v := 0) hx hb dX5_sign_23 (by decide) ?_
    exact g_iret C0 G ⟨by first | (rw [sg_at (tx := tx) (show ap < ln by omega)]; done) | (rw [sg_end (tx := tx) (show ln ≤ ap by omega)]; rfl), by first | rfl | (exfalso; omega) | (simp only [sgN, c_8, Bool.false_eq_true, ↓reduceIte, eq_self, decide_true, decide_false, not_true_eq_false, not_false_eq_true, Bool.true_and, Bool.false_and, Bool.and_true, Bool.and_false]; done) | (simp [sgN, c_8]; done) | (simp [sgN, c_8]; rfl) | (simp [sgN, c_8]; omega)⟩ dX5_sign_24
  · skip
    have c_8 : ¬ (ln ≤ ap) := fun h => c_8 ((nI_leI (a := ln) (b := ap) (by omega) (by omega)).mpr h)
    refine lv_aload_n hx hb dX5_sign_11 rfl (lv_at hl 0 rfl) ?_
    refine g_get (q0 := 0) (v := .ref (am 2)) C0 G in_X5 rfl rfl 3 (by decide) fl_X5_13 (fun _ h => h) rfl dX5_sign_12 ?_
    refine lv_aload_n hx hb dX5_sign_15 rfl (lv_at hl 0 rfl) ?_
    refine g_get (q0 := 0) (v := .int (nI ap)) C0 G in_X5 rfl rfl 5 (by decide) fl_X5_143 (fun _ h => h) rfl dX5_sign_16 ?_
    refine g_iald (q0 := 2) (n := 60) C0 G rfl 1 rfl (vp_in_nI (n := ap) (by omega) (by decide)) dX5_sign_19 ?_
    refine g_topi (x' := X ap) (congrArg X (nI_clamp (n := ap) (by omega))) ?_
    refine g_topi (x' := nI (tx ap)) ((hmx ap (by omega)).1) ?_
    refine lv_goto (tgt := 24) hx hb dX5_sign_20 (by decide) ?_
    exact g_iret C0 G ⟨by first | (rw [sg_at (tx := tx) (show ap < ln by omega)]; done) | (rw [sg_end (tx := tx) (show ln ≤ ap by omega)]; rfl), by first | rfl | (exfalso; omega) | (simp only [sgN, c_8, Bool.false_eq_true, ↓reduceIte, eq_self, decide_true, decide_false, not_true_eq_false, not_false_eq_true, Bool.true_and, Bool.false_and, Bool.and_true, Bool.and_false]; done) | (simp [sgN, c_8]; done) | (simp [sgN, c_8]; rfl) | (simp [sgN, c_8]; omega)⟩ dX5_sign_24

set_option maxHeartbeats 4000000 in
set_option maxRecDepth 100000 in
theorem c_X5_takes (l : Launch) (D : va_G) (cy : Nat → ClassId) (am : Nat → Nat) (mf : Nat → Int64) (mb : Nat → Int64) (mv : Nat → Nat) (th : Int32) (sv : Nat) (X : Nat → Int32) (ln : Nat) (ap : Nat) (le : Nat) (fc : Nat) (f1 : Int32) (f2 : Int32) (ha : Int64) (R : va_W) (B : Nat → Int32) (sg : Nat) (tx : Nat → Nat) (h1 : sg < 2147483648) (h2 : ln ≤ 60) (h3 : ap ≤ ln) (hmx : ∀ j, j < ln → X j = nI (tx j) ∧ tx j < 128) : GE l D (gts cy) yX5_takes cX5_takes 3 (some .boolean) 1 0 0 [.ref (am 0), .int (nI sg)] (wM am cy th (cS mf mb mv) sv X ln ap le fc f1 f2 (B) ha R) (gF (some (.int (bI (decide (sgN tx ln ap = sg))))) (wM am cy th (cS mf mb mv) sv X ln (if sgN tx ln ap = sg then ap + 1 else ap) le fc f1 f2 (B) ha R)) := by
  refine g_intro (by decide +kernel) (lv := [(0, .ref (am 0)), (1, .int (nI sg))]) rfl (Nat.le_of_ble_eq_true rfl) ?_
  intro p e s m below meth c C0 G ls hl
  have hx := C0.1
  have hb := C0.2.1
  have hown := C0.2.2.2.2.2.1
  have hts := C0.2.2.2.2.2.2.1
  have hsg := sg_b (ap := ap) hmx
  refine lv_aload_n hx hb dX5_takes_0 rfl (lv_at hl 0 rfl) ?_
  refine g_callV (As := []) (rest := []) (q0 := 0) C0 G (c_X5_sign l D cy (am := am) (mf := mf) (mb := mb) (mv := mv) (th := th) (sv := sv) (X := X) (ln := ln) (ap := ap) (le := le) (fc := fc) (f1 := f1) (f2 := f2) (ha := ha) (R := R) (B := B) (tx := tx) (by omega) (by omega) hmx) k_X5_sign ml_X5_146 rfl rfl dX5_takes_1 rfl rfl hl.1 (Nat.le_of_ble_eq_true rfl) ⟨Nat.le_of_ble_eq_true rfl, Nat.le_of_ble_eq_true rfl⟩ ⟨Nat.le_of_ble_eq_true rfl, Nat.le_of_ble_eq_true rfl⟩ (fun r W2 H locs hp G => ?_)
  obtain ⟨rfl, hw⟩ := hp
  have G := g_wc hw G
  refine W.eq (g2 := F0 m 4 ls [.int (nI (sgN tx ln ap))]) rfl ?_
  refine lv_iload_n hx hb dX5_takes_4 rfl (lv_at hl 1 rfl) ?_
  refine lv_icmp_ne (tgt := 12) hx hb dX5_takes_5 (by decide) (fun c_5 => ?_) (fun c_5 => ?_)
  · skip
    have c_5 : ¬ ((sgN tx ln ap) = sg) := fun h => c_5 ((nI_eq (a := sgN tx ln ap) (b := sg) (by omega) (by omega)).mpr h)
    refine lv_iconst (v := 0) hx hb dX5_takes_12 (by decide) ?_
    refine lv_istore_n (lv' := [(2, .int 0), (0, .ref (am 0)), (1, .int (nI sg))]) hx hb dX5_takes_13 rfl hl (by decide) rfl (fun ls hl => ?_)
    refine lv_aload_n hx hb dX5_takes_14 rfl (lv_at hl 1 rfl) ?_
    refine lv_dup hx hb dX5_takes_15 rfl ?_
    refine g_get (q0 := 0) (v := .int (nI ap)) C0 G in_X5 rfl rfl 5 (by decide) fl_X5_143 (fun _ h => h) rfl dX5_takes_16 ?_
    refine lv_iload_n hx hb dX5_takes_19 rfl (lv_at hl 0 rfl) ?_
    refine lv_if_eq (tgt := 27) hx hb dX5_takes_20 (by decide) (fun c_20 => ?_) (fun c_20 => ?_)
    · skip
      refine lv_iconst (v := 0) hx hb dX5_takes_27 (by decide) ?_
      refine lv_iadd hx hb dX5_takes_28 ?_
      refine g_topi (x' := nI (ap + 0)) (nI_add ap 0) ?_
      refine g_put (q0 := 0) (W2 := wM am cy th (cS mf mb mv) sv X ln (ap + 0) le fc f1 f2 (B) ha R) C0 G ft_X5 in_X5 rfl rfl 5 (by decide) fl_X5_143 (fun _ h => h) rfl rfl rfl (Nat.le_of_ble_eq_true rfl) rfl dX5_takes_29 (fun H locs G => ?_)
      refine lv_iload_n hx hb dX5_takes_32 rfl (lv_at hl 0 rfl) ?_
      exact g_zret C0 G rfl ⟨by first | rfl | (exfalso; omega) | (simp only [bI, c_5, Bool.false_eq_true, ↓reduceIte, eq_self, decide_true, decide_false, not_true_eq_false, not_false_eq_true, Bool.true_and, Bool.false_and, Bool.and_true, Bool.and_false]; done) | (simp [bI, c_5]; done) | (simp [bI, c_5]; rfl) | (simp [bI, c_5]; omega), by first | rfl | (exfalso; omega) | (simp only [bI, c_5, Bool.false_eq_true, ↓reduceIte, eq_self, decide_true, decide_false, not_true_eq_false, not_false_eq_true, Bool.true_and, Bool.false_and, Bool.and_true, Bool.and_false]; done) | (simp [bI, c_5]; done) | (simp [bI, c_5]; rfl) | (simp [bI, c_5]; omega)⟩ dX5_takes_33
    · exact absurd c_20 (by decide)
  · skip
    have c_5 : (sgN tx ln ap) = sg := (nI_eq (a := sgN tx ln ap) (b := sg) (by omega) (by omega)).mp c_5
    refine lv_iconst (v := 1) hx hb dX5_takes_8 (by decide) ?_
    refine lv_goto (tgt := 13) hx hb dX5_takes_9 (by decide) ?_
    refine lv_istore_n (lv' := [(2, .int 1), (0, .ref (am 0)), (1, .int (nI sg))]) hx hb dX5_takes_13 rfl hl (by decide) rfl (fun ls hl => ?_)
    refine lv_aload_n hx hb dX5_takes_14 rfl (lv_at hl 1 rfl) ?_
    refine lv_dup hx hb dX5_takes_15 rfl ?_
    refine g_get (q0 := 0) (v := .int (nI ap)) C0 G in_X5 rfl rfl 5 (by decide) fl_X5_143 (fun _ h => h) rfl dX5_takes_16 ?_
    refine lv_iload_n hx hb dX5_takes_19 rfl (lv_at hl 0 rfl) ?_
    refine lv_if_eq (tgt := 27) hx hb dX5_takes_20 (by decide) (fun c_20 => ?_) (fun c_20 => ?_)
    · exact absurd c_20 (by decide)
    · skip
      refine lv_iconst (v := 1) hx hb dX5_takes_23 (by decide) ?_
      refine lv_goto (tgt := 28) hx hb dX5_takes_24 (by decide) ?_
      refine lv_iadd hx hb dX5_takes_28 ?_
      refine g_topi (x' := nI (ap + 1)) (nI_add ap 1) ?_
      refine g_put (q0 := 0) (W2 := wM am cy th (cS mf mb mv) sv X ln (ap + 1) le fc f1 f2 (B) ha R) C0 G ft_X5 in_X5 rfl rfl 5 (by decide) fl_X5_143 (fun _ h => h) rfl rfl rfl (Nat.le_of_ble_eq_true rfl) rfl dX5_takes_29 (fun H locs G => ?_)
      refine lv_iload_n hx hb dX5_takes_32 rfl (lv_at hl 0 rfl) ?_
      exact g_zret C0 G rfl ⟨by first | rfl | (exfalso; omega) | (simp only [bI, c_5, Bool.false_eq_true, ↓reduceIte, eq_self, decide_true, decide_false, not_true_eq_false, not_false_eq_true, Bool.true_and, Bool.false_and, Bool.and_true, Bool.and_false]; done) | (simp [bI, c_5]; done) | (simp [bI, c_5]; rfl) | (simp [bI, c_5]; omega), by first | rfl | (exfalso; omega) | (simp only [bI, c_5, Bool.false_eq_true, ↓reduceIte, eq_self, decide_true, decide_false, not_true_eq_false, not_false_eq_true, Bool.true_and, Bool.false_and, Bool.and_true, Bool.and_false]; done) | (simp [bI, c_5]; done) | (simp [bI, c_5]; rfl) | (simp [bI, c_5]; omega)⟩ dX5_takes_33

set_option maxHeartbeats 4000000 in
set_option maxRecDepth 100000 in
theorem c_X5_figure (l : Launch) (D : va_G) (cy : Nat → ClassId) (am : Nat → Nat) (mf : Nat → Int64) (mb : Nat → Int64) (mv : Nat → Nat) (th : Int32) (sv : Nat) (X : Nat → Int32) (ln : Nat) (ap : Nat) (le : Nat) (fc : Nat) (f1 : Int32) (f2 : Int32) (ha : Int64) (R : va_W) (B : Nat → Int32) (most : Nat) (tx : Nat → Nat) (h1 : most < 10) (h2 : ln ≤ 60) (h3 : ap ≤ ln) (hmx : ∀ j, j < ln → X j = nI (tx j) ∧ tx j < 128) : GE l D (gts cy) yX5_figure cX5_figure 3 (some .int) 1 0 0 [.ref (am 0), .int (nI most)] (wM am cy th (cS mf mb mv) sv X ln ap le fc f1 f2 (B) ha R) (gF (some (.int (dgI most (sgN tx ln ap)))) (wM am cy th (cS mf mb mv) sv X ln (if dgOk most (sgN tx ln ap) = true then ap + 1 else ap) le fc f1 f2 (B) ha R)) := by
  refine g_intro (by decide +kernel) (lv := [(0, .ref (am 0)), (1, .int (nI most))]) rfl (Nat.le_of_ble_eq_true rfl) ?_
  intro p e s m below meth c C0 G ls hl
  have hx := C0.1
  have hb := C0.2.1
  have hown := C0.2.2.2.2.2.1
  have hts := C0.2.2.2.2.2.2.1
  have hsg := sg_b (ap := ap) hmx
  refine lv_aload_n hx hb dX5_figure_0 rfl (lv_at hl 0 rfl) ?_
  refine g_callV (As := []) (rest := []) (q0 := 0) C0 G (c_X5_sign l D cy (am := am) (mf := mf) (mb := mb) (mv := mv) (th := th) (sv := sv) (X := X) (ln := ln) (ap := ap) (le := le) (fc := fc) (f1 := f1) (f2 := f2) (ha := ha) (R := R) (B := B) (tx := tx) (by omega) (by omega) hmx) k_X5_sign ml_X5_146 rfl rfl dX5_figure_1 rfl rfl hl.1 (Nat.le_of_ble_eq_true rfl) ⟨Nat.le_of_ble_eq_true rfl, Nat.le_of_ble_eq_true rfl⟩ ⟨Nat.le_of_ble_eq_true rfl, Nat.le_of_ble_eq_true rfl⟩ (fun r W2 H locs hp G => ?_)
  obtain ⟨rfl, hw⟩ := hp
  have G := g_wc hw G
  refine W.eq (g2 := F0 m 4 ls [.int (nI (sgN tx ln ap))]) rfl ?_
  refine lv_bipush (v := 48) hx hb dX5_figure_4 (by decide) ?_
  refine lv_bipush (v := 48) hx hb dX5_figure_6 (by decide) ?_
  refine lv_iload_n hx hb dX5_figure_8 rfl (lv_at hl 1 rfl) ?_
  refine lv_iadd hx hb dX5_figure_9 ?_
  refine g_topi (x' := nI (48 + most)) (nI_add 48 most) ?_
  refine g_callS (As := [.int (nI (sgN tx ln ap)), .int 48, .int (nI (48 + most))]) (rest := []) C0 G (c_X5_in l D cy (W1 := wM am cy th (cS mf mb mv) sv X ln ap le fc f1 f2 (B) ha R) (u := nI (sgN tx ln ap)) (lo := (48 : Int32)) (hi := nI (48 + most)) ) k_X5_in ml_X5_27 dX5_figure_10 rfl rfl hl.1 (Nat.le_of_ble_eq_true rfl) ⟨Nat.le_of_ble_eq_true rfl, Nat.le_of_ble_eq_true rfl⟩ ⟨Nat.le_of_ble_eq_true rfl, Nat.le_of_ble_eq_true rfl⟩ (fun r W2 H locs hp G => ?_)
  obtain ⟨rfl, hw⟩ := hp
  have G := g_wc hw G
  refine W.eq (g2 := F0 m 13 ls [.int (bI (inB (nI (sgN tx ln ap)) (48 : Int32) (nI (48 + most))))]) rfl ?_
  refine lv_if_eq (tgt := 26) hx hb dX5_figure_13 (by decide) (fun c_13 => ?_) (fun c_13 => ?_)
  · skip
    have c_13 : (inB (nI (sgN tx ln ap)) (48 : Int32) (nI (48 + most))) = false := bI_f c_13
    have hd : dgOk most (sgN tx ln ap) = false := by rw [← inB_dg (hi := nI (48 + most)) (by omega) h1 rfl]; exact c_13
    refine lv_iconst (v := (-1)) hx hb dX5_figure_26 (by decide) ?_
    refine lv_istore_n (lv' := [(2, .int (-1)), (0, .ref (am 0)), (1, .int (nI most))]) hx hb dX5_figure_27 rfl hl (by decide) rfl (fun ls hl => ?_)
    refine lv_aload_n hx hb dX5_figure_28 rfl (lv_at hl 1 rfl) ?_
    refine lv_dup hx hb dX5_figure_29 rfl ?_
    refine g_get (q0 := 0) (v := .int (nI ap)) C0 G in_X5 rfl rfl 5 (by decide) fl_X5_143 (fun _ h => h) rfl dX5_figure_30 ?_
    refine lv_iload_n hx hb dX5_figure_33 rfl (lv_at hl 0 rfl) ?_
    refine lv_iconst (v := (-1)) hx hb dX5_figure_34 (by decide) ?_
    refine lv_icmp_ne (tgt := 42) hx hb dX5_figure_35 (by decide) (fun c_35 => ?_) (fun c_35 => ?_)
    · exact absurd c_35 (by decide)
    · skip
      refine lv_iconst (v := 0) hx hb dX5_figure_38 (by decide) ?_
      refine lv_goto (tgt := 43) hx hb dX5_figure_39 (by decide) ?_
      refine lv_iadd hx hb dX5_figure_43 ?_
      refine g_topi (x' := nI (ap + 0)) (nI_add ap 0) ?_
      refine g_put (q0 := 0) (W2 := wM am cy th (cS mf mb mv) sv X ln (ap + 0) le fc f1 f2 (B) ha R) C0 G ft_X5 in_X5 rfl rfl 5 (by decide) fl_X5_143 (fun _ h => h) rfl rfl rfl (Nat.le_of_ble_eq_true rfl) rfl dX5_figure_44 (fun H locs G => ?_)
      refine lv_iload_n hx hb dX5_figure_47 rfl (lv_at hl 0 rfl) ?_
      exact g_iret C0 G ⟨by first | (rw [dgI_e hd]; done) | (rw [show dgI most (sgN tx ln ap) = -1 from by unfold dgI; rw [hd]; rfl]; done), by simp only [hd, Bool.false_eq_true, if_true, if_false, Nat.add_zero]⟩ dX5_figure_48
  · skip
    have c_13 : (inB (nI (sgN tx ln ap)) (48 : Int32) (nI (48 + most))) = true := bI_t c_13
    have hd : dgOk most (sgN tx ln ap) = true := by rw [← inB_dg (hi := nI (48 + most)) (by omega) h1 rfl]; exact c_13
    have hdb := dgOk_b hd
    refine lv_aload_n hx hb dX5_figure_16 rfl (lv_at hl 0 rfl) ?_
    refine g_callV (As := []) (rest := []) (q0 := 0) C0 G (c_X5_sign l D cy (am := am) (mf := mf) (mb := mb) (mv := mv) (th := th) (sv := sv) (X := X) (ln := ln) (ap := ap) (le := le) (fc := fc) (f1 := f1) (f2 := f2) (ha := ha) (R := R) (B := B) (tx := tx) (by omega) (by omega) hmx) k_X5_sign ml_X5_146 rfl rfl dX5_figure_17 rfl rfl hl.1 (Nat.le_of_ble_eq_true rfl) ⟨Nat.le_of_ble_eq_true rfl, Nat.le_of_ble_eq_true rfl⟩ ⟨Nat.le_of_ble_eq_true rfl, Nat.le_of_ble_eq_true rfl⟩ (fun r W2 H locs hp G => ?_)
    obtain ⟨rfl, hw⟩ := hp
    have G := g_wc hw G
    refine W.eq (g2 := F0 m 20 ls [.int (nI (sgN tx ln ap))]) rfl ?_
    refine lv_bipush (v := 48) hx hb dX5_figure_20 (by decide) ?_
    refine lv_isub hx hb dX5_figure_22 ?_
    refine g_topi (x' := nI ((sgN tx ln ap) - 48)) (pk_sub (a := sgN tx ln ap) (b := 48) (by omega)) ?_
    refine lv_goto (tgt := 27) hx hb dX5_figure_23 (by decide) ?_
    refine lv_istore_n (lv' := [(2, .int (nI ((sgN tx ln ap) - 48))), (0, .ref (am 0)), (1, .int (nI most))]) hx hb dX5_figure_27 rfl hl (by decide) rfl (fun ls hl => ?_)
    refine lv_aload_n hx hb dX5_figure_28 rfl (lv_at hl 1 rfl) ?_
    refine lv_dup hx hb dX5_figure_29 rfl ?_
    refine g_get (q0 := 0) (v := .int (nI ap)) C0 G in_X5 rfl rfl 5 (by decide) fl_X5_143 (fun _ h => h) rfl dX5_figure_30 ?_
    refine lv_iload_n hx hb dX5_figure_33 rfl (lv_at hl 0 rfl) ?_
    refine lv_iconst (v := (-1)) hx hb dX5_figure_34 (by decide) ?_
    refine lv_icmp_ne (tgt := 42) hx hb dX5_figure_35 (by decide) (fun c_35 => ?_) (fun c_35 => ?_)
    · skip
      refine lv_iconst (v := 1) hx hb dX5_figure_42 (by decide) ?_
      refine lv_iadd hx hb dX5_figure_43 ?_
      refine g_topi (x' := nI (ap + 1)) (nI_add ap 1) ?_
      refine g_put (q0 := 0) (W2 := wM am cy th (cS mf mb mv) sv X ln (ap + 1) le fc f1 f2 (B) ha R) C0 G ft_X5 in_X5 rfl rfl 5 (by decide) fl_X5_143 (fun _ h => h) rfl rfl rfl (Nat.le_of_ble_eq_true rfl) rfl dX5_figure_44 (fun H locs G => ?_)
      refine lv_iload_n hx hb dX5_figure_47 rfl (lv_at hl 0 rfl) ?_
      exact g_iret C0 G ⟨by first | (rw [dgI_e hd]; done) | (rw [show dgI most (sgN tx ln ap) = -1 from by unfold dgI; rw [hd]; rfl]; done), by simp only [hd, Bool.false_eq_true, if_true, if_false, Nat.add_zero]⟩ dX5_figure_48
    · skip
      exact absurd c_35 (nI_nm (by omega))

set_option maxHeartbeats 4000000 in
set_option maxRecDepth 100000 in
theorem c_X5_readsValue (l : Launch) (D : va_G) (cy : Nat → ClassId) (am : Nat → Nat) (mf : Nat → Int64) (mb : Nat → Int64) (mv : Nat → Nat) (th : Int32) (sv : Nat) (X : Nat → Int32) (ln : Nat) (ap : Nat) (le : Nat) (fc : Nat) (f1 : Int32) (f2 : Int32) (ha : Int64) (R : va_W) (B : Nat → Int32) (tx : Nat → Nat) (q : RS) (b0 : Nat) (l0 : Nat) (i0 : Bool) (r0 : Nat) (k0 : Nat) (n0 : Nat) (h1 : ln ≤ 60) (hmx : ∀ j, j < ln → X j = nI (tx j) ∧ tx j < 128) (hQ : rdQ tx q ln b0 ap (5, l0, i0, r0, k0, n0)) (hq : rsOk q) : GE l D (gts cy) yX5_readsValue cX5_readsValue 1 (some .boolean) 2 0 0 [.ref (am 0)] (wM am cy th (cS mf mb mv) sv X ln ap le fc f1 f2 (B) ha R) (fun r W2 => ∃ a2 : Nat, ∃ w2 : Int32, ∃ o2 : Bool, r = some (.int (bI o2)) ∧ W2 = wM am cy th (cS mf mb mv) sv X ln a2 le fc f1 w2 (B) ha R ∧ a2 ≤ ln ∧ (o2 = true → ∃ v : Nat, w2 = nI v ∧ rdQ tx q ln b0 a2 (6, l0, i0, r0, k0, v) ∧ (a2 < ln → rdOk tx q a2 = true → tx a2 = 59) ∧ ap < a2) ∧ (o2 = false → rdF tx q ln a2)) := by
  refine g_intro (by decide +kernel) (lv := [(0, .ref (am 0))]) rfl (Nat.le_of_ble_eq_true rfl) ?_
  intro p e s m below meth c C0 G ls hl
  have hx := C0.1
  have hb := C0.2.1
  have hown := C0.2.2.2.2.2.1
  have hts := C0.2.2.2.2.2.2.1
  have hsg := sg_b (ap := ap) hmx
  have hap := hQ.1
  refine lv_aload_n hx hb dX5_readsValue_0 rfl (lv_at hl 0 rfl) ?_
  refine lv_aload_n hx hb dX5_readsValue_1 rfl (lv_at hl 0 rfl) ?_
  refine lv_bipush (v := 9) hx hb dX5_readsValue_2 (by decide) ?_
  refine g_callV (As := [.int 9]) (rest := [.ref (am 0)]) (q0 := 0) C0 G (c_X5_figure l D cy (am := am) (mf := mf) (mb := mb) (mv := mv) (th := th) (sv := sv) (X := X) (ln := ln) (ap := ap) (le := le) (fc := fc) (f1 := f1) (f2 := f2) (ha := ha) (R := R) (B := B) (most := 9) (tx := tx) (by omega) (by omega) (by omega) hmx) k_X5_figure ml_X5_150 rfl rfl dX5_readsValue_4 rfl rfl hl.1 (Nat.le_of_ble_eq_true rfl) ⟨Nat.le_of_ble_eq_true rfl, Nat.le_of_ble_eq_true rfl⟩ ⟨Nat.le_of_ble_eq_true rfl, Nat.le_of_ble_eq_true rfl⟩ (fun r W2 H locs hp G => ?_)
  obtain ⟨rfl, hw⟩ := hp
  have G := g_wc hw G
  refine W.eq (g2 := F0 m 7 ls [.int (dgI 9 (sgN tx ln ap)), .ref (am 0)]) rfl ?_
  by_cases hd : dgOk 9 (sgN tx ln ap) = true
  · skip
    have hQ1 := q_d hQ hd
    refine g_topi (x' := nI (sgN tx ln ap - 48)) (dgI_e hd) ?_
    have G : gW D (wM am cy th (cS mf mb mv) sv X ln (ap + 1) le fc f1 f2 (B) ha R) (va_A (wM am cy th (cS mf mb mv) sv X ln ap le fc f1 f2 (B) ha R) s.heap.size) s _ _ := g_wc (by rw [if_pos hd]) G
    refine g_put (q0 := 0) (W2 := wM am cy th (cS mf mb mv) sv X ln (ap + 1) le fc f1 (nI (sgN tx ln ap - 48)) (B) ha R) C0 G ft_X5 in_X5 rfl rfl 9 (by decide) fl_X5_153 (fun _ h => h) rfl rfl rfl (Nat.le_of_ble_eq_true rfl) rfl dX5_readsValue_7 (fun H locs G => ?_)
    have hl := lv_sub hl (l' := [(0, .ref (am 0))]) [0] rfl
    refine g_loop (σ := (Nat × Nat)) (fun x => 61 - x.1) (fun x => wM am cy th (cS mf mb mv) sv X ln x.1 le fc f1 (nI x.2) (B) ha R) (fun x => [(0, .ref (am 0))]) (fun x => ap < x.1 ∧ rdQ tx q ln b0 x.1 (6, l0, i0, r0, k0, x.2)) ?_ (ap + 1, sgN tx ln ap - 48) ⟨by show ap < ap + 1; omega, hQ1⟩ G hl
    intro x hi_10 ih_10 H locs ls G hl
    obtain ⟨hlt0, hi_10⟩ := hi_10
    have hxa := hi_10.1
    have hsx := sg_b (ap := x.1) hmx
    have hnu : x.2 < 1000 := by have h9 := rd_ok (fun j hj => (hmx j hj).2) hq x.1 hxa; rw [hi_10.2.2.1] at h9; exact h9.2.2.1
    have G : gW D (wM am cy th (cS mf mb mv) sv X ln x.1 le fc f1 (nI x.2) (B) ha R) (va_A (wM am cy th (cS mf mb mv) sv X ln ap le fc f1 f2 (B) ha R) s.heap.size) s H locs := G
    have hl : lv_has ls 1 [(0, .ref (am 0))] := hl
    refine lv_aload_n hx hb dX5_readsValue_10 rfl (lv_at hl 0 rfl) ?_
    refine g_get (q0 := 0) (v := .int (nI x.2)) C0 G in_X5 rfl rfl 9 (by decide) fl_X5_153 (fun _ h => h) rfl dX5_readsValue_11 ?_
    refine g_topi (x' := nI x.2) rfl ?_
    refine lv_if_le (tgt := 73) hx hb dX5_readsValue_14 (by decide) (fun c_14 => ?_) (fun c_14 => ?_)
    · skip
      have c_14 : x.2 ≤ 0 := (nI_leI (a := x.2) (b := 0) (by omega) (by omega)).mp c_14
      refine lv_aload_n hx hb dX5_readsValue_73 rfl (lv_at hl 0 rfl) ?_
      refine g_get (q0 := 0) (v := .int (nI x.2)) C0 G in_X5 rfl rfl 9 (by decide) fl_X5_153 (fun _ h => h) rfl dX5_readsValue_74 ?_
      refine g_topi (x' := nI x.2) rfl ?_
      refine lv_iconst (v := (-1)) hx hb dX5_readsValue_77 (by decide) ?_
      refine lv_icmp_eq (tgt := 85) hx hb dX5_readsValue_78 (by decide) (fun c_78 => ?_) (fun c_78 => ?_)
      · skip
        exact absurd c_78 (nI_nm (by omega))
      · skip
        refine lv_iconst (v := 1) hx hb dX5_readsValue_81 (by decide) ?_
        refine lv_goto (tgt := 86) hx hb dX5_readsValue_82 (by decide) ?_
        exact g_zret C0 G rfl (by first | exact ⟨x.1, nI x.2, true, rfl, rfl, hxa, fun _ => ⟨x.2, rfl, hi_10, mx_6 hi_10 (fun h9 => by first | exact Or.inl c_14 | exact Or.inr c_49 | exact absurd h9 (by rw [← inB_dg (hi := 57) (by omega) (by decide) rfl, c_28]; decide)), hlt0⟩, (fun h => by cases h)⟩ | exact ⟨ap, -1, false, rfl, rfl, hap, (fun h => by cases h), fun _ => f_5 hQ hd⟩) dX5_readsValue_86
    · skip
      have c_14 : ¬ (x.2 ≤ 0) := fun h => c_14 ((nI_leI (a := x.2) (b := 0) (by omega) (by omega)).mpr h)
      refine lv_aload_n hx hb dX5_readsValue_17 rfl (lv_at hl 0 rfl) ?_
      refine g_callV (As := []) (rest := []) (q0 := 0) C0 G (c_X5_sign l D cy (am := am) (mf := mf) (mb := mb) (mv := mv) (th := th) (sv := sv) (X := X) (ln := ln) (ap := x.1) (le := le) (fc := fc) (f1 := f1) (f2 := (nI x.2)) (ha := ha) (R := R) (B := B) (tx := tx) (by omega) (by omega) hmx) k_X5_sign ml_X5_146 rfl rfl dX5_readsValue_18 rfl rfl hl.1 (Nat.le_of_ble_eq_true rfl) ⟨Nat.le_of_ble_eq_true rfl, Nat.le_of_ble_eq_true rfl⟩ ⟨Nat.le_of_ble_eq_true rfl, Nat.le_of_ble_eq_true rfl⟩ (fun r W2 H locs hp G => ?_)
      obtain ⟨rfl, hw⟩ := hp
      have G := g_wc hw G
      refine W.eq (g2 := F0 m 21 ls [.int (nI (sgN tx ln x.1))]) rfl ?_
      refine lv_bipush (v := 48) hx hb dX5_readsValue_21 (by decide) ?_
      refine lv_bipush (v := 57) hx hb dX5_readsValue_23 (by decide) ?_
      refine g_callS (As := [.int (nI (sgN tx ln x.1)), .int 48, .int 57]) (rest := []) C0 G (c_X5_in l D cy (W1 := wM am cy th (cS mf mb mv) sv X ln x.1 le fc f1 (nI x.2) (B) ha R) (u := nI (sgN tx ln x.1)) (lo := (48 : Int32)) (hi := (57 : Int32)) ) k_X5_in ml_X5_27 dX5_readsValue_25 rfl rfl hl.1 (Nat.le_of_ble_eq_true rfl) ⟨Nat.le_of_ble_eq_true rfl, Nat.le_of_ble_eq_true rfl⟩ ⟨Nat.le_of_ble_eq_true rfl, Nat.le_of_ble_eq_true rfl⟩ (fun r W2 H locs hp G => ?_)
      obtain ⟨rfl, hw⟩ := hp
      have G := g_wc hw G
      refine W.eq (g2 := F0 m 28 ls [.int (bI (inB (nI (sgN tx ln x.1)) (48 : Int32) (57 : Int32)))]) rfl ?_
      refine lv_if_eq (tgt := 73) hx hb dX5_readsValue_28 (by decide) (fun c_28 => ?_) (fun c_28 => ?_)
      · skip
        have c_28 : (inB (nI (sgN tx ln x.1)) (48 : Int32) (57 : Int32)) = false := bI_f c_28
        refine lv_aload_n hx hb dX5_readsValue_73 rfl (lv_at hl 0 rfl) ?_
        refine g_get (q0 := 0) (v := .int (nI x.2)) C0 G in_X5 rfl rfl 9 (by decide) fl_X5_153 (fun _ h => h) rfl dX5_readsValue_74 ?_
        refine g_topi (x' := nI x.2) rfl ?_
        refine lv_iconst (v := (-1)) hx hb dX5_readsValue_77 (by decide) ?_
        refine lv_icmp_eq (tgt := 85) hx hb dX5_readsValue_78 (by decide) (fun c_78 => ?_) (fun c_78 => ?_)
        · skip
          exact absurd c_78 (nI_nm (by omega))
        · skip
          refine lv_iconst (v := 1) hx hb dX5_readsValue_81 (by decide) ?_
          refine lv_goto (tgt := 86) hx hb dX5_readsValue_82 (by decide) ?_
          exact g_zret C0 G rfl (by first | exact ⟨x.1, nI x.2, true, rfl, rfl, hxa, fun _ => ⟨x.2, rfl, hi_10, mx_6 hi_10 (fun h9 => by first | exact Or.inl c_14 | exact Or.inr c_49 | exact absurd h9 (by rw [← inB_dg (hi := 57) (by omega) (by decide) rfl, c_28]; decide)), hlt0⟩, (fun h => by cases h)⟩ | exact ⟨ap, -1, false, rfl, rfl, hap, (fun h => by cases h), fun _ => f_5 hQ hd⟩) dX5_readsValue_86
      · skip
        have c_28 : (inB (nI (sgN tx ln x.1)) (48 : Int32) (57 : Int32)) = true := bI_t c_28
        have hdg : dgOk 9 (sgN tx ln x.1) = true := by rw [← inB_dg (hi := 57) (by omega) (by decide) rfl]; exact c_28
        have hdb := dgOk_b hdg
        refine lv_bipush (v := 10) hx hb dX5_readsValue_31 (by decide) ?_
        refine lv_aload_n hx hb dX5_readsValue_33 rfl (lv_at hl 0 rfl) ?_
        refine g_get (q0 := 0) (v := .int (nI x.2)) C0 G in_X5 rfl rfl 9 (by decide) fl_X5_153 (fun _ h => h) rfl dX5_readsValue_34 ?_
        refine g_topi (x' := nI x.2) rfl ?_
        refine lv_imul hx hb dX5_readsValue_37 ?_
        refine g_topi (x' := nI (10 * x.2)) (pk_mul 10 x.2) ?_
        refine lv_aload_n hx hb dX5_readsValue_38 rfl (lv_at hl 0 rfl) ?_
        refine g_callV (As := []) (rest := [.int (nI (10 * x.2))]) (q0 := 0) C0 G (c_X5_sign l D cy (am := am) (mf := mf) (mb := mb) (mv := mv) (th := th) (sv := sv) (X := X) (ln := ln) (ap := x.1) (le := le) (fc := fc) (f1 := f1) (f2 := (nI x.2)) (ha := ha) (R := R) (B := B) (tx := tx) (by omega) (by omega) hmx) k_X5_sign ml_X5_146 rfl rfl dX5_readsValue_39 rfl rfl hl.1 (Nat.le_of_ble_eq_true rfl) ⟨Nat.le_of_ble_eq_true rfl, Nat.le_of_ble_eq_true rfl⟩ ⟨Nat.le_of_ble_eq_true rfl, Nat.le_of_ble_eq_true rfl⟩ (fun r W2 H locs hp G => ?_)
        obtain ⟨rfl, hw⟩ := hp
        have G := g_wc hw G
        refine W.eq (g2 := F0 m 42 ls [.int (nI (sgN tx ln x.1)), .int (nI (10 * x.2))]) rfl ?_
        refine lv_iadd hx hb dX5_readsValue_42 ?_
        refine g_topi (x' := nI ((10 * x.2) + (sgN tx ln x.1))) (nI_add (10 * x.2) (sgN tx ln x.1)) ?_
        refine lv_bipush (v := 48) hx hb dX5_readsValue_43 (by decide) ?_
        refine lv_isub hx hb dX5_readsValue_45 ?_
        refine g_topi (x' := nI (((10 * x.2) + (sgN tx ln x.1)) - 48)) (pk_sub (a := (10 * x.2) + (sgN tx ln x.1)) (b := 48) (by omega)) ?_
        refine lv_sipush (v := 128) hx hb dX5_readsValue_46 (by decide) ?_
        refine lv_icmp_ge (tgt := 73) hx hb dX5_readsValue_49 (by decide) (fun c_49 => ?_) (fun c_49 => ?_)
        · skip
          have c_49 : 128 ≤ (((10 * x.2) + (sgN tx ln x.1)) - 48) := (nI_leI (a := 128) (b := ((10 * x.2) + (sgN tx ln x.1)) - 48) (by omega) (by omega)).mp c_49
          refine lv_aload_n hx hb dX5_readsValue_73 rfl (lv_at hl 0 rfl) ?_
          refine g_get (q0 := 0) (v := .int (nI x.2)) C0 G in_X5 rfl rfl 9 (by decide) fl_X5_153 (fun _ h => h) rfl dX5_readsValue_74 ?_
          refine g_topi (x' := nI x.2) rfl ?_
          refine lv_iconst (v := (-1)) hx hb dX5_readsValue_77 (by decide) ?_
          refine lv_icmp_eq (tgt := 85) hx hb dX5_readsValue_78 (by decide) (fun c_78 => ?_) (fun c_78 => ?_)
          · skip
            exact absurd c_78 (nI_nm (by omega))
          · skip
            refine lv_iconst (v := 1) hx hb dX5_readsValue_81 (by decide) ?_
            refine lv_goto (tgt := 86) hx hb dX5_readsValue_82 (by decide) ?_
            exact g_zret C0 G rfl (by first | exact ⟨x.1, nI x.2, true, rfl, rfl, hxa, fun _ => ⟨x.2, rfl, hi_10, mx_6 hi_10 (fun h9 => by first | exact Or.inl c_14 | exact Or.inr c_49 | exact absurd h9 (by rw [← inB_dg (hi := 57) (by omega) (by decide) rfl, c_28]; decide)), hlt0⟩, (fun h => by cases h)⟩ | exact ⟨ap, -1, false, rfl, rfl, hap, (fun h => by cases h), fun _ => f_5 hQ hd⟩) dX5_readsValue_86
        · skip
          have c_49 : ¬ (128 ≤ (((10 * x.2) + (sgN tx ln x.1)) - 48)) := fun h => c_49 ((nI_leI (a := 128) (b := ((10 * x.2) + (sgN tx ln x.1)) - 48) (by omega) (by omega)).mpr h)
          refine lv_aload_n hx hb dX5_readsValue_52 rfl (lv_at hl 0 rfl) ?_
          refine lv_bipush (v := 10) hx hb dX5_readsValue_53 (by decide) ?_
          refine lv_aload_n hx hb dX5_readsValue_55 rfl (lv_at hl 0 rfl) ?_
          refine g_get (q0 := 0) (v := .int (nI x.2)) C0 G in_X5 rfl rfl 9 (by decide) fl_X5_153 (fun _ h => h) rfl dX5_readsValue_56 ?_
          refine g_topi (x' := nI x.2) rfl ?_
          refine lv_imul hx hb dX5_readsValue_59 ?_
          refine g_topi (x' := nI (10 * x.2)) (pk_mul 10 x.2) ?_
          refine lv_aload_n hx hb dX5_readsValue_60 rfl (lv_at hl 0 rfl) ?_
          refine lv_bipush (v := 9) hx hb dX5_readsValue_61 (by decide) ?_
          refine g_callV (As := [.int 9]) (rest := [.int (nI (10 * x.2)), .ref (am 0)]) (q0 := 0) C0 G (c_X5_figure l D cy (am := am) (mf := mf) (mb := mb) (mv := mv) (th := th) (sv := sv) (X := X) (ln := ln) (ap := x.1) (le := le) (fc := fc) (f1 := f1) (f2 := (nI x.2)) (ha := ha) (R := R) (B := B) (most := 9) (tx := tx) (by omega) (by omega) (by omega) hmx) k_X5_figure ml_X5_150 rfl rfl dX5_readsValue_63 rfl rfl hl.1 (Nat.le_of_ble_eq_true rfl) ⟨Nat.le_of_ble_eq_true rfl, Nat.le_of_ble_eq_true rfl⟩ ⟨Nat.le_of_ble_eq_true rfl, Nat.le_of_ble_eq_true rfl⟩ (fun r W2 H locs hp G => ?_)
          obtain ⟨rfl, hw⟩ := hp
          have G := g_wc hw G
          refine W.eq (g2 := F0 m 66 ls [.int (dgI 9 (sgN tx ln x.1)), .int (nI (10 * x.2)), .ref (am 0)]) rfl ?_
          refine lv_iadd hx hb dX5_readsValue_66 ?_
          refine g_topi (x' := nI (10 * x.2 + (sgN tx ln x.1 - 48))) (by rw [dgI_e hdg, nI_add]) ?_
          refine g_put (q0 := 0) (W2 := wM am cy th (cS mf mb mv) sv X ln (if dgOk 9 (sgN tx ln x.1) = true then x.1 + 1 else x.1) le fc f1 (nI (10 * x.2 + (sgN tx ln x.1 - 48))) (B) ha R) C0 G ft_X5 in_X5 rfl rfl 9 (by decide) fl_X5_153 (fun _ h => h) rfl rfl rfl (Nat.le_of_ble_eq_true rfl) rfl dX5_readsValue_67 (fun H locs G => ?_)
          refine lv_goto (tgt := 10) hx hb dX5_readsValue_70 (by decide) ?_
          have hl := lv_sub hl (l' := _) [0] rfl
          exact ih_10 (x.1 + 1, 10 * x.2 + (sgN tx ln x.1 - 48)) ⟨by show ap < x.1 + 1; omega, q_m hi_10 hdg c_14 c_49⟩ (by show 61 - (x.1 + 1) < 61 - x.1; omega) _ _ _ (g_wc (by rw [if_pos hdg]) G) hl
  · skip
    have hd : dgOk 9 (sgN tx ln ap) = false := by simpa using hd
    refine g_topi (x' := (-1)) (by unfold dgI; rw [hd]; rfl) ?_
    have G : gW D (wM am cy th (cS mf mb mv) sv X ln ap le fc f1 f2 (B) ha R) (va_A (wM am cy th (cS mf mb mv) sv X ln ap le fc f1 f2 (B) ha R) s.heap.size) s _ _ := g_wc (by rw [hd]; rfl) G
    refine g_put (q0 := 0) (W2 := wM am cy th (cS mf mb mv) sv X ln ap le fc f1 (-1) (B) ha R) C0 G ft_X5 in_X5 rfl rfl 9 (by decide) fl_X5_153 (fun _ h => h) rfl rfl rfl (Nat.le_of_ble_eq_true rfl) rfl dX5_readsValue_7 (fun H locs G => ?_)
    refine lv_aload_n hx hb dX5_readsValue_10 rfl (lv_at hl 0 rfl) ?_
    refine g_get (q0 := 0) (v := .int (-1)) C0 G in_X5 rfl rfl 9 (by decide) fl_X5_153 (fun _ h => h) rfl dX5_readsValue_11 ?_
    refine g_topi (x' := (-1)) rfl ?_
    refine lv_if_le (tgt := 73) hx hb dX5_readsValue_14 (by decide) (fun c_14 => ?_) (fun c_14 => ?_)
    · skip
      refine lv_aload_n hx hb dX5_readsValue_73 rfl (lv_at hl 0 rfl) ?_
      refine g_get (q0 := 0) (v := .int (-1)) C0 G in_X5 rfl rfl 9 (by decide) fl_X5_153 (fun _ h => h) rfl dX5_readsValue_74 ?_
      refine g_topi (x' := (-1)) rfl ?_
      refine lv_iconst (v := (-1)) hx hb dX5_readsValue_77 (by decide) ?_
      refine lv_icmp_eq (tgt := 85) hx hb dX5_readsValue_78 (by decide) (fun c_78 => ?_) (fun c_78 => ?_)
      · skip
        refine lv_iconst (v := 0) hx hb dX5_readsValue_85 (by decide) ?_
        exact g_zret C0 G rfl (by first | exact ⟨x.1, nI x.2, true, rfl, rfl, hxa, fun _ => ⟨x.2, rfl, hi_10, mx_6 hi_10 (fun h9 => by first | exact Or.inl c_14 | exact Or.inr c_49 | exact absurd h9 (by rw [← inB_dg (hi := 57) (by omega) (by decide) rfl, c_28]; decide)), hlt0⟩, (fun h => by cases h)⟩ | exact ⟨ap, -1, false, rfl, rfl, hap, (fun h => by cases h), fun _ => f_5 hQ hd⟩) dX5_readsValue_86
      · exact absurd c_78 (by decide)
    · exact absurd c_14 (by decide)
