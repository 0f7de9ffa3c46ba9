/-! the world of the reference: its cells' kinds and views by the same words as the class's cards (21 of them: 0 to 2 the cards, 3 on the saved ones); its told bits by two words -/
def cS (mf mb : Nat → Int64) (mv : Nat → Nat) : Nat → Int32 := fun p => if p % 65 = 0 then nI (mv (p / 65)) else kdI (mf (p / 65)) (mb (p / 65)) (p % 65 - 1)
def biF (kn on : Int64) : Nat → Int32 := fun k => biI kn on k
theorem cS_cell {mf mb : Nat → Int64} {mv : Nat → Nat} {z k : Nat} (hk : k < 64) : cS mf mb mv (65 * z + 1 + k) = kdI (mf z) (mb z) k := by
  unfold cS
  have h1 : (65 * z + 1 + k) % 65 = k + 1 := by omega
  have h2 : (65 * z + 1 + k) / 65 = z := by omega
  rw [h1, h2, if_neg (by omega)]; rfl
theorem cS_view {mf mb : Nat → Int64} {mv : Nat → Nat} {z : Nat} : cS mf mb mv (65 * z) = nI (mv z) := by
  unfold cS
  have h1 : (65 * z) % 65 = 0 := by omega
  have h2 : (65 * z) / 65 = z := by omega
  rw [h1, h2, if_pos rfl]
/-- a cell's kind q, put into the two words -/
def skF (f : Int64) (k q : Nat) : Int64 := if q = 1 ∨ q = 3 then f ||| bitM k else f &&& (bitM k ^^^ (-1))
def skB (b : Int64) (k q : Nat) : Int64 := if q = 0 ∨ q = 3 then b ||| bitM k else b &&& (bitM k ^^^ (-1))
theorem tb_set {w : Int64} {k j : Nat} (hk : k < 64) (hj : j < 64) : tb (w ||| bitM k) j = (tb w j || decide (j = k)) := by rw [tb_or, tb_bit k hk j hj]
theorem tb_clr {w : Int64} {k j : Nat} (hk : k < 64) (hj : j < 64) : tb (w &&& (bitM k ^^^ (-1))) j = (tb w j && !decide (j = k)) := by rw [tb_and, tb_not hj, tb_bit k hk j hj]
theorem skF_at {f : Int64} {k q j : Nat} (hk : k < 64) (hj : j < 64) : tb (skF f k q) j = if j = k then decide (q = 1 ∨ q = 3) else tb f j := by
  unfold skF
  by_cases h : q = 1 ∨ q = 3
  · rw [if_pos h, tb_set hk hj, decide_eq_true h]; by_cases e : j = k <;> simp [e]
  · rw [if_neg h, tb_clr hk hj, decide_eq_false h]; by_cases e : j = k <;> simp [e]
theorem skB_at {b : Int64} {k q j : Nat} (hk : k < 64) (hj : j < 64) : tb (skB b k q) j = if j = k then decide (q = 0 ∨ q = 3) else tb b j := by
  unfold skB
  by_cases h : q = 0 ∨ q = 3
  · rw [if_pos h, tb_set hk hj, decide_eq_true h]; by_cases e : j = k <;> simp [e]
  · rw [if_neg h, tb_clr hk hj, decide_eq_false h]; by_cases e : j = k <;> simp [e]
theorem kd_sk {f b : Int64} {k q j : Nat} (hk : k < 64) (hj : j < 64) (hq : q < 4) : kdI (skF f k q) (skB b k q) j = if j = k then nI q else kdI f b j := by
  unfold kdI
  rw [skF_at hk hj, skB_at hk hj]
  by_cases e : j = k
  · simp only [e, if_true]
    rcases (show q = 0 ∨ q = 1 ∨ q = 2 ∨ q = 3 by omega) with rfl | rfl | rfl | rfl <;> rfl
  · simp only [e, if_false]
theorem cS_lay {mf mb : Nat → Int64} {mv : Nat → Nat} {z k q : Nat} (hk : k < 64) (hq : q < 4) : ∀ p, upd (cS mf mb mv) (65 * z + 1 + k) (nI q) p = cS (va_up mf z (skF (mf z) k q)) (va_up mb z (skB (mb z) k q)) mv p := by
  intro p
  by_cases hp : p = 65 * z + 1 + k
  · subst hp
    rw [show upd (cS mf mb mv) (65 * z + 1 + k) (nI q) (65 * z + 1 + k) = nI q from if_pos rfl, cS_cell hk, va_up_e, va_up_e, kd_sk hk hk hq, if_pos rfl]
  · rw [show upd (cS mf mb mv) (65 * z + 1 + k) (nI q) p = cS mf mb mv p from if_neg hp]
    unfold cS
    by_cases h0 : p % 65 = 0
    · rw [if_pos h0, if_pos h0]
    · rw [if_neg h0, if_neg h0]
      by_cases hz : p / 65 = z
      · rw [hz, va_up_e, va_up_e, kd_sk hk (by omega) hq, if_neg (by omega)]
      · rw [va_up_n _ _ hz, va_up_n _ _ hz]
theorem cS_put {mf mb : Nat → Int64} {mv : Nat → Nat} {z v : Nat} : ∀ p, upd (cS mf mb mv) (65 * z) (nI v) p = cS mf mb (va_up mv z v) p := by
  intro p
  by_cases hp : p = 65 * z
  · subst hp
    rw [show upd (cS mf mb mv) (65 * z) (nI v) (65 * z) = nI v from if_pos rfl, cS_view, va_up_e]
  · rw [show upd (cS mf mb mv) (65 * z) (nI v) p = cS mf mb mv p from if_neg hp]
    unfold cS
    by_cases h0 : p % 65 = 0
    · rw [if_pos h0, if_pos h0, va_up_n _ _ (by omega)]
    · rw [if_neg h0, if_neg h0]
theorem arrV_cong {cA : ClassId} {n : Nat} {f g : Nat → Value} (h : ∀ j, j < n → f j = g j) : arrV cA n f = arrV cA n g := by
  unfold arrV
  congr 1
  apply Array.ext
  · simp
  · intro i h1 h2
    simp at h1 h2 ⊢
    exact h i h1
section WM
variable {am : Nat → Nat} {cy : Nat → ClassId} {th : Int32} {S S' : Nat → Int32} {sv : Nat} {X : Nat → Int32} {ln ap le fc : Nat} {f1 f2 : Int32} {B B' : Nat → Int32} {ha : Int64} {R : va_W} {D : va_G} {A : Nat → Prop} {s : State} {H : Heap} {locs : List Loc}
theorem gW_set {W : va_W} {i : Nat} {a n : Nat} {cA : ClassId} {f g : Nat → Int32} (hi : W[i]? = some (a, .inl (cA, n, .inl f))) (h : ∀ j, j < n → f j = g j) (G : gW D W A s H locs) : gW D (W.set i (a, .inl (cA, n, .inl g))) A s H locs := by
  have key : ∀ (k : Nat) (q : Nat × va_E), (W.set i (a, .inl (cA, n, .inl g)))[k]? = some q → ∃ q' : Nat × va_E, W[k]? = some q' ∧ q'.1 = q.1 ∧ (va_at D vwCl q' H → va_at D vwCl q H) := by
    intro k q hk
    by_cases e : i = k
    · subst e
      have hl : i < W.length := (List.getElem?_eq_some_iff.mp hi).1
      rw [List.getElem?_set_self hl] at hk
      cases hk
      refine ⟨_, hi, rfl, fun h0 => ?_⟩
      show H[a]? = some (vp_cell cA (n, .inl g))
      rw [vp_cell_i, ← arrV_cong (f := fun j => .int (f j)) (fun j hj => by rw [h j hj])]
      exact h0
    · rw [List.getElem?_set_ne e] at hk
      exact ⟨q, hk, rfl, id⟩
  refine ⟨fun k q hk => ?_, ⟨fun k1 k2 q1 q2 h1 h2 he => ?_, fun k q hk => ?_⟩, G.2.2⟩
  · obtain ⟨q', h1, -, h3⟩ := key k q hk
    exact h3 (G.1 k q' h1)
  · obtain ⟨p1, a1, b1, -⟩ := key k1 q1 h1
    obtain ⟨p2, a2, b2, -⟩ := key k2 q2 h2
    exact G.2.1.1 k1 k2 p1 p2 a1 a2 (by rw [b1, b2]; exact he)
  · obtain ⟨p1, a1, b1, -⟩ := key k q hk
    rw [← b1]
    exact G.2.1.2 k p1 a1
theorem wM_S (h : ∀ p, p < 1365 → S p = S' p) (G : gW D (wM am cy th S sv X ln ap le fc f1 f2 B ha R) A s H locs) : gW D (wM am cy th S' sv X ln ap le fc f1 f2 B ha R) A s H locs :=
  gW_set (i := 1) (W := wM am cy th S sv X ln ap le fc f1 f2 B ha R) (f := S) (g := S') rfl h G
theorem wM_B (h : ∀ p, p < 64 → B p = B' p) (G : gW D (wM am cy th S sv X ln ap le fc f1 f2 B ha R) A s H locs) : gW D (wM am cy th S sv X ln ap le fc f1 f2 B' ha R) A s H locs :=
  gW_set (i := 3) (W := wM am cy th S sv X ln ap le fc f1 f2 B ha R) (f := B) (g := B') rfl h G
theorem wM_X {X' : Nat → Int32} (h : ∀ p, p < 60 → X p = X' p) (G : gW D (wM am cy th S sv X ln ap le fc f1 f2 B ha R) A s H locs) : gW D (wM am cy th S sv X' ln ap le fc f1 f2 B ha R) A s H locs :=
  gW_set (i := 2) (W := wM am cy th S sv X ln ap le fc f1 f2 B ha R) (f := X) (g := X') rfl h G
end WM
