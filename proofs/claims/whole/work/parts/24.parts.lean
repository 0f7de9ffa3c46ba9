/-- what the reader's state knows of its part -/
def riOk (q : RS) : Prop := rsOk q ∧ (q.1 = 1 → q.2.1 = 119 ∨ q.2.1 = 120) ∧ (q.1 = 2 → q.2.1 = 112 ∨ q.2.1 = 119 ∨ q.2.1 = 120) ∧ (q.1 = 3 → q.2.1 = 119 ∨ q.2.1 = 120) ∧ (q.1 = 4 ∨ q.1 = 5 ∨ q.1 = 6 → q.2.1 = 112 ∧ q.2.2.2.1 < 7) ∧ (q.1 = 6 → q.2.2.2.2.2 < 128) ∧ (q.1 = 7 → q.2.1 = 118) ∧ (q.1 = 8 → q.2.1 ≠ 112)
theorem moR_b (lt : Nat) : moR lt ≤ 7 ∧ (lt = 112 → moR lt = 6) := by unfold moR; split <;> omega
theorem ri_step {s : Nat} {q : RS} (hs : s < 128) (h : riOk q) : riOk (tkS s q) := by
  obtain ⟨h0, h1, h2, h3, h4, h6, h7, h8⟩ := h
  refine ⟨tk_ok hs h0, ?_⟩
  have h9 := h0.1
  obtain ⟨sp, lt, ib, rw, cl, nu⟩ := q
  simp only [] at h1 h2 h3 h4 h6 h7 h8 h9
  simp only [tkS]
  have hsp : sp = 0 ∨ sp = 1 ∨ sp = 2 ∨ sp = 3 ∨ sp = 4 ∨ sp = 5 ∨ sp = 6 ∨ sp = 7 ∨ sp = 8 := by omega
  have hm := moR_b lt
  rcases hsp with rfl | rfl | rfl | rfl | rfl | rfl | rfl | rfl | rfl
  all_goals simp only [tkSp, tkLt, tkRw, tkNu, ltSp, Nat.reduceEqDiff, ↓reduceIte]
  · repeat' split
    all_goals (refine ⟨?_, ?_, ?_, ?_, ?_, ?_, ?_⟩ <;> omega)
  · split <;> (refine ⟨?_, ?_, ?_, ?_, ?_, ?_, ?_⟩ <;> omega)
  · split
    · rename_i hd; have hd := dgOk_b hd
      split <;> (refine ⟨?_, ?_, ?_, ?_, ?_, ?_, ?_⟩ <;> omega)
    · refine ⟨?_, ?_, ?_, ?_, ?_, ?_, ?_⟩ <;> omega
  · split <;> (refine ⟨?_, ?_, ?_, ?_, ?_, ?_, ?_⟩ <;> omega)
  · split <;> (refine ⟨?_, ?_, ?_, ?_, ?_, ?_, ?_⟩ <;> omega)
  · split
    · rename_i hd; have hd := dgOk_b hd
      refine ⟨?_, ?_, ?_, ?_, ?_, ?_, ?_⟩ <;> omega
    · refine ⟨?_, ?_, ?_, ?_, ?_, ?_, ?_⟩ <;> omega
  · by_cases hmv : mvA s nu = true
    · have hb := mvA_b hmv
      simp only [hmv, ↓reduceIte]
      repeat' split
      all_goals (refine ⟨?_, ?_, ?_, ?_, ?_, ?_, ?_⟩ <;> omega)
    · rw [if_neg hmv]
      repeat' split
      all_goals (refine ⟨?_, ?_, ?_, ?_, ?_, ?_, ?_⟩ <;> omega)
  · split <;> (refine ⟨?_, ?_, ?_, ?_, ?_, ?_, ?_⟩ <;> omega)
  · split <;> (refine ⟨?_, ?_, ?_, ?_, ?_, ?_, ?_⟩ <;> omega)
theorem ri_0 {q : RS} (h : rsOk q) (h0 : q.1 = 0) : riOk q := by
  refine ⟨h, ?_, ?_, ?_, ?_, ?_, ?_, ?_⟩ <;> omega
theorem ri_at {tx : Nat → Nat} {q : RS} {n : Nat} (htx : ∀ j, j < n → tx j < 128) (h : riOk q) : ∀ i, i ≤ n → riOk (rdS tx q i)
  | 0, _ => h
  | i + 1, hi => ri_step (htx i (by omega)) (ri_at htx h i (by omega))
theorem tk_59 {sp lt nu : Nat} (hs : sp < 9) (h : tkOk 59 sp lt nu = true) : sp = 6 ∨ sp = 8 := by
  have hsp : sp = 0 ∨ sp = 1 ∨ sp = 2 ∨ sp = 3 ∨ sp = 4 ∨ sp = 5 ∨ sp = 6 ∨ sp = 7 ∨ sp = 8 := by omega
  have hm := moR_b lt
  rcases hsp with rfl | rfl | rfl | rfl | rfl | rfl | rfl | rfl | rfl
  all_goals simp only [tkOk, Nat.reduceEqDiff, ↓reduceIte] at h
  · exact absurd h (by decide)
  · exact absurd h (by decide)
  · have := dgOk_b h; omega
  · have := dgOk_b h; omega
  · exact absurd h (by decide)
  · have := dgOk_b h; omega
  · omega
  · have := dgOk_b h; omega
  · omega
/-- a part's end, as tryPart wants the reader -/
theorem ri_part {q : RS} (h : riOk q) (he : q.1 = 6 ∨ q.1 = 8) : (q.2.1 = 112 → q.2.2.2.1 < 7 ∧ q.2.2.2.2.2 < 128) ∧ 8 * q.2.2.2.1 + q.2.2.2.2.1 < 64 ∧ q.2.1 < 65536 := by
  obtain ⟨⟨a1, a2, a3, a4, a5⟩, h1, h2, h3, h4, h6, h7, h8⟩ := h
  refine ⟨fun hl => ?_, by omega, a2⟩
  rcases he with he | he
  · exact ⟨(h4 (Or.inr (Or.inr he))).2, h6 he⟩
  · exact absurd hl (h8 he)
abbrev DP : Type := Int64 × Int64 × Nat × Nat × Bool × Nat
def dpB (tx : Nat → Nat) (tn j : Nat) : Bool := decide (tn ≤ j + 1) || decide (tx (j + 1) = 59)
def dpU (d : DP) (u : RS) (j : Nat) : DP := (tpF d.1 d.2.1 u.2.1 u.2.2.1 u.2.2.2.1 u.2.2.2.2.1 u.2.2.2.2.2, tpB d.1 d.2.1 u.2.1 u.2.2.1 u.2.2.2.1 u.2.2.2.2.1 u.2.2.2.2.2, tpV d.2.2.1 u.2.1 u.2.2.2.2.2,
  (if tpO d.1 d.2.1 u.2.1 u.2.2.1 u.2.2.2.1 u.2.2.2.2.1 then d.2.2.2.1 + 1 else d.2.2.2.1), !tpO d.1 d.2.1 u.2.1 u.2.2.1 u.2.2.2.1 u.2.2.2.2.1, j + 1)
def dpS (tx : Nat → Nat) (q : RS) (tn : Nat) (f b : Int64) (v : Nat) : Nat → DP
  | 0 => (f, b, v, 0, false, 0)
  | j + 1 => if (dpS tx q tn f b v j).2.2.2.2.1 = true then dpS tx q tn f b v j
    else if dpB tx tn j = true then dpU (dpS tx q tn f b v j) (rdS tx q (j + 1)) j
    else ((dpS tx q tn f b v j).1, (dpS tx q tn f b v j).2.1, (dpS tx q tn f b v j).2.2.1, (dpS tx q tn f b v j).2.2.2.1, false, j + 1)
theorem dp_u {tx : Nat → Nat} {q : RS} {tn : Nat} {f b : Int64} {v j : Nat} (h : (dpS tx q tn f b v j).2.2.2.2.1 = false) (hb : dpB tx tn j = true) : dpS tx q tn f b v (j + 1) = dpU (dpS tx q tn f b v j) (rdS tx q (j + 1)) j := by
  show (if _ then _ else if _ then _ else _) = _
  rw [if_neg (by rw [h]; decide), if_pos hb]
theorem dp_n {tx : Nat → Nat} {q : RS} {tn : Nat} {f b : Int64} {v j : Nat} (h : (dpS tx q tn f b v j).2.2.2.2.1 = false) (hb : dpB tx tn j = false) : dpS tx q tn f b v (j + 1) = ((dpS tx q tn f b v j).1, (dpS tx q tn f b v j).2.1, (dpS tx q tn f b v j).2.2.1, (dpS tx q tn f b v j).2.2.2.1, false, j + 1) := by
  show (if _ then _ else if _ then _ else _) = _
  rw [if_neg (by rw [h]; decide), if_neg (by rw [hb]; decide)]
theorem dp_stop {tx : Nat → Nat} {q : RS} {tn : Nat} {f b : Int64} {v j : Nat} (h : (dpS tx q tn f b v j).2.2.2.2.1 = true) : ∀ d, dpS tx q tn f b v (j + d) = dpS tx q tn f b v j
  | 0 => rfl
  | d + 1 => by
    show (if (dpS tx q tn f b v (j + d)).2.2.2.2.1 = true then dpS tx q tn f b v (j + d) else _) = _
    rw [dp_stop h d, if_pos h]
