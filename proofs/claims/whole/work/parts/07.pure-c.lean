/-! the reader of work texts -/
def dgOk (most s : Nat) : Bool := decide (48 ≤ s) && decide (s ≤ 48 + most)
def dgI (most s : Nat) : Int32 := if dgOk most s then nI (s - 48) else -1
theorem dg_ge {s : Nat} (hs : s < 65536) (h : ¬ nI s - 48 < 0) : 48 ≤ s := by
  rcases Nat.lt_or_ge s 48 with h1 | h1
  · exact absurd (pk_sneg (a := s) (b := 48) (by omega) h1) h
  · exact h1
theorem dg_lt {s : Nat} (hs : s < 65536) (h : nI s - 48 < 0) : s < 48 := by
  rcases Nat.lt_or_ge s 48 with h1 | h1
  · exact h1
  · rw [show nI s - 48 = nI (s - 48) from pk_sub h1] at h
    exact absurd h (nI_pos (by omega))
theorem dgI_y {most s : Nat} (hs : s < 65536) (h : ¬ dgI most s = -1) : dgOk most s = true := by
  cases hh : dgOk most s
  · exact absurd (by unfold dgI; rw [hh]; rfl) h
  · rfl
theorem dgI_n {most s : Nat} (hs : s < 65536) (h : dgI most s = -1) : dgOk most s = false := by
  cases hh : dgOk most s
  · rfl
  · unfold dgI at h
    rw [hh, if_pos rfl] at h
    have h2 := congrArg Int32.toInt h
    rw [nI_toInt (by omega)] at h2
    exact absurd h2 (by show ¬ ((s - 48 : Nat) : Int) = -1; omega)
theorem dgI_e {most s : Nat} (h : dgOk most s = true) : dgI most s = nI (s - 48) := by unfold dgI; rw [h, if_pos rfl]
theorem dgOk_b {most s : Nat} (h : dgOk most s = true) : 48 ≤ s ∧ s ≤ 48 + most := by simpa [dgOk] using h
def isP (lt : Nat) : Bool := decide (lt = 112)
def moR (lt : Nat) : Nat := if lt = 112 then 6 else 7
def ltSp (s sp : Nat) : Nat := if s = 99 then 8 else if s = 112 then 2 else if s = 118 then 7 else if s = 119 then 1 else if s = 120 then 1 else sp
def ltOk (s : Nat) : Bool := decide (s = 99) || decide (s = 112) || decide (s = 118) || decide (s = 119) || decide (s = 120)
def fcOk (s : Nat) : Bool := decide (s = 102) || decide (s = 98)
def mvA (s nu : Nat) : Bool := dgOk 9 s && !(decide (nu = 0) || decide (127 < 10 * nu + (s - 48)))
def mvOk (s nu : Nat) : Bool := if dgOk 9 s then mvA s nu else decide (s = 59)
def tkOk (s sp lt nu : Nat) : Bool := if sp = 0 then ltOk s else if sp = 1 then fcOk s else if sp = 2 then dgOk (moR lt) s else if sp = 3 then dgOk 7 s else if sp = 4 then decide (s = 61) else if sp = 5 then dgOk 9 s else if sp = 6 then mvOk s nu else if sp = 7 then dgOk 3 s else decide (s = 59)
def tkSp (s sp lt nu : Nat) : Nat := if sp = 0 then ltSp s sp else if sp = 1 then (if fcOk s then 2 else sp) else if sp = 2 then (if dgOk (moR lt) s then (if lt = 112 then 4 else 3) else sp) else if sp = 3 then (if dgOk 7 s then 8 else sp) else if sp = 4 then (if s = 61 then 5 else sp) else if sp = 5 then (if dgOk 9 s then 6 else sp) else if sp = 6 then (if dgOk 9 s then sp else if s = 59 then 0 else sp) else if sp = 7 then (if dgOk 3 s then 8 else sp) else (if s = 59 then 0 else sp)
def tkLt (s sp lt : Nat) : Nat := if sp = 0 then s else lt
def tkIb (s sp : Nat) (ib : Bool) : Bool := if sp = 1 then (if fcOk s then decide (s = 98) else ib) else ib
def tkRw (s sp lt rw : Nat) : Nat := if sp = 2 then (if dgOk (moR lt) s then s - 48 else rw) else rw
def tkCl (s sp cl : Nat) : Nat := if sp = 3 then (if dgOk 7 s then s - 48 else cl) else cl
def tkNu (s sp nu : Nat) : Nat := if sp = 5 then (if dgOk 9 s then s - 48 else nu) else if sp = 6 then (if mvA s nu then 10 * nu + (s - 48) else nu) else if sp = 7 then (if dgOk 3 s then s - 48 else nu) else nu
