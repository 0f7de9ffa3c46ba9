/-! what the methods of Card and Telling answer -/
theorem s_l : ∀ n, n < 32 → ((nI n &&& 31).toBitVec.smod 32).toNat = n := by decide +kernel
theorem shrN {a n : Nat} (ha : a < 2 ^ 31) (hn : n < 32) : nI a >>> (nI n &&& 31) = nI (a / 2 ^ n) := pk_shrN ha _ n (s_l n hn)
def prF (f : Int64) (r v : Nat) : Nat → Int64
  | 0 => f
  | i + 1 => pbF (prF f r v i) (8 * r + i) (v / 2 ^ (6 - i) % 2)
def prB (b : Int64) (r v : Nat) : Nat → Int64
  | 0 => b
  | i + 1 => pbB (prB b r v i) (8 * r + i) (v / 2 ^ (6 - i) % 2)
def pwF (f : Int64) (r v : Nat) : Int64 := pbF (prF f r v 7) (8 * r + 7) (pc7 v % 2)
def pwB (b : Int64) (r v : Nat) : Int64 := pbB (prB b r v 7) (8 * r + 7) (pc7 v % 2)
theorem pc7_le (v : Nat) : pc7 v ≤ 7 := cnt_le _ 7
def ccB (f b : Int64) : Bool := decide (sdW f b ||| rowM 7 = -1) && decide (blW f b &&& rowM 7 = rowM 7)
def pkF (ch f : Int64) : Nat → Int64
  | 0 => f
  | i + 1 => pbF (pkF ch f i) (8 * 7 + i) (if od (ch &&& colM i) then 1 else 0)
def pkB (ch b : Int64) : Nat → Int64
  | 0 => b
  | i + 1 => pbB (pkB ch b i) (8 * 7 + i) (if od (ch &&& colM i) then 1 else 0)
def ckW (f b : Int64) : Int64 := onW f b &&& (rowM 7 ^^^ (-1))
def clF (f b : Int64) : Int64 := pkF (ckW f b) f 8
def clB (f b : Int64) : Int64 := pkB (ckW f b) b 8
def sbB (v : Nat) : Bool := decide (2 ≤ v)
def scN (v row col : Nat) : Nat := 8 * (if v = 1 ∨ v = 3 then 7 - row else row) + (if v = 1 ∨ v = 2 then 7 - col else col)
theorem scN_lt {v row col : Nat} (h1 : row < 8) (h2 : col < 8) : scN v row col < 64 := by unfold scN; split <;> split <;> omega
def shB1 (f b : Int64) (v row col : Nat) : Bool := hoB f b (sbB v) (scN v row col)
def rwN (f b : Int64) (v row : Nat) : Nat → Nat
  | 0 => 0
  | c + 1 => 2 * rwN f b v row c + (if shB1 f b v row c then 1 else 0)
-- Telling
def msW (w kn : Int64) : Int64 := w &&& (kn ^^^ (-1))
def tlK (w kn : Int64) : Int64 := if pc (msW w kn) = 1 then kn ||| msW w kn else kn
def tlO (w kn on : Int64) : Int64 := if pc (msW w kn) = 1 then (if od (w &&& on) then on ||| msW w kn else on) else on
def tl (w : Int64) (s : Int64 × Int64) : Int64 × Int64 := (tlK w s.1, tlO w s.1 s.2)
def rowsS (s : Int64 × Int64) : Nat → Int64 × Int64
  | 0 => s
  | r + 1 => tl (rowM r) (rowsS s r)
def colsS (s : Int64 × Int64) : Nat → Int64 × Int64
  | 0 => s
  | r + 1 => tl (colM r) (colsS s r)
def rd (s : Int64 × Int64) : Int64 × Int64 := colsS (rowsS s 8) 8
def rdn (s : Int64 × Int64) : Nat → Int64 × Int64
  | 0 => s
  | n + 1 => rd (rdn s n)
def fa (sd so : Int64) : Int64 × Int64 := rdn (sd, so) 65
def biI (kn on : Int64) (k : Nat) : Int32 := if tb kn k then (if tb on k then 1 else 0) else -1
def lineM (line : Nat) : Int64 := if line < 8 then rowM line else colM (line - 8)
def dgB (kn on : Int64) (line : Nat) : Bool := decide (lineM line &&& (kn ^^^ (-1)) = 0) && od (lineM line &&& on)
def dlS (P : Nat → Bool) (idx : Nat) : Nat → Option Nat
  | 0 => none
  | n + 1 => match dlS P idx n with
    | some j => some j
    | none => if P n && decide (cnt P n = idx) then some n else none
def dlI (P : Nat → Bool) (idx : Nat) : Int32 := match dlS P idx 16 with
  | some j => nI j
  | none => -1
theorem dlS_keep {P : Nat → Bool} {idx j : Nat} : ∀ {n k : Nat}, n ≤ k → dlS P idx n = some j → dlS P idx k = some j
  | n, 0, h, e => by have : n = 0 := by omega
                     subst this; exact e
  | n, k + 1, h, e => by
    by_cases hk : n = k + 1
    · subst hk; exact e
    · have := dlS_keep (n := n) (k := k) (by omega) e
      simp only [dlS, this]
theorem dl_hit {P : Nat → Bool} {idx i : Nat} (h0 : dlS P idx i = none) (h1 : P i = true) (h2 : cnt P i = idx) (hi : i < 16) : dlI P idx = nI i := by
  have h : dlS P idx (i + 1) = some i := by simp only [dlS, h0, h1, h2]; simp
  unfold dlI
  rw [dlS_keep (show i + 1 ≤ 16 by omega) h]
theorem dl_none {P : Nat → Bool} {idx : Nat} (h0 : dlS P idx 16 = none) : dlI P idx = -1 := by
  unfold dlI
  rw [h0]
theorem lineM_lo {line : Nat} (h : line < 8) : lineM line = rowM line := if_pos h
theorem lineM_hi {line : Nat} (h : 8 ≤ line) : lineM line = colM (line - 8) := if_neg (by omega)
theorem dl_no {P : Nat → Bool} {idx i : Nat} (h0 : dlS P idx i = none) (h1 : ¬ (P i = true ∧ cnt P i = idx)) : dlS P idx (i + 1) = none := by
  simp only [dlS, h0]
  rw [if_neg]
  simpa using h1
theorem or_grow {x m : Int64} (h : x ||| m = x) (hm : ∀ k, k < 64 → tb x k = true → tb m k = false) : m = 0 := by
  apply tb_ext
  intro k hk
  have h1 := congrArg (fun z => tb z k) h
  simp only [tb_or] at h1
  have h2 := hm k hk
  rw [tb_0]
  cases hx : tb x k <;> cases hmm : tb m k <;> simp_all
theorem pc_0 : pc 0 = 0 := by decide +kernel
theorem ms_off {w kn : Int64} : ∀ k, k < 64 → tb kn k = true → tb (msW w kn) k = false := by
  intro k hk h
  unfold msW
  rw [tb_and, tb_not hk, h]; simp
theorem tlK_ge (w kn : Int64) (k : Nat) (h : tb kn k = true) : tb (tlK w kn) k = true := by
  unfold tlK; split
  · rw [tb_or, h]; rfl
  · exact h
theorem tl_same {w : Int64} {s : Int64 × Int64} (h : (tl w s).1 = s.1) : tl w s = s := by
  have h1 : ¬ pc (msW w s.1) = 1 := by
    intro hp
    have h2 : s.1 ||| msW w s.1 = s.1 := by simpa [tl, tlK, hp] using h
    have h3 := or_grow h2 ms_off
    rw [h3, pc_0] at hp
    exact absurd hp (by decide)
  simp [tl, tlK, tlO, h1]
theorem tl_ge (w : Int64) (s : Int64 × Int64) (k : Nat) (h : tb s.1 k = true) : tb (tl w s).1 k = true := tlK_ge w s.1 k h
theorem le_anti {a b c : Int64} (h1 : ∀ k, tb a k = true → tb b k = true) (h2 : ∀ k, tb b k = true → tb c k = true) (h : c = a) : b = a := by
  apply tb_ext
  intro k _
  cases ha : tb a k
  · cases hb : tb b k
    · rfl
    · have := h2 k hb; rw [h, ha] at this; exact absurd this (by decide)
  · exact h1 k ha
theorem rowsS_ge (s : Int64 × Int64) (k : Nat) (h : tb s.1 k = true) : ∀ n, tb (rowsS s n).1 k = true
  | 0 => h
  | n + 1 => tl_ge _ _ k (rowsS_ge s k h n)
theorem colsS_ge (s : Int64 × Int64) (k : Nat) (h : tb s.1 k = true) : ∀ n, tb (colsS s n).1 k = true
  | 0 => h
  | n + 1 => tl_ge _ _ k (colsS_ge s k h n)
theorem rowsS_same {s : Int64 × Int64} : ∀ n, (rowsS s n).1 = s.1 → rowsS s n = s
  | 0, _ => rfl
  | n + 1, h => by
    have h1 : (rowsS s n).1 = s.1 := le_anti (fun k hk => rowsS_ge s k hk n) (fun k hk => tl_ge (rowM n) _ k hk) h
    have h2 := rowsS_same n h1
    have h3 : rowsS s (n + 1) = tl (rowM n) s := by show tl (rowM n) (rowsS s n) = _; rw [h2]
    rw [h3] at h ⊢
    exact tl_same h
theorem colsS_same {s : Int64 × Int64} : ∀ n, (colsS s n).1 = s.1 → colsS s n = s
  | 0, _ => rfl
  | n + 1, h => by
    have h1 : (colsS s n).1 = s.1 := le_anti (fun k hk => colsS_ge s k hk n) (fun k hk => tl_ge (colM n) _ k hk) h
    have h2 := colsS_same n h1
    have h3 : colsS s (n + 1) = tl (colM n) s := by show tl (colM n) (colsS s n) = _; rw [h2]
    rw [h3] at h ⊢
    exact tl_same h
theorem rd_same {s : Int64 × Int64} (h : (rd s).1 = s.1) : rd s = s := by
  have h1 : (rowsS s 8).1 = s.1 := le_anti (fun k hk => rowsS_ge s k hk 8) (fun k hk => colsS_ge _ k hk 8) h
  have h2 := rowsS_same 8 h1
  unfold rd at h ⊢
  rw [h2] at h ⊢
  exact colsS_same 8 h
theorem rdn_stop {s : Int64 × Int64} {i : Nat} (h : (rdn s (i + 1)).1 = (rdn s i).1) : ∀ n, i ≤ n → rdn s n = rdn s i
  | 0, hn => by have : i = 0 := by omega
                subst this; rfl
  | n + 1, hn => by
    by_cases hi : i = n + 1
    · rw [hi]
    · have h1 := rdn_stop h n (by omega)
      show rd (rdn s n) = _
      rw [h1]
      exact rd_same h
theorem fa_stop {sd so : Int64} {i : Nat} (h : (rdn (sd, so) (i + 1)).1 = (rdn (sd, so) i).1) (hi : i ≤ 64) : rdn (sd, so) (i + 1) = fa sd so := by
  unfold fa
  rw [rdn_stop h 65 (by omega), rdn_stop h (i + 1) (by omega)]
