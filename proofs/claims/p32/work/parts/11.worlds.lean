/-! the world of the class: nine cells, then the 21 cards (0 to 2 the cards, 3 on the saved ones), then the rest -/
def crd (ad : Nat → Nat) (fr bk : Nat → Int64) (vw : Nat → Nat) (k : Nat) : Nat × va_E := (ad (10 + k), .inr (1, [.long (fr k), .long (bk k), .int (nI (vw k))]))
def wK (ad : Nat → Nat) (fr bk : Nat → Int64) (vw : Nat → Nat) : va_W := (List.range 21).map (crd ad fr bk vw)
def wC (ad : Nat → Nat) (cy : Nat → ClassId) (fr bk : Nat → Int64) (vw : Nat → Nat) (tk to fk fo : Int64) (kp sp lt : Nat) (ib : Bool) (rw cl nu tv tm : Nat) (ta : Nat → Int32) (ml : Int32) (tn : Nat) (R : va_W) : va_W :=
  (ad 0, .inr (5, [.ref (ad 1), .ref (ad 2), .ref (ad 3), .ref (ad 4), .ref (ad 6), .ref (ad 7)])) ::
  (ad 1, .inl (cy 4, 3, .inr (.inr (.inr (.inr (fun j => some (ad (10 + j)))))))) ::
  (ad 2, .inr (4, [.long tk, .long to])) :: (ad 3, .inr (4, [.long fk, .long fo])) ::
  (ad 4, .inr (2, [.ref (ad 5), .int (nI kp)])) :: (ad 5, .inl (cy 4, 18, .inr (.inr (.inr (.inr (fun j => some (ad (10 + (3 + j))))))))) ::
  (ad 6, .inr (3, [.int (nI sp), .int (nI lt), .int (bI ib), .int (nI rw), .int (nI cl), .int (nI nu)])) ::
  (ad 7, .inr (0, [.ref tv, .int 0, .int ml, .int (nI tn)])) :: (tv, .inl (cy 0, tm, .inl ta)) :: (wK ad fr bk vw ++ R)
section WC
variable {ad : Nat → Nat} {cy : Nat → ClassId} {fr bk fr' bk' : Nat → Int64} {vw vw' : Nat → Nat} {tk to fk fo : Int64} {kp sp lt : Nat} {ib : Bool} {rw cl nu tv tm : Nat} {ta : Nat → Int32} {ml : Int32} {tn : Nat} {R : va_W}
theorem wK_len : (wK ad fr bk vw).length = 21 := by unfold wK; rw [List.length_map, List.length_range]
theorem wK_at {k : Nat} (hk : k < 21) : (wK ad fr bk vw)[k]? = some (crd ad fr bk vw k) := by
  unfold wK
  rw [List.getElem?_map, List.getElem?_range hk]; rfl
theorem wC_at {k : Nat} (hk : k < 21) : (wC ad cy fr bk vw tk to fk fo kp sp lt ib rw cl nu tv tm ta ml tn R)[k + 9]? = some (ad (10 + k), .inr (1, [.long (fr k), .long (bk k), .int (nI (vw k))])) := by
  show (wK ad fr bk vw ++ R)[k]? = _
  rw [List.getElem?_append_left (by rw [wK_len]; exact hk), wK_at hk]; rfl
theorem va_up_s {α : Type} (f : Nat → α) (k : Nat) : va_up f k (f k) = f := by
  funext j; unfold va_up; split
  · rename_i h; rw [h]
  · rfl
theorem va_up_e {α : Type} (f : Nat → α) (k : Nat) (v : α) : va_up f k v k = v := if_pos rfl
theorem va_up_n {α : Type} (f : Nat → α) {k j : Nat} (v : α) (h : j ≠ k) : va_up f k v j = f j := if_neg h
theorem wK_set {k : Nat} (hk : k < 21) {f b : Int64} {v : Nat} (hf : va_up fr k f = fr') (hb : va_up bk k b = bk') (hv : va_up vw k v = vw') : (wK ad fr bk vw).set k (ad (10 + k), .inr (1, [.long f, .long b, .int (nI v)])) = wK ad fr' bk' vw' := by
  subst hf; subst hb; subst hv
  apply List.ext_getElem?
  intro i
  by_cases hi : i < 21
  · rw [wK_at hi]
    by_cases h : i = k
    · subst h
      rw [List.getElem?_set_self (by rw [wK_len]; exact hi)]
      simp [crd, va_up]
    · rw [List.getElem?_set_ne (Ne.symm h), wK_at hi]
      simp [crd, va_up, h]
  · rw [List.getElem?_eq_none (by rw [List.length_set, wK_len]; omega), List.getElem?_eq_none (by rw [wK_len]; omega)]
theorem wC_set {k : Nat} (hk : k < 21) {f b : Int64} {v : Nat} (hf : va_up fr k f = fr') (hb : va_up bk k b = bk') (hv : va_up vw k v = vw') : (wC ad cy fr bk vw tk to fk fo kp sp lt ib rw cl nu tv tm ta ml tn R).set (k + 9) (ad (10 + k), .inr (1, [.long f, .long b, .int (nI v)])) = wC ad cy fr' bk' vw' tk to fk fo kp sp lt ib rw cl nu tv tm ta ml tn R := by
  show _ :: _ :: _ :: _ :: _ :: _ :: _ :: _ :: _ :: ((wK ad fr bk vw ++ R).set k _) = _
  rw [List.set_append_left _ _ (by rw [wK_len]; exact hk), wK_set hk hf hb hv]
  rfl
end WC
/-! saving and restoring, card by card -/
def dcU {α : Type} (g : Nat → α) : Nat → (Nat → α)
  | 0 => g
  | i + 1 => va_up (dcU g i) (3 + i) (dcU g i (3 + (i + 3)))
def svU {α : Type} (g : Nat → α) (st : Nat) : Nat → (Nat → α)
  | 0 => g
  | i + 1 => va_up (svU g st i) (3 + (st + i)) (svU g st i i)
def rsU {α : Type} (g : Nat → α) (st : Nat) : Nat → (Nat → α)
  | 0 => g
  | i + 1 => va_up (rsU g st i) i (rsU g st i (3 + (st + i)))
def saU {α : Type} (g : Nat → α) (kp : Nat) : Nat → α := if kp < 6 then svU g (kp * 3) 3 else svU (dcU g 15) (5 * 3) 3
def saK (kp : Nat) : Nat := if kp < 6 then kp + 1 else 6
-- what some private methods of the class answer
def allB (p : Nat → Bool) : Nat → Bool
  | 0 => true
  | n + 1 => allB p n && p n
theorem allB_no {p : Nat → Bool} {i : Nat} (h : p i = false) : ∀ {n : Nat}, i < n → allB p n = false
  | 0, hi => absurd hi (Nat.not_lt_zero _)
  | n + 1, hi => by
    unfold allB
    by_cases e : i = n
    · subst e; rw [h, Bool.and_false]
    · rw [allB_no h (by omega), Bool.false_and]
def rvN (on : Int64) (row : Nat) : Nat → Nat
  | 0 => 0
  | c + 1 => 2 * rvN on row c + (if tb on (8 * row + c) then 1 else 0)
def rvI (kn on : Int64) (row : Nat) : Int32 := if allB (fun j => tb kn (8 * row + j)) 7 then nI (rvN on row 7) else -1
def lfW (f b : Int64) (k : Nat) : Int64 := sdW f b &&& (bitM k ^^^ (-1))
def uwT (f b : Int64) (k : Nat) : Int64 × Int64 := fa (lfW f b k) (onW f b &&& lfW f b k)
def uwI (f b : Int64) (k : Nat) : Int32 := if tb (sdW f b) k then nI (pc ((uwT f b k).1 ^^^ (-1))) else -1
def uwF (f b : Int64) (k : Nat) (s : Int64 × Int64) : Int64 × Int64 := if tb (sdW f b) k then uwT f b k else s
def wcS (f b : Int64) : Nat → Int32 × Int32
  | 0 => (-1, -1)
  | i + 1 => if uwI f b i ≤ (wcS f b i).2 then wcS f b i else (nI i, uwI f b i)
def wcF (f b : Int64) (s : Int64 × Int64) : Nat → Int64 × Int64
  | 0 => s
  | i + 1 => uwF f b i (wcF f b s i)
def mxL (h : Int64) (x : Int32) : Int64 := 31 * h + x.toInt64
def mcL (f b h : Int64) : Nat → Int64
  | 0 => h
  | i + 1 => mxL (mcL f b h i) (nI (pc (kdW f b i)))
def mrA (f b : Int64) (v : Nat) (h : Int64) : Nat → Int64
  | 0 => h
  | i + 1 => mxL (mrA f b v h i) (nI (rwN f b v i 8))
def mrB (f b kn on h : Int64) : Nat → Int64
  | 0 => h
  | i + 1 => mxL (mxL (mrB f b kn on h i) (rvI (sdW f b) (onW f b) i)) (rvI kn on i)
def mlL (f b kn on h : Int64) : Nat → Int64
  | 0 => h
  | i + 1 => mxL (mxL (mlL f b kn on h i) (kdI f b i)) (biI kn on i)
