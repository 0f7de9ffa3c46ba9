/-! bits: the words' bits, masks, what a card's two words say -/
def tb (w : Int64) (k : Nat) : Bool := w.toBitVec.getLsbD k
theorem wb_c : ∀ k, k < 64 → ((nI k).toInt64 &&& 63) = lN k := by decide +kernel
theorem wb_cu : ∀ k, k < 64 → ((nI k).toInt64.toUInt64 &&& Int64.toUInt64 63) = UInt64.ofNat k := by decide +kernel
theorem wb_tb (n : Nat) : (lN n).toBitVec = BitVec.ofNat 64 n := rfl
theorem wb_inj {a b : Int64} (h : a.toBitVec = b.toBitVec) : a = b := Int64.toBitVec_inj.mp h
theorem wb_tn {n : Nat} (h : n < 2 ^ 64) : (lN n).toBitVec.toNat = n := by rw [wb_tb, BitVec.toNat_ofNat, Nat.mod_eq_of_lt h]
theorem wb_of (x : Int64) : ∃ n, n < 2 ^ 64 ∧ x = lN n := ⟨x.toBitVec.toNat, x.toBitVec.isLt, wb_inj (by rw [wb_tb]; simp)⟩
theorem tb_ext {x y : Int64} (h : ∀ k, k < 64 → tb x k = tb y k) : x = y := wb_inj (BitVec.eq_of_getLsbD_eq (fun i hi => h i hi))
theorem tb_big {x : Int64} {k : Nat} (h : 64 ≤ k) : tb x k = false := BitVec.getLsbD_of_ge _ _ h
theorem tb_and (x y : Int64) (k : Nat) : tb (x &&& y) k = (tb x k && tb y k) := by unfold tb; rw [Int64.toBitVec_and, BitVec.getLsbD_and]
theorem tb_or (x y : Int64) (k : Nat) : tb (x ||| y) k = (tb x k || tb y k) := by unfold tb; rw [Int64.toBitVec_or, BitVec.getLsbD_or]
theorem tb_xor (x y : Int64) (k : Nat) : tb (x ^^^ y) k = (tb x k ^^ tb y k) := by unfold tb; rw [Int64.toBitVec_xor, BitVec.getLsbD_xor]
theorem tb_m1 : ∀ k, k < 64 → tb (-1) k = true := by decide +kernel
theorem tb_0 (k : Nat) : tb 0 k = false := BitVec.getLsbD_zero
theorem tb_not {x : Int64} {k : Nat} (h : k < 64) : tb (x ^^^ (-1)) k = !tb x k := by rw [tb_xor, tb_m1 k h, Bool.xor_true]
theorem isIn_iff {w : Int64} {k : Nat} (hk : k < 64) : ((w.toUInt64 >>> ((nI k).toInt64.toUInt64 &&& Int64.toUInt64 63)).toInt64 &&& (1 : Int64)) = (0 : Int64) ↔ tb w k = false := by
  rw [wb_cu k hk]
  have hb : ((w.toUInt64 >>> UInt64.ofNat k).toInt64 &&& (1 : Int64)).toBitVec = (w.toBitVec >>> k) &&& 1#64 := by
    rw [Int64.toBitVec_and]
    have h2 : ((w.toUInt64 >>> UInt64.ofNat k).toInt64).toBitVec = w.toBitVec >>> k := by
      show (w.toUInt64 >>> UInt64.ofNat k).toBitVec = _
      rw [UInt64.toBitVec_shiftRight]
      show w.toBitVec >>> (BitVec.ofNat 64 k % 64#64) = _
      have h3 : (BitVec.ofNat 64 k % 64#64).toNat = k := by
        rw [BitVec.toNat_umod, BitVec.toNat_ofNat]
        show k % 2 ^ 64 % 64 = k
        omega
      show w.toBitVec >>> ((BitVec.ofNat 64 k % 64#64).toNat) = _
      rw [h3]
    rw [h2]
    rfl
  constructor
  · intro h
    have h4 := congrArg Int64.toBitVec h
    rw [hb] at h4
    have h5 := congrArg (fun z => BitVec.getLsbD z 0) h4
    simpa [tb] using h5
  · intro h
    apply wb_inj
    rw [hb]
    apply BitVec.eq_of_getLsbD_eq
    intro i hi
    simp only [BitVec.getLsbD_and, BitVec.getLsbD_ushiftRight]
    by_cases h0 : i = 0
    · subst h0
      have : w.toBitVec.getLsbD k = false := h
      simp [this]
    · have : (1#64).getLsbD i = false := by
        rw [BitVec.getLsbD_one]; simp [h0]
      rw [this, Bool.and_false]
      exact BitVec.getLsbD_zero.symm
theorem lgc_eq {x y : Int64} : lg_cmp x y = 0 ↔ x = y := by
  unfold lg_cmp
  constructor
  · intro h
    by_cases h1 : x > y
    · rw [if_pos h1] at h; exact absurd h (by decide)
    · rw [if_neg h1] at h
      by_cases h2 : x = y
      · exact h2
      · rw [if_neg h2] at h; exact absurd h (by decide)
  · rintro rfl
    rw [if_neg (by simp), if_pos rfl]
theorem isIn_f {w : Int64} {k : Nat} (hk : k < 64) (h : (w.toUInt64 >>> ((nI k).toInt64.toUInt64 &&& Int64.toUInt64 63)).toInt64 &&& (1 : Int64) = (0 : Int64)) : tb w k = false := (isIn_iff hk).mp h
theorem isIn_t {w : Int64} {k : Nat} (hk : k < 64) (h : ¬ (w.toUInt64 >>> ((nI k).toInt64.toUInt64 &&& Int64.toUInt64 63)).toInt64 &&& (1 : Int64) = (0 : Int64)) : tb w k = true := by
  cases hh : tb w k
  · exact absurd ((isIn_iff hk).mpr hh) h
  · rfl
theorem and1 (n : Nat) : nI n &&& 1 = nI (n % 2) := by
  have h : (nI n &&& 1).toBitVec = (nI (n % 2)).toBitVec := by
    rw [Int32.toBitVec_and]
    show BitVec.ofNat 32 n &&& 1#32 = BitVec.ofNat 32 (n % 2)
    apply BitVec.eq_of_toNat_eq
    rw [BitVec.toNat_and, BitVec.toNat_ofNat, BitVec.toNat_ofNat]
    show n % 2 ^ 32 &&& 1 = n % 2 % 2 ^ 32
    rw [Nat.and_one_is_mod]
    omega
  exact Int32.toBitVec_inj.mp h
/-- how many of the first n hold -/
def cnt (p : Nat → Bool) : Nat → Nat
  | 0 => 0
  | n + 1 => cnt p n + (if p n then 1 else 0)
theorem cnt_le (p : Nat → Bool) : ∀ n, cnt p n ≤ n
  | 0 => Nat.le_refl _
  | n + 1 => by have := cnt_le p n; unfold cnt; split <;> omega
theorem cnt_cong {p q : Nat → Bool} : ∀ {n : Nat}, (∀ k, k < n → p k = q k) → cnt p n = cnt q n
  | 0, _ => rfl
  | n + 1, h => by unfold cnt; rw [cnt_cong (fun k hk => h k (Nat.lt_succ_of_lt hk)), h n (Nat.lt_succ_self n)]
def pc (w : Int64) : Nat := cnt (tb w) 64
theorem pc_le (w : Int64) : pc w ≤ 64 := cnt_le _ 64
def pc7 (k : Nat) : Nat := cnt (fun j => k.testBit j) 7
def od (w : Int64) : Bool := decide (pc w % 2 = 1)
def rowM (r : Nat) : Int64 := (255 : Int64) <<< ((nI (8 * r)).toInt64 &&& 63)
def colM (k : Nat) : Int64 := (72340172838076673 : Int64) <<< ((nI k).toInt64 &&& 63)
def bitM (k : Nat) : Int64 := (1 : Int64) <<< ((nI k).toInt64 &&& 63)
theorem tb_row : ∀ r, r < 8 → ∀ k, k < 64 → tb (rowM r) k = decide (k / 8 = r) := by decide +kernel
theorem tb_col : ∀ c, c < 8 → ∀ k, k < 64 → tb (colM c) k = decide (k % 8 = c) := by decide +kernel
theorem tb_bit : ∀ j, j < 64 → ∀ k, k < 64 → tb (bitM j) k = decide (k = j) := by decide +kernel
def sdW (f b : Int64) : Int64 := f ^^^ b
def onW (f b : Int64) : Int64 := f &&& (b ^^^ (-1))
def blW (f b : Int64) : Int64 := (f ||| b) ^^^ (-1)
def kdW (f b : Int64) (k : Nat) : Int64 := if k = 0 then b &&& (f ^^^ (-1)) else if k = 1 then onW f b else if k = 2 then blW f b else f &&& b
def kdI (f b : Int64) (k : Nat) : Int32 := if tb f k then (if tb b k then 3 else 1) else (if tb b k then 0 else 2)
def hoB (f b : Int64) (ib : Bool) (k : Nat) : Bool := if ib then tb b k else tb f k
def shW (w : Int64) (k : Nat) (ho : Bool) : Int64 := if ho then w ||| bitM k else w &&& (bitM k ^^^ (-1))
def shF (f : Int64) (ib : Bool) (k : Nat) (ho : Bool) : Int64 := if ib then f else shW f k ho
def shB (b : Int64) (ib : Bool) (k : Nat) (ho : Bool) : Int64 := if ib then shW b k ho else b
def pbF (f : Int64) (k bit : Nat) : Int64 := if bit = 0 then f else f ||| bitM k
def pbB (b : Int64) (k bit : Nat) : Int64 := if bit = 0 then b ||| bitM k else b
def cpB (f b : Int64) (row : Nat) : Bool := decide (rowM row &&& (blW f b ^^^ (-1)) = 0)
