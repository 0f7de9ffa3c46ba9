/-! the JDK's bit counts -/
theorem wb_shr {n k : Nat} (hn : n < 2 ^ 64) (hk : k < 64) : ((lN n).toUInt64 >>> ((nI k).toInt64.toUInt64 &&& Int64.toUInt64 63)).toInt64 = lN (n / 2 ^ k) := by
  rw [wb_cu k hk]
  apply wb_inj
  show ((lN n).toUInt64 >>> UInt64.ofNat k).toBitVec = _
  rw [UInt64.toBitVec_shiftRight]
  show (lN n).toBitVec >>> (BitVec.ofNat 64 k % 64#64) = _
  have h3 : (BitVec.ofNat 64 k % 64#64).toNat = k := by
    rw [BitVec.toNat_umod, BitVec.toNat_ofNat]
    show k % 2 ^ 64 % 64 = k
    omega
  show (lN n).toBitVec >>> ((BitVec.ofNat 64 k % 64#64).toNat) = _
  rw [h3]
  apply BitVec.eq_of_toNat_eq
  have h4 : n / 2 ^ k < 2 ^ 64 := Nat.lt_of_le_of_lt (Nat.div_le_self _ _) hn
  rw [BitVec.toNat_ushiftRight, wb_tn hn, wb_tn h4, Nat.shiftRight_eq_div_pow]
theorem wb_and {a b : Nat} (ha : a < 2 ^ 64) (hb : b < 2 ^ 64) : lN a &&& lN b = lN (a &&& b) := by
  apply wb_inj
  apply BitVec.eq_of_toNat_eq
  rw [Int64.toBitVec_and, BitVec.toNat_and, wb_tn ha, wb_tn hb, wb_tn (Nat.lt_of_le_of_lt Nat.and_le_left ha)]
def bM1 : Nat := 6148914691236517205
def bM2 : Nat := 3689348814741910323
def bM3 : Nat := 1085102592571150095
def bcA (n : Nat) : Nat := n - (n / 2 ^ 1 &&& bM1)
def bcB (y : Nat) : Nat := (y &&& bM2) + (y / 2 ^ 2 &&& bM2)
def bcC (z : Nat) : Nat := (z + z / 2 ^ 4) &&& bM3
def bcD (w k : Nat) : Nat := w + w / 2 ^ k
def bcN (n : Nat) : Nat := bcD (bcD (bcD (bcC (bcB (bcA n))) 8) 16) 32 % 128
theorem bcA_le (n : Nat) : bcA n ≤ n := Nat.sub_le _ _
theorem bcB_le (y : Nat) : bcB y ≤ 7378697629483820646 := by
  have h1 : y &&& bM2 ≤ bM2 := Nat.and_le_right
  have h2 : y / 2 ^ 2 &&& bM2 ≤ bM2 := Nat.and_le_right
  unfold bcB; unfold bM2 at *; omega
theorem bcC_le (z : Nat) : bcC z ≤ 1085102592571150095 := Nat.and_le_right
/-- a number by its bytes -/
def bv : List Nat → Nat
  | [] => 0
  | a :: l => a + 256 * bv l
def bm (c : Nat) : List Nat → Nat
  | [] => 0
  | _ :: l => c + 256 * bm c l
theorem land_split {a b c d : Nat} (ha : a < 256) (hc : c < 256) : (a + 256 * b) &&& (c + 256 * d) = (a &&& c) + 256 * (b &&& d) := by
  have h1 : ((a + 256 * b) &&& (c + 256 * d)) % 2 ^ 8 = a &&& c := by
    rw [Nat.and_mod_two_pow, show (a + 256 * b) % 2 ^ 8 = a by omega, show (c + 256 * d) % 2 ^ 8 = c by omega]
  have h2 : ((a + 256 * b) &&& (c + 256 * d)) / 2 ^ 8 = b &&& d := by
    rw [Nat.and_div_two_pow, show (a + 256 * b) / 2 ^ 8 = b by omega, show (c + 256 * d) / 2 ^ 8 = d by omega]
  have := Nat.div_add_mod ((a + 256 * b) &&& (c + 256 * d)) (2 ^ 8)
  omega
def t1 (a : Nat) : Nat := a - (a / 2 &&& 85)
def t2 (a : Nat) : Nat := (a &&& 51) + (a / 4 &&& 51)
def t3 (a : Nat) : Nat := (a + a / 16) &&& 15
theorem t1_x : ∀ a, a < 256 → ∀ h, h < 2 → (a / 2 + 128 * h) &&& 85 = a / 2 &&& 85 := by decide +kernel
theorem t2_x : ∀ a, a < 256 → ∀ h, h < 4 → (a / 4 + 64 * h) &&& 51 = a / 4 &&& 51 := by decide +kernel
theorem t3_x : ∀ a, a < 256 → a % 16 ≤ 4 → a / 16 ≤ 4 → ∀ h, h < 5 → (a + a / 16 + 16 * h) &&& 15 = t3 a ∧ a + a / 16 + 16 * h < 256 := by decide +kernel
theorem t1_l : ∀ a, a < 256 → t1 a < 256 ∧ (a / 2 &&& 85) ≤ a := by decide +kernel
theorem t2_l : ∀ a, a < 256 → t2 a < 256 := by decide +kernel
theorem t21 : ∀ a, a < 256 → t2 (t1 a) % 16 ≤ 4 ∧ t2 (t1 a) / 16 ≤ 4 ∧ t2 (t1 a) < 256 := by decide +kernel
def c8 (a : Nat) : Nat := cnt (fun j => a.testBit j) 8
theorem t321 : ∀ a, a < 256 → t3 (t2 (t1 a)) = c8 a := by decide +kernel
theorem s1_bv : ∀ l : List Nat, (∀ a ∈ l, a < 256) → bv l - (bv l / 2 &&& bm 85 l) = bv (l.map t1) ∧ (bv l / 2 &&& bm 85 l) ≤ bv l
  | [], _ => ⟨rfl, Nat.le_refl _⟩
  | a :: l, h => by
    have ha : a < 256 := h a List.mem_cons_self
    obtain ⟨ih, ihl⟩ := s1_bv l (fun x hx => h x (List.mem_cons_of_mem _ hx))
    have h1 : bv (a :: l) / 2 = (a / 2 + 128 * (bv l % 2)) + 256 * (bv l / 2) := by show (a + 256 * bv l) / 2 = _; omega
    have h2 : bv (a :: l) / 2 &&& bm 85 (a :: l) = (a / 2 &&& 85) + 256 * (bv l / 2 &&& bm 85 l) := by
      rw [h1]
      show (_ + 256 * (bv l / 2)) &&& (85 + 256 * bm 85 l) = _
      rw [land_split (by omega) (by decide), t1_x a ha _ (Nat.mod_lt _ (by decide))]
    have h3 := (t1_l a ha).2
    rw [h2]
    refine ⟨?_, ?_⟩
    · show a + 256 * bv l - _ = t1 a + 256 * bv (l.map t1)
      rw [← ih]; unfold t1; omega
    · show _ ≤ a + 256 * bv l; omega
theorem s2_bv : ∀ l : List Nat, (∀ a ∈ l, a < 256) → (bv l &&& bm 51 l) + (bv l / 4 &&& bm 51 l) = bv (l.map t2)
  | [], _ => rfl
  | a :: l, h => by
    have ha : a < 256 := h a List.mem_cons_self
    have ih := s2_bv l (fun x hx => h x (List.mem_cons_of_mem _ hx))
    have h1 : bv (a :: l) / 4 = (a / 4 + 64 * (bv l % 4)) + 256 * (bv l / 4) := by show (a + 256 * bv l) / 4 = _; omega
    rw [h1]
    show ((a + 256 * bv l) &&& (51 + 256 * bm 51 l)) + ((_ + 256 * (bv l / 4)) &&& (51 + 256 * bm 51 l)) = t2 a + 256 * bv (l.map t2)
    rw [land_split ha (by decide), land_split (by omega) (by decide), t2_x a ha _ (Nat.mod_lt _ (by decide)), ← ih]
    unfold t2; omega
theorem bv_mod16 : ∀ l : List Nat, (∀ a ∈ l, a < 256 ∧ a % 16 ≤ 4) → bv l % 16 < 5
  | [], _ => by decide
  | a :: l, h => by
    have := h a List.mem_cons_self
    show (a + 256 * bv l) % 16 < 5
    omega
theorem s3_bv : ∀ l : List Nat, (∀ a ∈ l, a < 256 ∧ a % 16 ≤ 4 ∧ a / 16 ≤ 4) → (bv l + bv l / 16) &&& bm 15 l = bv (l.map t3)
  | [], _ => rfl
  | a :: l, h => by
    have ha := h a List.mem_cons_self
    have hl : ∀ x ∈ l, x < 256 ∧ x % 16 ≤ 4 ∧ x / 16 ≤ 4 := fun x hx => h x (List.mem_cons_of_mem _ hx)
    have ih := s3_bv l hl
    have hm := bv_mod16 l (fun x hx => ⟨(hl x hx).1, (hl x hx).2.1⟩)
    have h1 : bv (a :: l) + bv (a :: l) / 16 = (a + a / 16 + 16 * (bv l % 16)) + 256 * (bv l + bv l / 16) := by show (a + 256 * bv l) + (a + 256 * bv l) / 16 = _; omega
    have h2 := t3_x a ha.1 ha.2.1 ha.2.2 _ hm
    rw [h1]
    show (_ + 256 * (bv l + bv l / 16)) &&& (15 + 256 * bm 15 l) = t3 a + 256 * bv (l.map t3)
    rw [land_split h2.2 (by decide), h2.1, ih]
theorem c8_le : ∀ a, a < 256 → c8 a ≤ 8 := fun a _ => cnt_le _ 8
theorem divc {x W c : Nat} (hx : x < c) : (x + c * W) / c = W := by
  rw [Nat.add_mul_div_left _ _ (by omega), Nat.div_eq_of_lt hx, Nat.zero_add]
def bvN (x0 x1 x2 x3 x4 x5 x6 x7 : Nat) : Nat := x0 + 256 * (x1 + 256 * (x2 + 256 * (x3 + 256 * (x4 + 256 * (x5 + 256 * (x6 + 256 * x7))))))
theorem bv_N (x0 x1 x2 x3 x4 x5 x6 x7 : Nat) : bv [x0, x1, x2, x3, x4, x5, x6, x7] = bvN x0 x1 x2 x3 x4 x5 x6 x7 := by
  unfold bvN; simp only [bv]; omega
def bw4 (y0 y1 y2 y3 : Nat) : Nat := y0 + 65536 * (y1 + 65536 * (y2 + 65536 * y3))
theorem bcD_1 {x0 x1 x2 x3 x4 x5 x6 x7 : Nat} (b0 : x0 ≤ 8) : bcD (bvN x0 x1 x2 x3 x4 x5 x6 x7) 8 = bw4 ((x0 + x1) + 256 * (x1 + x2)) ((x2 + x3) + 256 * (x3 + x4)) ((x4 + x5) + 256 * (x5 + x6)) ((x6 + x7) + 256 * x7) := by
  unfold bcD bvN bw4
  rw [show (2 : Nat) ^ 8 = 256 from rfl, divc (show x0 < 256 by omega)]
  omega
def bw2 (z0 z1 : Nat) : Nat := z0 + 4294967296 * z1
theorem bcD_2 {y0 y1 y2 y3 : Nat} (b0 : y0 < 65536) : bcD (bw4 y0 y1 y2 y3) 16 = bw2 ((y0 + y1) + 65536 * (y1 + y2)) ((y2 + y3) + 65536 * y3) := by
  unfold bcD bw4 bw2
  rw [show (2 : Nat) ^ 16 = 65536 from rfl, divc b0]
  omega
theorem bcD_3 {z0 z1 : Nat} (b0 : z0 < 4294967296) : bcD (bw2 z0 z1) 32 = z0 + z1 + 4294967296 * z1 := by
  unfold bcD bw2
  rw [show (2 : Nat) ^ 32 = 4294967296 from rfl, divc b0]
  omega
theorem bcD_sum {x0 x1 x2 x3 x4 x5 x6 x7 : Nat} (b0 : x0 ≤ 8) (b1 : x1 ≤ 8) (b2 : x2 ≤ 8) (b3 : x3 ≤ 8) (b4 : x4 ≤ 8) (b5 : x5 ≤ 8) (b6 : x6 ≤ 8) (b7 : x7 ≤ 8) :
    bcD (bcD (bcD (bvN x0 x1 x2 x3 x4 x5 x6 x7) 8) 16) 32 % 128 = x0 + x1 + x2 + x3 + x4 + x5 + x6 + x7 := by
  rw [bcD_1 b0, bcD_2 (by omega), bcD_3 (by omega)]
  omega
theorem bm85 (a0 a1 a2 a3 a4 a5 a6 a7 : Nat) : bm 85 [a0, a1, a2, a3, a4, a5, a6, a7] = bM1 := by simp only [bm]; rfl
theorem bm51 (a0 a1 a2 a3 a4 a5 a6 a7 : Nat) : bm 51 [a0, a1, a2, a3, a4, a5, a6, a7] = bM2 := by simp only [bm]; rfl
theorem bm15 (a0 a1 a2 a3 a4 a5 a6 a7 : Nat) : bm 15 [a0, a1, a2, a3, a4, a5, a6, a7] = bM3 := by simp only [bm]; rfl
theorem bcN_bv {a0 a1 a2 a3 a4 a5 a6 a7 : Nat} (h0 : a0 < 256) (h1 : a1 < 256) (h2 : a2 < 256) (h3 : a3 < 256) (h4 : a4 < 256) (h5 : a5 < 256) (h6 : a6 < 256) (h7 : a7 < 256) : bcN (bv [a0, a1, a2, a3, a4, a5, a6, a7]) = c8 a0 + c8 a1 + c8 a2 + c8 a3 + c8 a4 + c8 a5 + c8 a6 + c8 a7 := by
  have hl : ∀ a ∈ [a0, a1, a2, a3, a4, a5, a6, a7], a < 256 := by simp; omega
  have e1 : bcA (bv [a0, a1, a2, a3, a4, a5, a6, a7]) = bv ([a0, a1, a2, a3, a4, a5, a6, a7].map t1) := by
    have h := (s1_bv _ hl).1; rw [bm85] at h; exact h
  have hl2 : ∀ a ∈ [a0, a1, a2, a3, a4, a5, a6, a7].map t1, a < 256 := by
    intro a ha; obtain ⟨x, hx, rfl⟩ := List.mem_map.mp ha; exact (t1_l x (hl x hx)).1
  have e2 : bcB (bv ([a0, a1, a2, a3, a4, a5, a6, a7].map t1)) = bv (([a0, a1, a2, a3, a4, a5, a6, a7].map t1).map t2) := by
    have h := s2_bv _ hl2; simp only [List.map] at h ⊢; rw [bm51] at h; exact h
  have hl3 : ∀ a ∈ ([a0, a1, a2, a3, a4, a5, a6, a7].map t1).map t2, a < 256 ∧ a % 16 ≤ 4 ∧ a / 16 ≤ 4 := by
    intro a ha
    rw [List.map_map] at ha
    obtain ⟨x, hx, rfl⟩ := List.mem_map.mp ha
    obtain ⟨q1, q2, q3⟩ := t21 x (hl x hx)
    exact ⟨q3, q1, q2⟩
  have e3 : bcC (bv (([a0, a1, a2, a3, a4, a5, a6, a7].map t1).map t2)) = bv ((([a0, a1, a2, a3, a4, a5, a6, a7].map t1).map t2).map t3) := by
    have h := s3_bv _ hl3; simp only [List.map] at h ⊢; rw [bm15] at h; exact h
  unfold bcN
  rw [e1, e2, e3]
  have b0 := c8_le a0 h0; have b1 := c8_le a1 h1; have b2 := c8_le a2 h2; have b3 := c8_le a3 h3
  have b4 := c8_le a4 h4; have b5 := c8_le a5 h5; have b6 := c8_le a6 h6; have b7 := c8_le a7 h7
  have e4 : (([a0, a1, a2, a3, a4, a5, a6, a7].map t1).map t2).map t3 = [c8 a0, c8 a1, c8 a2, c8 a3, c8 a4, c8 a5, c8 a6, c8 a7] := by
    simp only [List.map, t321 a0 h0, t321 a1 h1, t321 a2 h2, t321 a3 h3, t321 a4 h4, t321 a5 h5, t321 a6 h6, t321 a7 h7]
  rw [e4, bv_N]
  exact bcD_sum b0 b1 b2 b3 b4 b5 b6 b7
theorem cnt_add (p : Nat → Bool) (a : Nat) : ∀ b, cnt p (a + b) = cnt p a + cnt (fun j => p (a + j)) b
  | 0 => rfl
  | b + 1 => by
    show cnt p (a + b) + (if p (a + b) = true then 1 else 0) = cnt p a + (cnt (fun j => p (a + j)) b + (if p (a + b) = true then 1 else 0))
    rw [cnt_add p a b]; omega
theorem tb_lN {n k : Nat} (hn : n < 2 ^ 64) : tb (lN n) k = n.testBit k := by
  show (BitVec.ofNat 64 n).getLsbD k = _
  rw [BitVec.getLsbD_ofNat]
  by_cases h : k < 64
  · simp [h]
  · have : n.testBit k = false := Nat.testBit_lt_two_pow (Nat.lt_of_lt_of_le hn (Nat.pow_le_pow_right (by decide) (by omega)))
    simp [h, this]
theorem byte_bit (n i j : Nat) (hj : j < 8) : n.testBit (8 * i + j) = (n / 256 ^ i % 256).testBit j := by
  rw [show 256 ^ i = 2 ^ (8 * i) from (Nat.pow_mul 2 8 i).symm, show (256 : Nat) = 2 ^ 8 from rfl, Nat.testBit_mod_two_pow, Nat.testBit_div_two_pow]
  simp [hj, Nat.add_comm]
theorem bc_pc {n : Nat} (hn : n < 2 ^ 64) : bcN n = pc (lN n) := by
  have hv : n = bv [n / 256 ^ 0 % 256, n / 256 ^ 1 % 256, n / 256 ^ 2 % 256, n / 256 ^ 3 % 256, n / 256 ^ 4 % 256, n / 256 ^ 5 % 256, n / 256 ^ 6 % 256, n / 256 ^ 7 % 256] := by
    simp only [bv]; omega
  have hp : pc (lN n) = c8 (n / 256 ^ 0 % 256) + c8 (n / 256 ^ 1 % 256) + c8 (n / 256 ^ 2 % 256) + c8 (n / 256 ^ 3 % 256) + c8 (n / 256 ^ 4 % 256) + c8 (n / 256 ^ 5 % 256) + c8 (n / 256 ^ 6 % 256) + c8 (n / 256 ^ 7 % 256) := by
    have hc : ∀ i, cnt (fun j => tb (lN n) (8 * i + j)) 8 = c8 (n / 256 ^ i % 256) := fun i => cnt_cong (fun j hj => by rw [tb_lN hn, byte_bit n i j hj])
    have hs : ∀ i, cnt (tb (lN n)) (8 * (i + 1)) = cnt (tb (lN n)) (8 * i) + c8 (n / 256 ^ i % 256) := fun i => by rw [← hc i]; exact cnt_add _ (8 * i) 8
    show cnt (tb (lN n)) (8 * (7 + 1)) = _
    rw [hs 7, hs 6, hs 5, hs 4, hs 3, hs 2, hs 1, hs 0, show cnt (tb (lN n)) (8 * 0) = 0 from rfl, Nat.zero_add]
  rw [hp]
  have hm : ∀ x : Nat, x % 256 < 256 := fun x => Nat.mod_lt _ (by decide)
  have := bcN_bv (hm (n / 256 ^ 0)) (hm (n / 256 ^ 1)) (hm (n / 256 ^ 2)) (hm (n / 256 ^ 3)) (hm (n / 256 ^ 4)) (hm (n / 256 ^ 5)) (hm (n / 256 ^ 6)) (hm (n / 256 ^ 7))
  rw [← hv] at this
  exact this
theorem mod127 (n : Nat) (h : n < 2 ^ 32) : nI n &&& 127 = nI (n % 128) := pk_andN h 7 (by decide)
theorem lN32 (n : Nat) : (lN n).toInt32 &&& 127 = nI (n % 128) := by
  rw [lN_i]
  have h : nI n = nI (n % 2 ^ 32) := Int32.toBitVec_inj.mp (by
    show BitVec.ofNat 32 n = BitVec.ofNat 32 (n % 2 ^ 32)
    apply BitVec.eq_of_toNat_eq
    rw [BitVec.toNat_ofNat, BitVec.toNat_ofNat, Nat.mod_mod])
  rw [h, mod127 _ (Nat.mod_lt _ (by decide))]
  congr 1
  omega
theorem bc_dlt {n k : Nat} (h : n < 2 ^ 64) : n / 2 ^ k < 2 ^ 64 := Nat.lt_of_le_of_lt (Nat.div_le_self _ _) h
theorem bc_hA {n : Nat} (h : n < 2 ^ 64) : bcA n < 2 ^ 64 := Nat.lt_of_le_of_lt (bcA_le n) h
theorem bc_hB (y : Nat) : bcB y < 2 ^ 64 := Nat.lt_of_le_of_lt (bcB_le y) (by decide)
theorem bc_hB4 (y : Nat) : bcB y + bcB y / 2 ^ 4 < 2 ^ 64 := by have := bcB_le y; omega
theorem bc_hC (z : Nat) : bcC z < 2 ^ 64 := Nat.lt_of_le_of_lt (bcC_le z) (by decide)
theorem bc_hD {z : Nat} (h : z < 2 ^ 64) (k : Nat) : bcD z (k + 1) ≤ 2 * z := by
  have : z / 2 ^ (k + 1) ≤ z := Nat.div_le_self _ _
  unfold bcD; omega
theorem bc_hD8 (z : Nat) : bcD (bcC z) 8 < 2 ^ 64 := by
  have h : bcD (bcC z) 8 ≤ 2 * bcC z := bc_hD (bc_hC z) 7
  have := bcC_le z; omega
theorem bc_hD16 (z : Nat) : bcD (bcD (bcC z) 8) 16 < 2 ^ 64 := by
  have h : bcD (bcC z) 8 ≤ 2 * bcC z := bc_hD (bc_hC z) 7
  have h2 : bcD (bcD (bcC z) 8) 16 ≤ 2 * bcD (bcC z) 8 := bc_hD (bc_hD8 z) 15
  have := bcC_le z; omega
def bsr (x : Int32) (k : Int32) : Int32 := (x.toUInt32 >>> (k.toUInt32 &&& Int32.toUInt32 31)).toInt32
def bi1 (x : Int32) : Int32 := x - (bsr x 1 &&& 1431655765)
def bi2 (x : Int32) : Int32 := (x &&& 858993459) + (bsr x 2 &&& 858993459)
def bi3 (x : Int32) : Int32 := (x + bsr x 4) &&& 252645135
def bi4 (x : Int32) : Int32 := x + bsr x 8
def bi5 (x : Int32) : Int32 := x + bsr x 16
theorem bi_c : ∀ k : Nat, k < 128 → bi5 (bi4 (bi3 (bi2 (bi1 (nI k))))) &&& 63 = nI (pc7 k) := by decide +kernel
