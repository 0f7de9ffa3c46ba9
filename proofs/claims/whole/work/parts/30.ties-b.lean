/-! ties, second: saving, punching, closing, wearing, renewing, copying, comparing -/
theorem svU_at {α : Type} {g : Nat → α} {st : Nat} : ∀ (n : Nat), n ≤ 3 → ∀ z, svU g st n z = if 3 + st ≤ z ∧ z < 3 + st + n then g (z - (3 + st)) else g z
  | 0, _, z => by rw [if_neg (by omega)]; rfl
  | n + 1, hn, z => by
    have ih := svU_at (g := g) (st := st) n (by omega)
    show va_up (svU g st n) (3 + (st + n)) (svU g st n n) z = _
    by_cases e : z = 3 + (st + n)
    · subst e
      rw [va_up_e, ih, if_neg (by omega), if_pos (by omega)]
      congr 1; omega
    · rw [va_up_n _ _ e, ih]
      by_cases h : 3 + st ≤ z ∧ z < 3 + st + n
      · rw [if_pos h, if_pos (by omega)]
      · rw [if_neg h, if_neg (by omega)]
theorem dcU_at {α : Type} {g : Nat → α} : ∀ (n z : Nat), dcU g n z = if 3 ≤ z ∧ z < 3 + n then g (z + 3) else g z
  | 0, z => by rw [if_neg (by omega)]; rfl
  | n + 1, z => by
    have ih := dcU_at (g := g) n
    show va_up (dcU g n) (3 + n) (dcU g n (3 + (n + 3))) z = _
    by_cases e : z = 3 + n
    · subst e
      rw [va_up_e, ih, if_neg (by omega), if_pos (by omega)]
      exact congrArg g (by omega)
    · rw [va_up_n _ _ e, ih]
      by_cases h : 3 ≤ z ∧ z < 3 + n
      · rw [if_pos h, if_pos (by omega)]
      · rw [if_neg h, if_neg (by omega)]
theorem rsU_at {α : Type} {g : Nat → α} {st : Nat} : ∀ (n : Nat), n ≤ 3 → ∀ z, rsU g st n z = if z < n then g (3 + (st + z)) else g z
  | 0, _, z => by rw [if_neg (by omega)]; rfl
  | n + 1, hn, z => by
    have ih := rsU_at (g := g) (st := st) n (by omega)
    show va_up (rsU g st n) n (rsU g st n (3 + (st + n))) z = _
    by_cases e : z = n
    · subst e
      rw [va_up_e, ih, if_neg (by omega), if_pos (by omega)]
    · rw [va_up_n _ _ e, ih]
      by_cases h : z < n
      · rw [if_pos h, if_pos (by omega)]
      · rw [if_neg h, if_neg (by omega)]
theorem shU_at {α : Type} {g : Nat → α} : ∀ (n z : Nat), shU g n z = if 3 ≤ z ∧ z < 3 + 3 * n then g (z + 3) else g z
  | 0, z => by rw [if_neg (by omega)]; rfl
  | n + 1, z => by
    have ih := shU_at (g := g) n
    show (if z / 3 = n + 1 then shU g n (3 * (n + 2) + z % 3) else shU g n z) = _
    by_cases e : z / 3 = n + 1
    · rw [if_pos e, ih, if_neg (by omega), if_pos (by omega)]
      congr 1; omega
    · rw [if_neg e, ih]
      by_cases h : 3 ≤ z ∧ z < 3 + 3 * n
      · rw [if_pos h, if_pos (by omega)]
      · rw [if_neg h, if_neg (by omega)]
theorem mSv_sa {α : Type} (g : Nat → α) (kp : Nat) : mSv g kp = saU g kp := by
  funext z
  unfold mSv saU
  by_cases h : kp < 6
  · rw [if_pos h, if_pos h, svU_at 3 (Nat.le_refl _)]
    show (if z / 3 = kp + 1 then g (3 * 0 + z % 3) else g z) = _
    by_cases e : z / 3 = kp + 1
    · rw [if_pos e, if_pos (by omega)]; congr 1; omega
    · rw [if_neg e, if_neg (by omega)]
  · rw [if_neg h, if_neg h, svU_at 3 (Nat.le_refl _)]
    show (if z / 3 = 6 then shU g 5 (3 * 0 + z % 3) else shU g 5 z) = _
    by_cases e : z / 3 = 6
    · rw [if_pos e, if_pos (by omega), shU_at, dcU_at, if_neg (by omega), if_neg (by omega)]; congr 1; omega
    · rw [if_neg e, if_neg (by omega), shU_at, dcU_at]
theorem cpU_rs {α : Type} (g : Nat → α) {kp : Nat} (h : 0 < kp) : cpU g kp 0 = rsU g ((kp - 1) * 3) 3 := by
  funext z
  rw [rsU_at 3 (Nat.le_refl _)]
  show (if z / 3 = 0 then g (3 * kp + z % 3) else g z) = _
  by_cases e : z / 3 = 0
  · rw [if_pos e, if_pos (by omega)]; congr 1; omega
  · rw [if_neg e, if_neg (by omega)]
theorem or_same {w : Int64} {k : Nat} (hk : k < 64) (h : tb w k = true) : w ||| bitM k = w := by
  apply tb_ext
  intro j hj
  rw [tb_set hk hj]
  by_cases e : j = k
  · subst e; rw [h]; rfl
  · simp [e]
theorem clr_same {w : Int64} {k : Nat} (hk : k < 64) (h : tb w k = false) : w &&& (bitM k ^^^ (-1)) = w := by
  apply tb_ext
  intro j hj
  rw [tb_clr hk hj]
  by_cases e : j = k
  · subst e; rw [h]; rfl
  · simp [e]
theorem clr_same2 {w : Int64} {k : Nat} (hk : k < 64) (h : tb w k = false) : w &&& ~~~(bitM k) = w := by
  have := clr_same hk h
  simpa using this
theorem skF_pb {f : Int64} {k q : Nat} (hk : k < 64) (h : tb f k = false) (hq : q < 2) : skF f k q = pbF f k q := by
  unfold skF pbF
  rcases (show q = 0 ∨ q = 1 by omega) with rfl | rfl
  · rw [if_neg (by omega), if_pos rfl, clr_same hk h]
  · rw [if_pos (by omega), if_neg (by omega)]
theorem skB_pb {b : Int64} {k q : Nat} (hk : k < 64) (h : tb b k = false) (hq : q < 2) : skB b k q = pbB b k q := by
  unfold skB pbB
  rcases (show q = 0 ∨ q = 1 by omega) with rfl | rfl
  · rw [if_pos (by omega), if_pos rfl]
  · rw [if_neg (by omega), if_neg (by omega), clr_same hk h]
theorem pbF_n {f : Int64} {k q j : Nat} (hk : k < 64) (hj : j < 64) (h : j ≠ k) : tb (pbF f k q) j = tb f j := by
  unfold pbF; split
  · rfl
  · rw [tb_set hk hj]; simp [h]
theorem pbB_n {b : Int64} {k q j : Nat} (hk : k < 64) (hj : j < 64) (h : j ≠ k) : tb (pbB b k q) j = tb b j := by
  unfold pbB; split
  · rw [tb_set hk hj]; simp [h]
  · rfl
theorem pr_at {f b : Int64} {r v : Nat} (hr : r < 8) : ∀ (n : Nat), n ≤ 7 → ∀ j, n ≤ j → j < 8 → tb (prF f r v n) (8 * r + j) = tb f (8 * r + j) ∧ tb (prB b r v n) (8 * r + j) = tb b (8 * r + j)
  | 0, _, j, _, _ => ⟨rfl, rfl⟩
  | n + 1, hn, j, h1, h2 => by
    have ih := pr_at (f := f) (b := b) (v := v) hr n (by omega) j (by omega) h2
    exact ⟨(pbF_n (by omega) (by omega) (by omega)).trans ih.1, (pbB_n (by omega) (by omega) (by omega)).trans ih.2⟩
theorem bl_fb {f b : Int64} {k : Nat} (hk : k < 64) (h : tb (blW f b) k = true) : tb f k = false ∧ tb b k = false := by
  rw [tb_bl hk] at h
  cases h1 : tb f k <;> cases h2 : tb b k <;> simp_all
theorem pm_pr {f b : Int64} {r v : Nat} (hr : r < 8) (h : ∀ j, j < 8 → tb f (8 * r + j) = false ∧ tb b (8 * r + j) = false) : ∀ (n : Nat), n ≤ 7 → pmF f r v n = prF f r v n ∧ pmB b r v n = prB b r v n
  | 0, _ => ⟨rfl, rfl⟩
  | n + 1, hn => by
    have ih := pm_pr (v := v) hr h n (by omega)
    have ha := pr_at (f := f) (b := b) (v := v) hr n (by omega) n (Nat.le_refl _) (by omega)
    have hb := h n (by omega)
    refine ⟨?_, ?_⟩
    · show skF (pmF f r v n) (8 * r + n) (v / 2 ^ (6 - n) % 2) = pbF (prF f r v n) (8 * r + n) (v / 2 ^ (6 - n) % 2)
      rw [ih.1, skF_pb (by omega) (ha.1.trans hb.1) (Nat.mod_lt _ (by decide))]
    · show skB (pmB b r v n) (8 * r + n) (v / 2 ^ (6 - n) % 2) = pbB (prB b r v n) (8 * r + n) (v / 2 ^ (6 - n) % 2)
      rw [ih.2, skB_pb (by omega) (ha.2.trans hb.2) (Nat.mod_lt _ (by decide))]
theorem pn_pw {f b : Int64} {r v : Nat} (hr : r < 8) (hc : cpB f b r = true) : pnF f r v = pwF f r v ∧ pnB b r v = pwB b r v := by
  have h : ∀ j, j < 8 → tb f (8 * r + j) = false ∧ tb b (8 * r + j) = false := fun j hj => bl_fb (by omega) ((cp_iff hr).mp hc j hj)
  have h7 := pm_pr (v := v) hr h 7 (Nat.le_refl _)
  have ha := pr_at (f := f) (b := b) (v := v) hr 7 (Nat.le_refl _) 7 (Nat.le_refl _) (by decide)
  have hb := h 7 (by decide)
  refine ⟨?_, ?_⟩
  · show skF (pmF f r v 7) (8 * r + 7) (pc7 v % 2) = pbF (prF f r v 7) (8 * r + 7) (pc7 v % 2)
    rw [h7.1, skF_pb (by omega) (ha.1.trans hb.1) (Nat.mod_lt _ (by decide))]
  · show skB (pmB b r v 7) (8 * r + 7) (pc7 v % 2) = pbB (prB b r v 7) (8 * r + 7) (pc7 v % 2)
    rw [h7.2, skB_pb (by omega) (ha.2.trans hb.2) (Nat.mod_lt _ (by decide))]
theorem pk_at {ch f b : Int64} : ∀ (n : Nat), n ≤ 8 → ∀ j, n ≤ j → j < 8 → tb (pkF ch f n) (56 + j) = tb f (56 + j) ∧ tb (pkB ch b n) (56 + j) = tb b (56 + j)
  | 0, _, j, _, _ => ⟨rfl, rfl⟩
  | n + 1, hn, j, h1, h2 => by
    have ih := pk_at (ch := ch) (f := f) (b := b) n (by omega) j (by omega) h2
    exact ⟨(pbF_n (by omega) (by omega) (by omega)).trans ih.1, (pbB_n (by omega) (by omega) (by omega)).trans ih.2⟩
theorem cm_pk {f b : Int64} (h : ∀ j, j < 8 → tb f (56 + j) = false ∧ tb b (56 + j) = false) : ∀ (n : Nat), n ≤ 8 → cmF f b n = pkF (ckW f b) f n ∧ cmB f b n = pkB (ckW f b) b n
  | 0, _ => ⟨rfl, rfl⟩
  | n + 1, hn => by
    have ih := cm_pk h n (by omega)
    have ha := pk_at (ch := ckW f b) (f := f) (b := b) n (by omega) n (Nat.le_refl _) (by omega)
    have hb := h n (by omega)
    have hl := cbN_lt f b n
    refine ⟨?_, ?_⟩
    · show skF (cmF f b n) (56 + n) (cbN f b n) = pbF (pkF (ckW f b) f n) (56 + n) (cbN f b n)
      rw [ih.1, skF_pb (by omega) (ha.1.trans hb.1) hl]
    · show skB (cmB f b n) (56 + n) (cbN f b n) = pbB (pkB (ckW f b) b n) (56 + n) (cbN f b n)
      rw [ih.2, skB_pb (by omega) (ha.2.trans hb.2) hl]
theorem cc_cp {f b : Int64} (h : ccB f b = true) : cpB f b 7 = true := by
  rw [← cc_all, Bool.and_eq_true] at h; exact h.1
theorem cm_cl {f b : Int64} (h : ccB f b = true) : cmF f b 8 = clF f b ∧ cmB f b 8 = clB f b :=
  cm_pk (fun j hj => bl_fb (by omega) ((cp_iff (by decide)).mp (cc_cp h) j hj)) 8 (Nat.le_refl _)
theorem cm_on {f b : Int64} : ∀ (n : Nat), n ≤ 8 → ∀ j, j < n → tb (onW (cmF f b n) (cmB f b n)) (56 + j) = decide (cbN f b j = 1)
  | 0, _, j, hj => absurd hj (Nat.not_lt_zero _)
  | n + 1, hn, j, hj => by
    have hl := cbN_lt f b n
    show tb (onW (skF (cmF f b n) (56 + n) (cbN f b n)) (skB (cmB f b n) (56 + n) (cbN f b n))) (56 + j) = _
    unfold onW
    rw [tb_and, tb_not (by omega), skF_at (by omega) (by omega), skB_at (by omega) (by omega)]
    by_cases e : j = n
    · subst e
      rw [if_pos rfl, if_pos rfl]
      rcases (show cbN f b j = 0 ∨ cbN f b j = 1 by omega) with h | h <;> rw [h] <;> decide
    · rw [if_neg (by omega), if_neg (by omega)]
      have ih := cm_on (f := f) (b := b) n (by omega) j (by omega)
      unfold onW at ih
      rw [tb_and, tb_not (by omega)] at ih
      exact ih
theorem cs_cnt (f b : Int64) : ∀ n, csN f b n = cnt (fun j => decide (cbN f b j = 1)) n
  | 0 => rfl
  | n + 1 => by
    have hl := cbN_lt f b n
    show csN f b n + cbN f b n = cnt (fun j => decide (cbN f b j = 1)) n + (if decide (cbN f b n = 1) = true then 1 else 0)
    rw [cs_cnt f b n]
    rcases (show cbN f b n = 0 ∨ cbN f b n = 1 by omega) with h | h <;> rw [h] <;> rfl
theorem cs_pc {f b : Int64} (h : ccB f b = true) : csN f b 8 = pc (onW (clF f b) (clB f b) &&& rowM 7) := by
  rw [cs_cnt, ← (cm_cl h).1, ← (cm_cl h).2]
  have h1 : pc (onW (cmF f b 8) (cmB f b 8) &&& rowM 7) = cnt (fun k => tb (lineM 7) k && tb (onW (cmF f b 8) (cmB f b 8)) k) 64 := by
    unfold pc
    apply cnt_cong
    intro k hk
    rw [tb_and, lineM_lo (by decide), Bool.and_comm]
  rw [h1, cnt_line _ 7 (by decide)]
  apply cnt_cong
  intro j hj
  exact (cm_on 8 (Nat.le_refl _) j hj).symm
theorem sk_sh {f b : Int64} {k : Nat} {bk ho : Bool} (hk : k < 64) (h : hoB f b bk k = !ho) : skF f k (tgN f b k bk) = shF f bk k ho ∧ skB b k (tgN f b k bk) = shB b bk k ho := by
  unfold hoB at h
  unfold skF skB shF shB shW tgN
  cases bk
  · simp only [Bool.false_eq_true, ↓reduceIte] at h ⊢
    have hf : ho = !tb f k := by rw [h]; simp
    subst hf
    cases h1 : tb f k <;> cases h2 : tb b k <;> simp [clr_same2 hk, or_same hk, h1, h2]
  · simp only [↓reduceIte] at h ⊢
    have hf : ho = !tb b k := by rw [h]; simp
    subst hf
    cases h1 : tb f k <;> cases h2 : tb b k <;> simp [clr_same2 hk, or_same hk, h1, h2]
theorem cu_ho (f b : Int64) : ∀ n, cnt (fun k => decide (kdI f b k = 0)) n + cnt (fun k => decide (kdI f b k = 1)) n + 2 * cnt (fun k => decide (kdI f b k = 3)) n = cnt (tb f) n + cnt (tb b) n
  | 0 => rfl
  | n + 1 => by
    have ih := cu_ho f b n
    show (cnt _ n + (if decide (kdI f b n = 0) = true then 1 else 0)) + (cnt _ n + (if decide (kdI f b n = 1) = true then 1 else 0)) + 2 * (cnt _ n + (if decide (kdI f b n = 3) = true then 1 else 0)) = (cnt (tb f) n + (if tb f n = true then 1 else 0)) + (cnt (tb b) n + (if tb b n = true then 1 else 0))
    rcases (show tb f n = true ∨ tb f n = false by cases tb f n <;> simp) with h1 | h1 <;> rcases (show tb b n = true ∨ tb b n = false by cases tb b n <;> simp) with h2 | h2
    · rw [show kdI f b n = 3 by unfold kdI; rw [h1, h2]; rfl, h1, h2, show decide ((3 : Int32) = 0) = false by decide, show decide ((3 : Int32) = 1) = false by decide, show decide ((3 : Int32) = 3) = true by decide]; simp only [Bool.false_eq_true, ↓reduceIte]; omega
    · rw [show kdI f b n = 1 by unfold kdI; rw [h1, h2]; rfl, h1, h2, show decide ((1 : Int32) = 0) = false by decide, show decide ((1 : Int32) = 1) = true by decide, show decide ((1 : Int32) = 3) = false by decide]; simp only [Bool.false_eq_true, ↓reduceIte]; omega
    · rw [show kdI f b n = 0 by unfold kdI; rw [h1, h2]; rfl, h1, h2, show decide ((0 : Int32) = 0) = true by decide, show decide ((0 : Int32) = 1) = false by decide, show decide ((0 : Int32) = 3) = false by decide]; simp only [Bool.false_eq_true, ↓reduceIte]; omega
    · rw [show kdI f b n = 2 by unfold kdI; rw [h1, h2]; rfl, h1, h2, show decide ((2 : Int32) = 0) = false by decide, show decide ((2 : Int32) = 1) = false by decide, show decide ((2 : Int32) = 3) = false by decide]; simp only [Bool.false_eq_true, ↓reduceIte]; omega
theorem cu_holes (f b : Int64) : cuN f b 0 + cuN f b 1 + 2 * cuN f b 3 = pc f + pc b := cu_ho f b 64
theorem cy_at {kn on : Int64} : ∀ (n : Nat), n ≤ 64 → ∀ j, j < 64 → tb (cyF kn on n) j = (decide (j < n) && tb kn j && tb on j) ∧ tb (cyB kn on n) j = (decide (j < n) && tb kn j && !tb on j)
  | 0, _, j, _ => by
    refine ⟨?_, ?_⟩
    · show tb 0 j = _; rw [tb_0]; simp
    · show tb 0 j = _; rw [tb_0]; simp
  | n + 1, hn, j, hj => by
    obtain ⟨i1, i2⟩ := cy_at (kn := kn) (on := on) n (by omega) j hj
    refine ⟨?_, ?_⟩
    · show tb (skF (cyF kn on n) n (if tb kn n then (if tb on n then 1 else 0) else 2)) j = _
      rw [skF_at (by omega) hj, i1]
      by_cases e : j = n
      · subst e; rw [if_pos rfl]
        cases h1 : tb kn j <;> cases h2 : tb on j <;> simp
      · rw [if_neg e, decide_eq_decide.mpr (show j < n ↔ j < n + 1 by omega)]
    · show tb (skB (cyB kn on n) n (if tb kn n then (if tb on n then 1 else 0) else 2)) j = _
      rw [skB_at (by omega) hj, i2]
      by_cases e : j = n
      · subst e; rw [if_pos rfl]
        cases h1 : tb kn j <;> cases h2 : tb on j <;> simp
      · rw [if_neg e, decide_eq_decide.mpr (show j < n ↔ j < n + 1 by omega)]
theorem cy_on {kn on : Int64} (h : okS (kn, on)) : cyF kn on 64 = on ∧ cyB kn on 64 = kn &&& (on ^^^ (-1)) := by
  refine ⟨?_, ?_⟩
  · apply tb_ext
    intro j hj
    rw [(cy_at 64 (Nat.le_refl _) j hj).1, decide_eq_true hj, Bool.true_and]
    have h2 := h j hj
    cases h3 : tb on j
    · simp
    · rw [show tb kn j = true from h2 h3]; rfl
  · apply tb_ext
    intro j hj
    rw [(cy_at 64 (Nat.le_refl _) j hj).2, decide_eq_true hj, Bool.true_and, tb_and, tb_not hj]
theorem bl_cy {kn on : Int64} (h : okS (kn, on)) : blW on (kn &&& (on ^^^ (-1))) = kn ^^^ (-1) := by
  apply tb_ext
  intro j hj
  rw [tb_bl hj, tb_and, tb_not hj, tb_not hj]
  have h2 := h j hj
  cases h3 : tb on j
  · simp
  · rw [show tb kn j = true from h2 h3]; rfl
theorem shb_tb {w : Int64} {k : Nat} (hk : k < 64) : shb w k = 1 ↔ tb w k = true := by
  have hb : (shb w k).toBitVec = BitVec.sshiftRight w.toBitVec k &&& 1#64 := by
    unfold shb
    rw [wb_c k hk, Int64.toBitVec_and, Int64.toBitVec_shiftRight]
    have h3 : ((lN k).toBitVec.smod 64).toNat = k := by
      revert k; decide +kernel
    show BitVec.sshiftRight w.toBitVec ((lN k).toBitVec.smod 64).toNat &&& 1#64 = _
    rw [h3]
  have h0 : (BitVec.sshiftRight w.toBitVec k).getLsbD 0 = tb w k := by
    rw [BitVec.getLsbD_sshiftRight]
    simp [hk, tb]
  constructor
  · intro h
    have h4 := congrArg Int64.toBitVec h
    rw [hb] at h4
    have h5 := congrArg (fun z => BitVec.getLsbD z 0) h4
    simp only [BitVec.getLsbD_and, h0] at h5
    cases h6 : tb w k
    · rw [h6] at h5; exact absurd h5 (by decide)
    · rfl
  · intro h
    apply wb_inj
    rw [hb]
    apply BitVec.eq_of_getLsbD_eq
    intro i hi
    rw [BitVec.getLsbD_and]
    by_cases e : i = 0
    · subst e; rw [h0, h]; decide
    · have : (1#64).getLsbD i = false := by rw [BitVec.getLsbD_one]; simp [e]
      rw [this, Bool.and_false]
      show false = (1#64).getLsbD i
      rw [this]
theorem dfO_at {kn on : Int64} : ∀ (n : Nat), n ≤ 64 → ∀ j, j < 64 → tb (dfO kn on n) j = (decide (j < n) && decide (biI kn on j = 1)) ∧ tb (dfZ kn on n) j = (decide (j < n) && decide (biI kn on j = 0))
  | 0, _, j, _ => by
    refine ⟨?_, ?_⟩
    · show tb 0 j = _; rw [tb_0]; simp
    · show tb 0 j = _; rw [tb_0]; simp
  | n + 1, hn, j, hj => by
    obtain ⟨i1, i2⟩ := dfO_at (kn := kn) (on := on) n (by omega) j hj
    have key : ∀ (w : Int64) (p : Nat → Prop) [DecidablePred p], tb w j = (decide (j < n) && decide (p j)) → tb (w ||| (if p n then bitM n else 0)) j = (decide (j < n + 1) && decide (p j)) := by
      intro w p _ hw
      by_cases hp : p n
      · rw [if_pos hp, tb_set (by omega) hj, hw]
        by_cases e : j = n
        · subst e; simp [hp]
        · rw [decide_eq_false e, Bool.or_false, decide_eq_decide.mpr (show j < n ↔ j < n + 1 by omega)]
      · rw [if_neg hp, tb_or, tb_0, Bool.or_false, hw]
        by_cases e : j = n
        · subst e; simp [hp]
        · rw [decide_eq_decide.mpr (show j < n ↔ j < n + 1 by omega)]
    exact ⟨key (dfO kn on n) (fun i => biI kn on i = 1) i1, key (dfZ kn on n) (fun i => biI kn on i = 0) i2⟩
theorem df_pc (kn on kn2 on2 : Int64) : cnt (dfB (dfO kn on 64) (dfZ kn on 64) kn2 on2) 64 = pc ((kn &&& kn2) &&& (on ^^^ on2)) := by
  unfold pc
  apply cnt_cong
  intro k hk
  have h1 : dfB (dfO kn on 64) (dfZ kn on 64) kn2 on2 k = decide ((biI kn2 on2 k = 0 ∧ biI kn on k = 1) ∨ (biI kn2 on2 k = 1 ∧ biI kn on k = 0)) := by
    unfold dfB
    apply decide_eq_decide.mpr
    rw [shb_tb hk, shb_tb hk, (dfO_at 64 (Nat.le_refl _) k hk).1, (dfO_at 64 (Nat.le_refl _) k hk).2, decide_eq_true hk, Bool.true_and, Bool.true_and, decide_eq_true_eq, decide_eq_true_eq]
  rw [h1, tb_and, tb_and, tb_xor]
  unfold biI
  cases tb kn k <;> cases tb on k <;> cases tb kn2 k <;> cases tb on2 k <;> decide
