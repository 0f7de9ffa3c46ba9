/-! what 'acts' rests on -/
theorem i64_asc (a b : Int64) : a + b - b = a := Int64.toBitVec_inj.mp (by rw [Int64.toBitVec_sub, Int64.toBitVec_add]; exact BitVec.add_sub_cancel _ _)
def kq (cs : Nat → Cd) : Int64 := 31 * (31 * (31 * kiH cs 192))
theorem ki_q0 (h a b c : Int64) : 31 * (31 * (31 * h + a) + b) + c - c - 31 * b - 961 * a = 31 * (31 * (31 * h)) := by
  rw [i64_asc, Int64.mul_add, i64_asc, Int64.mul_add, Int64.mul_add, ← Int64.mul_assoc (31 : Int64) 31 a, show (31 : Int64) * 31 = 961 by decide, i64_asc]
theorem ki_q (cs : Nat → Cd) : kiC cs - (nI (cs 2).2.2).toInt64 - 31 * (nI (cs 1).2.2).toInt64 - 961 * (nI (cs 0).2.2).toInt64 = kq cs := ki_q0 _ _ _ _
theorem kq_cong {c1 c2 : Nat → Cd} (h : ∀ k, (c1 k).1 = (c2 k).1 ∧ (c1 k).2.1 = (c2 k).2.1) : kq c1 = kq c2 := by
  have e : ∀ n, kiH c1 n = kiH c2 n := by
    intro n
    induction n with
    | zero => rfl
    | succ n ih =>
      show 31 * kiH c1 n + (nI (kdN (c1 (n / 64)).1 (c1 (n / 64)).2.1 (8 * (n / 8 % 8) + n % 8))).toInt64 = 31 * kiH c2 n + (nI (kdN (c2 (n / 64)).1 (c2 (n / 64)).2.1 (8 * (n / 8 % 8) + n % 8))).toInt64
      rw [ih, (h (n / 64)).1, (h (n / 64)).2]
  unfold kq
  rw [e 192]
theorem kq_turn (cs : Nat → Cd) (k v : Nat) : kq (va_up cs k ((cs k).1, (cs k).2.1, v)) = kq cs := kq_cong (fun j => by
  by_cases e : j = k
  · subst e; rw [va_up_e]; exact ⟨rfl, rfl⟩
  · rw [va_up_n _ _ e]; exact ⟨rfl, rfl⟩)
/-- the telling comes to rest -/
theorem fa_rest (s : Int64 × Int64) : rd (rdn s 65) = rdn s 65 := by
  have h : ∃ r, r ≤ 64 ∧ (rdn s (r + 1)).1 = (rdn s r).1 := by
    by_cases h : ∃ r, r ≤ 64 ∧ (rdn s (r + 1)).1 = (rdn s r).1
    · exact h
    · exfalso
      have hg : ∀ r, r ≤ 65 → r ≤ pc (rdn s r).1 := by
        intro r
        induction r with
        | zero => intro _; exact Nat.zero_le _
        | succ r ih =>
          intro hr
          refine go_up ?_ (ih (by omega))
          show decide (¬ (rdn s (r + 1)).1 = (rdn s r).1) = true
          exact decide_eq_true (fun he => h ⟨r, by omega, he⟩)
      have h1 := hg 65 (Nat.le_refl _)
      have h2 := pc_le (rdn s 65).1
      omega
  obtain ⟨r, hr, he⟩ := h
  rw [rdn_stop he 65 (by omega)]
  exact rd_same he
theorem fa_fix (sd so : Int64) : fa (fa sd so).1 (fa sd so).2 = fa sd so := by
  show rdn (rdn (sd, so) 65) 65 = rdn (sd, so) 65
  have h : ∀ n, rdn (rdn (sd, so) 65) n = rdn (sd, so) 65 := by
    intro n
    induction n with
    | zero => rfl
    | succ n ih =>
      show rd (rdn (rdn (sd, so) 65) n) = _
      rw [ih]
      exact fa_rest _
  exact h 65
theorem okT (c : Cd) : okS (tK c, tO c) := ok_rdn (ok_sd c.1 c.2.1) 65
theorem cp_bl (c : Cd) : blW (tO c) (tK c &&& (tO c ^^^ (-1))) = tK c ^^^ (-1) := bl_cy (okT c)
theorem cp_sd (c : Cd) : sdW (tO c) (tK c &&& (tO c ^^^ (-1))) = tK c := tb_ext (fun j hj => by
  have h : tb (tO c) j = true → tb (tK c) j = true := okT c j hj
  rw [tb_sd, tb_and, tb_not hj]
  cases ho : tb (tO c) j
  · simp
  · rw [h ho]; rfl)
theorem cp_on (c : Cd) : onW (tO c) (tK c &&& (tO c ^^^ (-1))) = tO c := tb_ext (fun j hj => by
  rw [tb_on hj, tb_and, tb_not hj]
  cases tb (tO c) j <;> simp)
theorem cp_K (c : Cd) (v : Nat) : tK (tO c, tK c &&& (tO c ^^^ (-1)), v) = tK c := by
  show (fa (sdW (tO c) (tK c &&& (tO c ^^^ (-1)))) (onW (tO c) (tK c &&& (tO c ^^^ (-1))))).1 = _
  rw [cp_sd, cp_on]
  exact congrArg Prod.fst (fa_fix (sdW c.1 c.2.1) (onW c.1 c.2.1))
theorem cp_O (c : Cd) (v : Nat) : tO (tO c, tK c &&& (tO c ^^^ (-1)), v) = tO c := by
  show (fa (sdW (tO c) (tK c &&& (tO c ^^^ (-1)))) (onW (tO c) (tK c &&& (tO c ^^^ (-1))))).2 = _
  rw [cp_sd, cp_on]
  exact congrArg Prod.snd (fa_fix (sdW c.1 c.2.1) (onW c.1 c.2.1))
theorem cp_3 (c : Cd) : pc (kdW (tO c) (tK c &&& (tO c ^^^ (-1))) 3) = 0 := by
  show pc (tO c &&& (tK c &&& (tO c ^^^ (-1)))) = 0
  rw [show tO c &&& (tK c &&& (tO c ^^^ (-1))) = 0 from tb_ext (fun j hj => by rw [tb_and, tb_and, tb_not hj, tb_0]; cases tb (tO c) j <;> simp)]
  exact pc_0
theorem pc_xx (a x : Int64) : pc (a &&& (x ^^^ x)) = 0 := by
  rw [show a &&& (x ^^^ x) = 0 from tb_ext (fun j hj => by rw [tb_and, tb_xor, tb_0]; cases tb x j <;> simp)]
  exact pc_0
theorem pc_bl0 : pc (kdW 0 0 2) = 64 := by decide +kernel
-- wearing and losing, as seen
theorem shW_at {w : Int64} {z j : Nat} {ho : Bool} (hz : z < 64) (hj : j < 64) : tb (shW w z ho) j = if j = z then ho else tb w j := by
  unfold shW
  cases ho
  · rw [if_neg (by decide), tb_clr hz hj]
    by_cases e : j = z
    · rw [if_pos e, decide_eq_true e]; simp
    · rw [if_neg e, decide_eq_false e]; simp
  · rw [if_pos rfl, tb_set hz hj]
    by_cases e : j = z
    · rw [if_pos e, decide_eq_true e]; simp
    · rw [if_neg e, decide_eq_false e]; simp
theorem sc_inj {v r q c : Nat} (hq : q < 8) (hc : c < 8) : scN v r c = scN v r q ↔ c = q := by
  unfold scN
  split <;> split <;> omega
theorem sh_set {f b : Int64} {v r q c : Nat} {ho : Bool} (hr : r < 8) (hq : q < 8) (hc : c < 8) : shB1 (shF f (sbB v) (scN v r q) ho) (shB b (sbB v) (scN v r q) ho) v r c = if c = q then ho else shB1 f b v r c := by
  have h1 := scN_lt (v := v) hr hq
  have h2 := scN_lt (v := v) hr hc
  unfold shB1 hoB shF shB
  cases sbB v
  · show tb (shW f (scN v r q) ho) (scN v r c) = if c = q then ho else tb f (scN v r c)
    rw [shW_at h1 h2]
    by_cases e : c = q
    · rw [if_pos e, if_pos ((sc_inj hq hc).mpr e)]
    · rw [if_neg e, if_neg (fun h => e ((sc_inj hq hc).mp h))]
  · show tb (shW b (scN v r q) ho) (scN v r c) = if c = q then ho else tb b (scN v r c)
    rw [shW_at h1 h2]
    by_cases e : c = q
    · rw [if_pos e, if_pos ((sc_inj hq hc).mpr e)]
    · rw [if_neg e, if_neg (fun h => e ((sc_inj hq hc).mp h))]
theorem b8_set : ∀ a b c d e f g h : Bool, b8 true b c d e f g h = b8 false b c d e f g h + 128 ∧ b8 a true c d e f g h = b8 a false c d e f g h + 64 ∧ b8 a b true d e f g h = b8 a b false d e f g h + 32 ∧ b8 a b c true e f g h = b8 a b c false e f g h + 16 ∧ b8 a b c d true f g h = b8 a b c d false f g h + 8 ∧ b8 a b c d e true g h = b8 a b c d e false g h + 4 ∧ b8 a b c d e f true h = b8 a b c d e f false h + 2 ∧ b8 a b c d e f g true = b8 a b c d e f g false + 1 := by decide +kernel
theorem by8_up (p : Nat → Bool) {q : Nat} (hq : q < 8) : by8 (fun c => if c = q then true else p c) 8 = by8 (fun c => if c = q then false else p c) 8 + 128 / 2 ^ q := by
  have h := b8_set (p 0) (p 1) (p 2) (p 3) (p 4) (p 5) (p 6) (p 7)
  rcases (show q = 0 ∨ q = 1 ∨ q = 2 ∨ q = 3 ∨ q = 4 ∨ q = 5 ∨ q = 6 ∨ q = 7 by omega) with rfl | rfl | rfl | rfl | rfl | rfl | rfl | rfl
  · exact h.1
  · exact h.2.1
  · exact h.2.2.1
  · exact h.2.2.2.1
  · exact h.2.2.2.2.1
  · exact h.2.2.2.2.2.1
  · exact h.2.2.2.2.2.2.1
  · exact h.2.2.2.2.2.2.2
theorem by8_id {p : Nat → Bool} {q : Nat} {v : Bool} (h : p q = v) : by8 (fun c => if c = q then v else p c) 8 = by8 p 8 := by
  refine by8_cong (fun c hc => ?_)
  show (if c = q then v else p c) = p c
  by_cases e : c = q
  · rw [if_pos e, e, h]
  · rw [if_neg e]
theorem raw_set {f b : Int64} {v r q : Nat} {ho : Bool} (hr : r < 8) (hq : q < 8) : rwN (shF f (sbB v) (scN v r q) ho) (shB b (sbB v) (scN v r q) ho) v r 8 = by8 (fun c => if c = q then ho else shB1 f b v r c) 8 := by
  rw [rw_by]
  exact by8_cong (fun c hc => sh_set hr hq hc)
theorem raw_we {f b : Int64} {v r q : Nat} (hr : r < 8) (hq : q < 8) (h : shB1 f b v r q = false) : rwN (shF f (sbB v) (scN v r q) true) (shB b (sbB v) (scN v r q) true) v r 8 = by8 (shB1 f b v r) 8 + 128 / 2 ^ q := by
  rw [raw_set hr hq, by8_up _ hq, by8_id h]
theorem raw_lo {f b : Int64} {v r q : Nat} (hr : r < 8) (hq : q < 8) (h : shB1 f b v r q = true) : rwN (shF f (sbB v) (scN v r q) false) (shB b (sbB v) (scN v r q) false) v r 8 + 128 / 2 ^ q = by8 (shB1 f b v r) 8 := by
  rw [raw_set hr hq, ← by8_up _ hq, by8_id h]
theorem ng_sub {a m : Nat} : nI (a + m) + -(nI m) = nI a := by
  apply Int32.toBitVec_inj.mp
  rw [Int32.toBitVec_add, Int32.toBitVec_neg]
  show BitVec.ofNat 32 (a + m) + -(BitVec.ofNat 32 m) = BitVec.ofNat 32 a
  rw [BitVec.ofNat_add, ← BitVec.sub_eq_add_neg, BitVec.add_sub_cancel]
-- closing
theorem pk_is {ch f b : Int64} (hb : ∀ j, j < 8 → tb f (56 + j) = false ∧ tb b (56 + j) = false) : ∀ (n : Nat), n ≤ 8 → ∀ j, j < n → (tb (pkF ch f n) (56 + j) ^^ tb (pkB ch b n) (56 + j)) = true
  | 0, _, j, h => absurd h (Nat.not_lt_zero _)
  | n + 1, hn, j, hj => by
    show (tb (pbF (pkF ch f n) (8 * 7 + n) (if od (ch &&& colM n) then 1 else 0)) (56 + j) ^^ tb (pbB (pkB ch b n) (8 * 7 + n) (if od (ch &&& colM n) then 1 else 0)) (56 + j)) = true
    by_cases e : j = n
    · subst e
      obtain ⟨h1, h2⟩ := pk_at (ch := ch) (f := f) (b := b) j (by omega) j (Nat.le_refl _) (by omega)
      obtain ⟨h3, h4⟩ := hb j (by omega)
      cases od (ch &&& colM j)
      · show (tb (pkF ch f j) (56 + j) ^^ tb (pkB ch b j ||| bitM (8 * 7 + j)) (56 + j)) = true
        rw [tb_set (by omega) (by omega), h1, h3, decide_eq_true (show 56 + j = 8 * 7 + j by omega)]; simp
      · show (tb (pkF ch f j ||| bitM (8 * 7 + j)) (56 + j) ^^ tb (pkB ch b j) (56 + j)) = true
        rw [tb_set (by omega) (by omega), h2, h4, decide_eq_true (show 56 + j = 8 * 7 + j by omega)]; simp
    · rw [pbF_n (by omega) (by omega) (by omega), pbB_n (by omega) (by omega) (by omega)]
      exact pk_is hb n (by omega) j (by omega)
theorem pk_lo {ch f b : Int64} : ∀ (n : Nat), n ≤ 8 → ∀ z, z < 56 → tb (pkF ch f n) z = tb f z ∧ tb (pkB ch b n) z = tb b z
  | 0, _, z, _ => ⟨rfl, rfl⟩
  | n + 1, hn, z, hz => by
    have ih := pk_lo (ch := ch) (f := f) (b := b) n (by omega) z hz
    exact ⟨(pbF_n (by omega) (by omega) (by omega)).trans ih.1, (pbB_n (by omega) (by omega) (by omega)).trans ih.2⟩
theorem cl_sd {f b : Int64} (h : ccB f b = true) : pc (sdW (clF f b) (clB f b)) = 64 := by
  have hb : ∀ j, j < 8 → tb f (56 + j) = false ∧ tb b (56 + j) = false := fun j hj => bl_fb (by omega) ((cp_iff (by decide)).mp (cc_cp h) j hj)
  rw [show sdW (clF f b) (clB f b) = -1 from tb_ext (fun z hz => by
    rw [tb_m1 z hz, tb_sd]
    show (tb (pkF (ckW f b) f 8) z ^^ tb (pkB (ckW f b) b 8) z) = true
    by_cases e : z < 56
    · obtain ⟨h1, h2⟩ := pk_lo (ch := ckW f b) (f := f) (b := b) 8 (Nat.le_refl _) z e
      rw [h1, h2, ← tb_sd]
      exact cc_sd h z e
    · obtain ⟨j, rfl⟩ : ∃ j, z = 56 + j := ⟨z - 56, by omega⟩
      exact pk_is hb 8 (Nat.le_refl _) j (by omega))]
  exact pc_m1
theorem dc_1 : Op.cmpValue (FP.dcmp (n64 64) FP.dconst1) .l = 0 := by decide +kernel
-- punching
theorem pr_is {f b : Int64} {r v : Nat} (hr : r < 7) (hb : ∀ j, j < 8 → tb f (8 * r + j) = false ∧ tb b (8 * r + j) = false) : ∀ (n : Nat), n ≤ 7 → ∀ j, j < n → tb (prF f r v n) (8 * r + j) = decide (v / 2 ^ (6 - j) % 2 = 1) ∧ tb (prB b r v n) (8 * r + j) = decide (v / 2 ^ (6 - j) % 2 = 0)
  | 0, _, j, h => absurd h (Nat.not_lt_zero _)
  | n + 1, hn, j, hj => by
    show tb (pbF (prF f r v n) (8 * r + n) (v / 2 ^ (6 - n) % 2)) (8 * r + j) = _ ∧ tb (pbB (prB b r v n) (8 * r + n) (v / 2 ^ (6 - n) % 2)) (8 * r + j) = _
    by_cases e : j = n
    · subst e
      obtain ⟨h1, h2⟩ := pr_at (f := f) (b := b) (v := v) (r := r) (by omega) j (by omega) j (Nat.le_refl _) (by omega)
      obtain ⟨h3, h4⟩ := hb j (by omega)
      rw [h3] at h1
      rw [h4] at h2
      have hm : v / 2 ^ (6 - j) % 2 = 0 ∨ v / 2 ^ (6 - j) % 2 = 1 := by omega
      unfold pbF pbB
      rcases hm with hm | hm
      · rw [hm, if_pos rfl, if_pos rfl, tb_set (by omega) (by omega), h1]; simp
      · rw [hm, if_neg (by decide), if_neg (by decide), tb_set (by omega) (by omega), h2]; simp
    · rw [pbF_n (by omega) (by omega) (by omega), pbB_n (by omega) (by omega) (by omega)]
      exact pr_is hr hb n (by omega) j (by omega)
theorem pw_is {f b : Int64} {r v : Nat} (hr : r < 7) (h : cpB f b r = true) : ∀ j, j < 7 → tb (pwF f r v) (8 * r + j) = decide (v / 2 ^ (6 - j) % 2 = 1) ∧ tb (pwB b r v) (8 * r + j) = decide (v / 2 ^ (6 - j) % 2 = 0) := by
  have hb : ∀ j, j < 8 → tb f (8 * r + j) = false ∧ tb b (8 * r + j) = false := fun j hj => bl_fb (by omega) ((cp_iff (by omega)).mp h j hj)
  intro j hj
  unfold pwF pwB
  rw [pbF_n (by omega) (by omega) (by omega), pbB_n (by omega) (by omega) (by omega)]
  exact pr_is hr hb 7 (Nat.le_refl _) j hj
def vN (v : Nat) : Nat → Nat
  | 0 => 0
  | n + 1 => 2 * vN v n + v / 2 ^ (6 - n) % 2
theorem vN_7 : ∀ v, v < 128 → vN v 7 = v := by decide +kernel
theorem pw_read {f b : Int64} {r v : Nat} (hr : r < 7) (hv : v < 128) (h : cpB f b r = true) : rvI (sdW (pwF f r v) (pwB b r v)) (onW (pwF f r v) (pwB b r v)) r = nI v := by
  have hp := pw_is (v := v) hr h
  have hm : ∀ j, v / 2 ^ (6 - j) % 2 = 0 ∨ v / 2 ^ (6 - j) % 2 = 1 := fun j => by omega
  have h1 : allB (fun j => tb (sdW (pwF f r v) (pwB b r v)) (8 * r + j)) 7 = true := allB_iff.mpr (fun j hj => by
    show tb (sdW _ _) (8 * r + j) = true
    rw [tb_sd, (hp j hj).1, (hp j hj).2]
    rcases hm j with e | e <;> rw [e] <;> rfl)
  have h2 : ∀ n, n ≤ 7 → rvN (onW (pwF f r v) (pwB b r v)) r n = vN v n := by
    intro n
    induction n with
    | zero => intro _; rfl
    | succ n ih =>
      intro hn
      show 2 * rvN _ r n + (if tb (onW (pwF f r v) (pwB b r v)) (8 * r + n) then 1 else 0) = 2 * vN v n + v / 2 ^ (6 - n) % 2
      rw [ih (by omega), tb_on (by omega), (hp n (by omega)).1, (hp n (by omega)).2]
      rcases hm n with e | e <;> rw [e] <;> rfl
  unfold rvI
  rw [h1, if_pos rfl, h2 7 (Nat.le_refl _), vN_7 v hv]
theorem pw_kind {f b : Int64} {r v : Nat} (hr : r < 7) (h : cpB f b r = true) : kdN (pwF f r v) (pwB b r v) (8 * r + 7) = pc7 v % 2 := by
  have hb := bl_fb (by omega) ((cp_iff (by omega)).mp h 7 (by decide))
  obtain ⟨h1, h2⟩ := pr_at (f := f) (b := b) (v := v) (r := r) (by omega) 7 (Nat.le_refl _) 7 (Nat.le_refl _) (by decide)
  rw [hb.1] at h1
  rw [hb.2] at h2
  have hm : pc7 v % 2 = 0 ∨ pc7 v % 2 = 1 := by omega
  unfold kdN pwF pwB pbF pbB
  rcases hm with e | e
  · rw [e, if_pos rfl, if_pos rfl, h1, tb_set (by omega) (by omega)]; simp
  · rw [e]
    show (if tb (prF f r v 7 ||| bitM (8 * r + 7)) (8 * r + 7) then (if tb (prB b r v 7) (8 * r + 7) then 3 else 1) else (if tb (prB b r v 7) (8 * r + 7) then 0 else 2)) = 1
    rw [h2, tb_set (by omega) (by omega)]; simp
theorem nI_ne1 {n : Nat} (h : n < 128) : ¬ nI n = -1 := by
  intro h2
  have h3 := congrArg Int32.toInt h2
  rw [nI_toInt (by omega)] at h3
  have : (-1 : Int32).toInt = -1 := by decide
  omega
theorem pw_value {f b : Int64} {r v : Nat} {w : Nat} (hr : r < 7) (hv : v < 128) (h : cpB f b r = true) : rvI (tK (pwF f r v, pwB b r v, w)) (tO (pwF f r v, pwB b r v, w)) r = nI v := by
  have h1 := pw_read hr hv h
  exact (rv_same hr (by rw [h1]; exact nI_ne1 hv)).trans h1
-- where a blank row is looked for
def sr (P : Nat → Bool) : Nat → Nat
  | 0 => 0
  | n + 1 => if sr P n < n then sr P n else if P n then n else n + 1
theorem sr_no {P : Nat → Bool} {i : Nat} (h : sr P i = i) (hp : P i = false) : sr P (i + 1) = i + 1 := by
  show (if sr P i < i then sr P i else if P i then i else i + 1) = i + 1
  rw [h, if_neg (Nat.lt_irrefl _), hp]; rfl
theorem sr_hit {P : Nat → Bool} {i : Nat} (h : sr P i = i) (hp : P i = true) : ∀ n, i < n → sr P n = i
  | 0, hn => absurd hn (Nat.not_lt_zero _)
  | n + 1, hn => by
    show (if sr P n < n then sr P n else if P n then n else n + 1) = i
    by_cases e : i = n
    · subst e
      rw [h, if_neg (Nat.lt_irrefl _), hp, if_pos rfl]
    · rw [sr_hit h hp n (by omega), if_pos (by omega)]
theorem sr_end {P : Nat → Bool} {i : Nat} (h1 : i ≤ 7) (h2 : 7 ≤ i) (h : sr P i = i) : sr P 7 = i := by
  have e : i = 7 := by omega
  subst e
  exact h
def xlN (x : Nat) : Nat → Nat
  | 0 => 0
  | i + 1 => (xlN x i + x / 2 ^ i % 2) % 2
theorem xlN_lt (x : Nat) : ∀ i, xlN x i < 2
  | 0 => by show 0 < 2; decide
  | i + 1 => Nat.mod_lt _ (by decide)
theorem xlN_7 : ∀ x, x < 128 → xlN x 7 = pc7 x % 2 := by decide +kernel
/-- what one deed does to the cards -/
def actW (n k r q j2 v4 u : Nat) (cs : Nat → Cd) : Nat → Cd :=
  if n = 0 then va_up cs k (0, 0, 0)
  else if n = 1 then va_up cs ((k + 1 + j2) % 3) (tO (cs k), tK (cs k) &&& (tO (cs k) ^^^ (-1)), 0)
  else if n = 2 then va_up cs k ((cs k).1, (cs k).2.1, v4)
  else if n < 5 then (if ccB (cs k).1 (cs k).2.1 then va_up cs k (clF (cs k).1 (cs k).2.1, clB (cs k).1 (cs k).2.1, (cs k).2.2) else va_up cs k ((cs k).1, (cs k).2.1, (cs k).2.2))
  else if n < 8 then va_up cs k (shF (cs k).1 (sbB (cs k).2.2) (scN (cs k).2.2 r q) (!shB1 (cs k).1 (cs k).2.1 (cs k).2.2 r q), shB (cs k).2.1 (sbB (cs k).2.2) (scN (cs k).2.2 r q) (!shB1 (cs k).1 (cs k).2.1 (cs k).2.2 r q), (cs k).2.2)
  else if cpB (cs k).1 (cs k).2.1 ((r + sr (fun i => cpB (cs k).1 (cs k).2.1 ((r + i) % 7)) 7) % 7) then va_up cs k (pwF (cs k).1 ((r + sr (fun i => cpB (cs k).1 (cs k).2.1 ((r + i) % 7)) 7) % 7) u, pwB (cs k).2.1 ((r + sr (fun i => cpB (cs k).1 (cs k).2.1 ((r + i) % 7)) 7) % 7) u, (cs k).2.2)
  else va_up cs k ((cs k).1, (cs k).2.1, (cs k).2.2)
def actS (px py : Int32) (cs : Nat → Cd) : Nat → Cd := actW (upN px 16) (upN py 3) (upN (py >>> (2 &&& 31)) 8) (upN (py >>> (5 &&& 31)) 8) (upN (py >>> (2 &&& 31)) 2) (upN (py >>> (2 &&& 31)) 4) (upN (py >>> (5 &&& 31)) 128) cs
theorem vk_up {cs : Nat → Cd} (h : Vk cs) {k : Nat} {c : Cd} (hc : c.2.2 < 4) : Vk (va_up cs k c) := by
  intro j hj
  unfold va_up
  split
  · exact hc
  · exact h j hj
theorem vk_act {cs : Nat → Cd} (h : Vk cs) (px py : Int32) : Vk (actS px py cs) := by
  have hk := h (upN py 3) (upN_lt _ (by decide))
  have hv := upN_lt (py >>> (2 &&& 31)) (show 0 < 4 by decide)
  unfold actS actW
  split
  · exact vk_up h (show 0 < 4 by decide)
  split
  · exact vk_up h (show 0 < 4 by decide)
  split
  · exact vk_up h hv
  split
  · split
    · exact vk_up h hk
    · exact vk_up h hk
  split
  · exact vk_up h hk
  split
  · exact vk_up h hk
  · exact vk_up h hk
