/-- what the reader's state knows of its part -/
def riOk (q : RS) : Prop := rsOk q ∧ (q.1 = 1 → q.2.1 = 119 ∨ q.2.1 = 120) ∧ (q.1 = 2 → q.2.1 = 112 ∨ q.2.1 = 119 ∨ q.2.1 = 120) ∧ (q.1 = 3 → q.2.1 = 119 ∨ q.2.1 = 120) ∧ (q.1 = 4 ∨ q.1 = 5 ∨ q.1 = 6 → q.2.1 = 112 ∧ q.2.2.2.1 < 7) ∧ (q.1 = 6 → q.2.2.2.2.2 < 128) ∧ (q.1 = 7 → q.2.1 = 118) ∧ (q.1 = 8 → q.2.1 ≠ 112)
theorem moR_b (lt : Nat) : moR lt ≤ 7 ∧ (lt = 112 → moR lt = 6) := by unfold moR; split <;> omega
theorem ri_step {s : Nat} {q : RS} (hs : s < 128) (h : riOk q) : riOk (tkS s q) := by
  obtain ⟨h0, h1, h2, h3, h4, h6, h7, h8⟩ := h
  refine ⟨tk_ok hs h0, ?_⟩
  have h9 := h0.1
  obtain ⟨sp, lt, ib, rw, cl, nu⟩ := q
  simp only [] at h1 h2 h3 h4 h6 h7 h8 h9
  simp only [tkS]
  have hsp : sp = 0 ∨ sp = 1 ∨ sp = 2 ∨ sp = 3 ∨ sp = 4 ∨ sp = 5 ∨ sp = 6 ∨ sp = 7 ∨ sp = 8 := by omega
  have hm := moR_b lt
  rcases hsp with rfl | rfl | rfl | rfl | rfl | rfl | rfl | rfl | rfl
  all_goals simp only [tkSp, tkLt, tkRw, tkNu, ltSp, Nat.reduceEqDiff, ↓reduceIte]
  · repeat' split
    all_goals (refine ⟨?_, ?_, ?_, ?_, ?_, ?_, ?_⟩ <;> omega)
  · split <;> (refine ⟨?_, ?_, ?_, ?_, ?_, ?_, ?_⟩ <;> omega)
  · split
    · rename_i hd; have hd := dgOk_b hd
      split <;> (refine ⟨?_, ?_, ?_, ?_, ?_, ?_, ?_⟩ <;> omega)
    · refine ⟨?_, ?_, ?_, ?_, ?_, ?_, ?_⟩ <;> omega
  · split <;> (refine ⟨?_, ?_, ?_, ?_, ?_, ?_, ?_⟩ <;> omega)
  · split <;> (refine ⟨?_, ?_, ?_, ?_, ?_, ?_, ?_⟩ <;> omega)
  · split
    · rename_i hd; have hd := dgOk_b hd
      refine ⟨?_, ?_, ?_, ?_, ?_, ?_, ?_⟩ <;> omega
    · refine ⟨?_, ?_, ?_, ?_, ?_, ?_, ?_⟩ <;> omega
  · by_cases hmv : mvA s nu = true
    · have hb := mvA_b hmv
      simp only [hmv, ↓reduceIte]
      repeat' split
      all_goals (refine ⟨?_, ?_, ?_, ?_, ?_, ?_, ?_⟩ <;> omega)
    · rw [if_neg hmv]
      repeat' split
      all_goals (refine ⟨?_, ?_, ?_, ?_, ?_, ?_, ?_⟩ <;> omega)
  · split <;> (refine ⟨?_, ?_, ?_, ?_, ?_, ?_, ?_⟩ <;> omega)
  · split <;> (refine ⟨?_, ?_, ?_, ?_, ?_, ?_, ?_⟩ <;> omega)
theorem ri_0 {q : RS} (h : rsOk q) (h0 : q.1 = 0) : riOk q := by
  refine ⟨h, ?_, ?_, ?_, ?_, ?_, ?_, ?_⟩ <;> omega
theorem ri_at {tx : Nat → Nat} {q : RS} {n : Nat} (htx : ∀ j, j < n → tx j < 128) (h : riOk q) : ∀ i, i ≤ n → riOk (rdS tx q i)
  | 0, _ => h
  | i + 1, hi => ri_step (htx i (by omega)) (ri_at htx h i (by omega))
theorem tk_59 {sp lt nu : Nat} (hs : sp < 9) (h : tkOk 59 sp lt nu = true) : sp = 6 ∨ sp = 8 := by
  have hsp : sp = 0 ∨ sp = 1 ∨ sp = 2 ∨ sp = 3 ∨ sp = 4 ∨ sp = 5 ∨ sp = 6 ∨ sp = 7 ∨ sp = 8 := by omega
  have hm := moR_b lt
  rcases hsp with rfl | rfl | rfl | rfl | rfl | rfl | rfl | rfl | rfl
  all_goals simp only [tkOk, Nat.reduceEqDiff, ↓reduceIte] at h
  · exact absurd h (by decide)
  · exact absurd h (by decide)
  · have := dgOk_b h; omega
  · have := dgOk_b h; omega
  · exact absurd h (by decide)
  · have := dgOk_b h; omega
  · omega
  · have := dgOk_b h; omega
  · omega
/-- a part's end, as tryPart wants the reader -/
theorem ri_part {q : RS} (h : riOk q) (he : q.1 = 6 ∨ q.1 = 8) : (q.2.1 = 112 → q.2.2.2.1 < 7 ∧ q.2.2.2.2.2 < 128) ∧ 8 * q.2.2.2.1 + q.2.2.2.2.1 < 64 ∧ q.2.1 < 65536 := by
  obtain ⟨⟨a1, a2, a3, a4, a5⟩, h1, h2, h3, h4, h6, h7, h8⟩ := h
  refine ⟨fun hl => ?_, by omega, a2⟩
  rcases he with he | he
  · exact ⟨(h4 (Or.inr (Or.inr he))).2, h6 he⟩
  · exact absurd hl (h8 he)
abbrev DP : Type := Int64 × Int64 × Nat × Nat × Bool × Nat
def dpB (tx : Nat → Nat) (tn j : Nat) : Bool := decide (tn ≤ j + 1) || decide (tx (j + 1) = 59)
def dpU (d : DP) (u : RS) (j : Nat) : DP := (tpF d.1 d.2.1 u.2.1 u.2.2.1 u.2.2.2.1 u.2.2.2.2.1 u.2.2.2.2.2, tpB d.1 d.2.1 u.2.1 u.2.2.1 u.2.2.2.1 u.2.2.2.2.1 u.2.2.2.2.2, tpV d.2.2.1 u.2.1 u.2.2.2.2.2,
  (if tpO d.1 d.2.1 u.2.1 u.2.2.1 u.2.2.2.1 u.2.2.2.2.1 then d.2.2.2.1 + 1 else d.2.2.2.1), !tpO d.1 d.2.1 u.2.1 u.2.2.1 u.2.2.2.1 u.2.2.2.2.1, j + 1)
def dpS (tx : Nat → Nat) (q : RS) (tn : Nat) (f b : Int64) (v : Nat) : Nat → DP
  | 0 => (f, b, v, 0, false, 0)
  | j + 1 => if (dpS tx q tn f b v j).2.2.2.2.1 = true then dpS tx q tn f b v j
    else if dpB tx tn j = true then dpU (dpS tx q tn f b v j) (rdS tx q (j + 1)) j
    else ((dpS tx q tn f b v j).1, (dpS tx q tn f b v j).2.1, (dpS tx q tn f b v j).2.2.1, (dpS tx q tn f b v j).2.2.2.1, false, j + 1)
theorem dp_u {tx : Nat → Nat} {q : RS} {tn : Nat} {f b : Int64} {v j : Nat} (h : (dpS tx q tn f b v j).2.2.2.2.1 = false) (hb : dpB tx tn j = true) : dpS tx q tn f b v (j + 1) = dpU (dpS tx q tn f b v j) (rdS tx q (j + 1)) j := by
  show (if _ then _ else if _ then _ else _) = _
  rw [if_neg (by rw [h]; decide), if_pos hb]
theorem dp_n {tx : Nat → Nat} {q : RS} {tn : Nat} {f b : Int64} {v j : Nat} (h : (dpS tx q tn f b v j).2.2.2.2.1 = false) (hb : dpB tx tn j = false) : dpS tx q tn f b v (j + 1) = ((dpS tx q tn f b v j).1, (dpS tx q tn f b v j).2.1, (dpS tx q tn f b v j).2.2.1, (dpS tx q tn f b v j).2.2.2.1, false, j + 1) := by
  show (if _ then _ else if _ then _ else _) = _
  rw [if_neg (by rw [h]; decide), if_neg (by rw [hb]; decide)]
theorem dp_stop {tx : Nat → Nat} {q : RS} {tn : Nat} {f b : Int64} {v j : Nat} (h : (dpS tx q tn f b v j).2.2.2.2.1 = true) : ∀ d, dpS tx q tn f b v (j + d) = dpS tx q tn f b v j
  | 0 => rfl
  | d + 1 => by
    show (if (dpS tx q tn f b v (j + d)).2.2.2.2.1 = true then dpS tx q tn f b v (j + d) else _) = _
    rw [dp_stop h d, if_pos h]
theorem dp_all {tx : Nat → Nat} {q : RS} {tn : Nat} {f b : Int64} {v j : Nat} (h : (dpS tx q tn f b v j).2.2.2.2.1 = true) (hj : j ≤ tn) : dpS tx q tn f b v tn = dpS tx q tn f b v j := by
  have := dp_stop h (tn - j)
  rw [show j + (tn - j) = tn by omega] at this
  exact this
theorem dpU_t {d : DP} {u : RS} {j : Nat} (h : tpO d.1 d.2.1 u.2.1 u.2.2.1 u.2.2.2.1 u.2.2.2.2.1 = true) : dpU d u j = (tpF d.1 d.2.1 u.2.1 u.2.2.1 u.2.2.2.1 u.2.2.2.2.1 u.2.2.2.2.2, tpB d.1 d.2.1 u.2.1 u.2.2.1 u.2.2.2.1 u.2.2.2.2.1 u.2.2.2.2.2, tpV d.2.2.1 u.2.1 u.2.2.2.2.2, d.2.2.2.1 + 1, false, j + 1) := by
  unfold dpU; rw [h]; rfl
theorem dpU_f {d : DP} {u : RS} {j : Nat} (h : tpO d.1 d.2.1 u.2.1 u.2.2.1 u.2.2.2.1 u.2.2.2.2.1 = false) : dpU d u j = (tpF d.1 d.2.1 u.2.1 u.2.2.1 u.2.2.2.1 u.2.2.2.2.1 u.2.2.2.2.2, tpB d.1 d.2.1 u.2.1 u.2.2.1 u.2.2.2.1 u.2.2.2.2.1 u.2.2.2.2.2, tpV d.2.2.1 u.2.1 u.2.2.2.2.2, d.2.2.2.1, true, j + 1) := by
  unfold dpU; rw [h]; rfl
theorem dpB_1 {tx : Nat → Nat} {tn j : Nat} (h : tn ≤ j + 1) : dpB tx tn j = true := by simp [dpB, h]
theorem dpB_2 {tx : Nat → Nat} {tn j : Nat} (h : tx (j + 1) = 59) : dpB tx tn j = true := by simp [dpB, h]
theorem dpB_n {tx : Nat → Nat} {tn j : Nat} (h : ¬ tn ≤ j + 1) (h2 : ¬ tx (j + 1) = 59) : dpB tx tn j = false := by simp [dpB, h2]; omega
set_option maxHeartbeats 4000000 in
set_option maxRecDepth 100000 in
theorem c_X4_doParts (l : Launch) (D : va_G) (cy : Nat → ClassId) (ad : Nat → Nat) (fr : Nat → Int64) (bk : Nat → Int64) (vw : Nat → Nat) (tk : Int64) (to : Int64) (fk : Int64) (fo : Int64) (kp : Nat) (sp : Nat) (lt : Nat) (ib : Bool) (rw : Nat) (cl : Nat) (nu : Nat) (tv : Nat) (tm : Nat) (ta : Nat → Int32) (ml : Int32) (tn : Nat) (R : va_W) (k : Nat) (tx : Nat → Nat) (h1 : k < 21) (h2 : tn ≤ tm) (h3 : tm < 2147483648) (htx : ∀ j, j < tn → ta j = nI (tx j) ∧ tx j < 128) (hq : rsOk (0, lt, ib, rw, cl, nu)) (hal : ∀ j, j < tn → rdOk tx (0, lt, ib, rw, cl, nu) j = true) (hwh : 0 < tn → (rdS tx (0, lt, ib, rw, cl, nu) tn).1 = 6 ∨ (rdS tx (0, lt, ib, rw, cl, nu) tn).1 = 8) : GE l D (gts cy) yX4_doParts cX4_doParts 4 (some .int) 5 0 0 [.ref (ad 0), .ref (ad (10 + k))] (wC ad cy fr bk vw tk to fk fo kp sp lt ib rw cl nu tv tm ta ml tn R) (gF (some (.int (nI ((dpS tx (0, lt, ib, rw, cl, nu) tn (fr k) (bk k) (vw k) tn).2.2.2.1)))) (wC ad cy (va_up fr k (dpS tx (0, lt, ib, rw, cl, nu) tn (fr k) (bk k) (vw k) tn).1) (va_up bk k (dpS tx (0, lt, ib, rw, cl, nu) tn (fr k) (bk k) (vw k) tn).2.1) (va_up vw k (dpS tx (0, lt, ib, rw, cl, nu) tn (fr k) (bk k) (vw k) tn).2.2.1) tk to fk fo kp ((rdS tx (0, lt, ib, rw, cl, nu) ((dpS tx (0, lt, ib, rw, cl, nu) tn (fr k) (bk k) (vw k) tn).2.2.2.2.2)).1) ((rdS tx (0, lt, ib, rw, cl, nu) ((dpS tx (0, lt, ib, rw, cl, nu) tn (fr k) (bk k) (vw k) tn).2.2.2.2.2)).2.1) ((rdS tx (0, lt, ib, rw, cl, nu) ((dpS tx (0, lt, ib, rw, cl, nu) tn (fr k) (bk k) (vw k) tn).2.2.2.2.2)).2.2.1) ((rdS tx (0, lt, ib, rw, cl, nu) ((dpS tx (0, lt, ib, rw, cl, nu) tn (fr k) (bk k) (vw k) tn).2.2.2.2.2)).2.2.2.1) ((rdS tx (0, lt, ib, rw, cl, nu) ((dpS tx (0, lt, ib, rw, cl, nu) tn (fr k) (bk k) (vw k) tn).2.2.2.2.2)).2.2.2.2.1) ((rdS tx (0, lt, ib, rw, cl, nu) ((dpS tx (0, lt, ib, rw, cl, nu) tn (fr k) (bk k) (vw k) tn).2.2.2.2.2)).2.2.2.2.2) tv tm ta ml tn R)) := by
  refine g_intro (by decide +kernel) (lv := [(0, .ref (ad 0)), (1, .ref (ad (10 + k)))]) rfl (Nat.le_of_ble_eq_true rfl) ?_
  intro p e s m below meth c C0 G ls hl
  have hx := C0.1
  have hb := C0.2.1
  have hown := C0.2.2.2.2.2.1
  have hts := C0.2.2.2.2.2.2.1
  refine lv_iconst (v := 0) hx hb dX4_doParts_0 (by decide) ?_
  refine lv_istore_n (lv' := [(2, .int 0), (0, .ref (ad 0)), (1, .ref (ad (10 + k)))]) hx hb dX4_doParts_1 rfl hl (by decide) rfl (fun ls hl => ?_)
  refine lv_aload_n hx hb dX4_doParts_2 rfl (lv_at hl 1 rfl) ?_
  refine g_get (q0 := 0) (v := .ref (ad 6)) C0 G in_X4 rfl rfl 4 (by decide) fl_X4_36 (fun _ h => h) rfl dX4_doParts_3 ?_
  refine g_callVN (As := []) (rest := []) (q0 := 6) C0 G (GE.at (i := 6) rfl (fun R => (c_X2_begin l D cy (R := R) (h := ad 6) (sp := sp) (lt := lt) (ib := ib) (rw := rw) (cl := cl) (nu := nu)  ))) k_X2_begin nm_X4_281 rfl rfl dX4_doParts_6 rfl rfl hl.1 (Nat.le_of_ble_eq_true rfl) ⟨Nat.le_of_ble_eq_true rfl, Nat.le_of_ble_eq_true rfl⟩ ⟨Nat.le_of_ble_eq_true rfl, Nat.le_of_ble_eq_true rfl⟩ (fun r W2 H locs hp G => ?_)
  obtain ⟨rfl, hw⟩ := hp
  have G : gW D (wC ad cy fr bk vw tk to fk fo kp 0 lt ib rw cl nu tv tm ta ml tn R) (va_A (wC ad cy fr bk vw tk to fk fo kp sp lt ib rw cl nu tv tm ta ml tn R) s.heap.size) s H locs := g_wc (hw.trans (by rfl)) G
  refine W.eq (g2 := F0 m 9 ls []) rfl ?_
  refine lv_iconst (v := 0) hx hb dX4_doParts_9 (by decide) ?_
  refine lv_istore_n (lv' := [(3, .int 0), (2, .int 0), (0, .ref (ad 0)), (1, .ref (ad (10 + k)))]) hx hb dX4_doParts_10 rfl hl (by decide) rfl (fun ls hl => ?_)
  have hl := lv_sub hl (l' := [(0, .ref (ad 0)), (1, .ref (ad (10 + k))), (2, .int 0), (3, .int 0)]) [2, 3, 1, 0] rfl
  refine g_loop (σ := Nat) (fun j => tn - j) (fun j => wC ad cy (va_up fr k (dpS tx (0, lt, ib, rw, cl, nu) tn (fr k) (bk k) (vw k) j).1) (va_up bk k (dpS tx (0, lt, ib, rw, cl, nu) tn (fr k) (bk k) (vw k) j).2.1) (va_up vw k (dpS tx (0, lt, ib, rw, cl, nu) tn (fr k) (bk k) (vw k) j).2.2.1) tk to fk fo kp ((rdS tx (0, lt, ib, rw, cl, nu) (j)).1) ((rdS tx (0, lt, ib, rw, cl, nu) (j)).2.1) ((rdS tx (0, lt, ib, rw, cl, nu) (j)).2.2.1) ((rdS tx (0, lt, ib, rw, cl, nu) (j)).2.2.2.1) ((rdS tx (0, lt, ib, rw, cl, nu) (j)).2.2.2.2.1) ((rdS tx (0, lt, ib, rw, cl, nu) (j)).2.2.2.2.2) tv tm ta ml tn R) (fun j => [(0, .ref (ad 0)), (1, .ref (ad (10 + k))), (2, .int (nI ((dpS tx (0, lt, ib, rw, cl, nu) tn (fr k) (bk k) (vw k) j).2.2.2.1))), (3, .int (nI j))]) (fun j => j ≤ tn ∧ (dpS tx (0, lt, ib, rw, cl, nu) tn (fr k) (bk k) (vw k) j).2.2.2.2.1 = false ∧ (dpS tx (0, lt, ib, rw, cl, nu) tn (fr k) (bk k) (vw k) j).2.2.2.2.2 = j) ?_ 0 ⟨by omega, rfl, rfl⟩ (g_wc (by show _ = wC ad cy (va_up fr k (fr k)) (va_up bk k (bk k)) (va_up vw k (vw k)) _ _ _ _ _ _ _ _ _ _ _ _ _ _ _ _ _; rw [va_up_s, va_up_s, va_up_s]; rfl) G) hl
  intro j hi_11 ih_11 H locs ls G hl
  obtain ⟨hi_11a, hi_11b, hi_11c⟩ := hi_11
  have G : gW D (wC ad cy (va_up fr k (dpS tx (0, lt, ib, rw, cl, nu) tn (fr k) (bk k) (vw k) j).1) (va_up bk k (dpS tx (0, lt, ib, rw, cl, nu) tn (fr k) (bk k) (vw k) j).2.1) (va_up vw k (dpS tx (0, lt, ib, rw, cl, nu) tn (fr k) (bk k) (vw k) j).2.2.1) tk to fk fo kp ((rdS tx (0, lt, ib, rw, cl, nu) (j)).1) ((rdS tx (0, lt, ib, rw, cl, nu) (j)).2.1) ((rdS tx (0, lt, ib, rw, cl, nu) (j)).2.2.1) ((rdS tx (0, lt, ib, rw, cl, nu) (j)).2.2.2.1) ((rdS tx (0, lt, ib, rw, cl, nu) (j)).2.2.2.2.1) ((rdS tx (0, lt, ib, rw, cl, nu) (j)).2.2.2.2.2) tv tm ta ml tn R) (va_A (wC ad cy fr bk vw tk to fk fo kp sp lt ib rw cl nu tv tm ta ml tn R) s.heap.size) s H locs := G
  have hl : lv_has ls 4 [(0, .ref (ad 0)), (1, .ref (ad (10 + k))), (2, .int (nI ((dpS tx (0, lt, ib, rw, cl, nu) tn (fr k) (bk k) (vw k) j).2.2.2.1))), (3, .int (nI j))] := hl
  refine lv_iload_n hx hb dX4_doParts_11 rfl (lv_at hl 3 rfl) ?_
  refine lv_aload_n hx hb dX4_doParts_12 rfl (lv_at hl 0 rfl) ?_
  refine g_get (q0 := 0) (v := .ref (ad 7)) C0 G in_X4 rfl rfl 5 (by decide) fl_X4_43 (fun _ h => h) rfl dX4_doParts_13 ?_
  refine g_callV (As := []) (rest := [.int (nI j)]) (q0 := 7) C0 G (c_J4_length_8abf5 l D cy (ad := ad) (fr := (va_up fr k (dpS tx (0, lt, ib, rw, cl, nu) tn (fr k) (bk k) (vw k) j).1)) (bk := (va_up bk k (dpS tx (0, lt, ib, rw, cl, nu) tn (fr k) (bk k) (vw k) j).2.1)) (vw := (va_up vw k (dpS tx (0, lt, ib, rw, cl, nu) tn (fr k) (bk k) (vw k) j).2.2.1)) (tk := tk) (to := to) (fk := fk) (fo := fo) (kp := kp) (sp := (rdS tx (0, lt, ib, rw, cl, nu) (j)).1) (lt := (rdS tx (0, lt, ib, rw, cl, nu) (j)).2.1) (ib := (rdS tx (0, lt, ib, rw, cl, nu) (j)).2.2.1) (rw := (rdS tx (0, lt, ib, rw, cl, nu) (j)).2.2.2.1) (cl := (rdS tx (0, lt, ib, rw, cl, nu) (j)).2.2.2.2.1) (nu := (rdS tx (0, lt, ib, rw, cl, nu) (j)).2.2.2.2.2) (tv := tv) (tm := tm) (ta := ta) (ml := ml) (tn := tn) (R := R)  ) k_J4_length_8abf5 ml_X4_212 rfl rfl dX4_doParts_16 rfl rfl hl.1 (Nat.le_of_ble_eq_true rfl) ⟨Nat.le_of_ble_eq_true rfl, Nat.le_of_ble_eq_true rfl⟩ ⟨Nat.le_of_ble_eq_true rfl, Nat.le_of_ble_eq_true rfl⟩ (fun r W2 H locs hp G => ?_)
  obtain ⟨rfl, hw⟩ := hp
  have G := g_wc hw G
  refine W.eq (g2 := F0 m 19 ls [.int (nI tn), .int (nI j)]) rfl ?_
  refine lv_icmp_ge (tgt := 85) hx hb dX4_doParts_19 (by decide) (fun c_19 => ?_) (fun c_19 => ?_)
  · skip
    have c_19 : tn ≤ j := (nI_leI (a := tn) (b := j) (by omega) (by omega)).mp c_19
    have hjt : j = tn := by omega
    have hix : (dpS tx (0, lt, ib, rw, cl, nu) tn (fr k) (bk k) (vw k) tn).2.2.2.2.2 = tn := by rw [hjt] at hi_11c; exact hi_11c
    refine lv_iload_n hx hb dX4_doParts_85 rfl (lv_at hl 2 rfl) ?_
    exact g_iret C0 G ⟨by rw [hjt], by first | (rw [hsn, dp_u hi_11b hdb, dpU_f c_71]; simp only [va_up_e, bx_uu]; rfl) | (rw [hix, hjt]; done)⟩ dX4_doParts_86
  · skip
    have c_19 : ¬ (tn ≤ j) := fun h => c_19 ((nI_leI (a := tn) (b := j) (by omega) (by omega)).mpr h)
    obtain ⟨htx1, htx2⟩ := htx j (by omega)
    have hri := ri_at (fun i hi => (htx i hi).2) (ri_0 hq rfl) j hi_11a
    obtain ⟨ho1, ho2, ho3, ho4, ho5⟩ := hri.1
    have hri2 := ri_at (fun i hi => (htx i hi).2) (ri_0 hq rfl) (j + 1) (by omega)
    refine lv_aload_n hx hb dX4_doParts_22 rfl (lv_at hl 0 rfl) ?_
    refine g_get (q0 := 0) (v := .ref (ad 6)) C0 G in_X4 rfl rfl 4 (by decide) fl_X4_36 (fun _ h => h) rfl dX4_doParts_23 ?_
    refine lv_aload_n hx hb dX4_doParts_26 rfl (lv_at hl 0 rfl) ?_
    refine g_get (q0 := 0) (v := .ref (ad 7)) C0 G in_X4 rfl rfl 5 (by decide) fl_X4_43 (fun _ h => h) rfl dX4_doParts_27 ?_
    refine lv_iload_n hx hb dX4_doParts_30 rfl (lv_at hl 3 rfl) ?_
    refine g_callV (As := [.int (nI j)]) (rest := [.ref (ad 6)]) (q0 := 7) C0 G (c_J4_charAt_5068e l D cy (ad := ad) (fr := (va_up fr k (dpS tx (0, lt, ib, rw, cl, nu) tn (fr k) (bk k) (vw k) j).1)) (bk := (va_up bk k (dpS tx (0, lt, ib, rw, cl, nu) tn (fr k) (bk k) (vw k) j).2.1)) (vw := (va_up vw k (dpS tx (0, lt, ib, rw, cl, nu) tn (fr k) (bk k) (vw k) j).2.2.1)) (tk := tk) (to := to) (fk := fk) (fo := fo) (kp := kp) (sp := (rdS tx (0, lt, ib, rw, cl, nu) (j)).1) (lt := (rdS tx (0, lt, ib, rw, cl, nu) (j)).2.1) (ib := (rdS tx (0, lt, ib, rw, cl, nu) (j)).2.2.1) (rw := (rdS tx (0, lt, ib, rw, cl, nu) (j)).2.2.2.1) (cl := (rdS tx (0, lt, ib, rw, cl, nu) (j)).2.2.2.2.1) (nu := (rdS tx (0, lt, ib, rw, cl, nu) (j)).2.2.2.2.2) (tv := tv) (tm := tm) (ta := ta) (ml := ml) (tn := tn) (R := R) (a1 := j) (ch := tx j) (by omega) (by omega) (by omega) htx1 htx2) k_J4_charAt_5068e ml_X4_284 rfl rfl dX4_doParts_31 rfl rfl hl.1 (Nat.le_of_ble_eq_true rfl) ⟨Nat.le_of_ble_eq_true rfl, Nat.le_of_ble_eq_true rfl⟩ ⟨Nat.le_of_ble_eq_true rfl, Nat.le_of_ble_eq_true rfl⟩ (fun r W2 H locs hp G => ?_)
    obtain ⟨rfl, hw⟩ := hp
    have G := g_wc hw G
    refine W.eq (g2 := F0 m 34 ls [.int (nI (tx j)), .ref (ad 6)]) rfl ?_
    refine g_callVN (As := [.int (nI (tx j))]) (rest := []) (q0 := 6) C0 G (GE.at (i := 6) rfl (fun R => (c_X2_takes l D cy (R := R) (h := ad 6) (sp := (rdS tx (0, lt, ib, rw, cl, nu) (j)).1) (lt := (rdS tx (0, lt, ib, rw, cl, nu) (j)).2.1) (ib := (rdS tx (0, lt, ib, rw, cl, nu) (j)).2.2.1) (rw := (rdS tx (0, lt, ib, rw, cl, nu) (j)).2.2.2.1) (cl := (rdS tx (0, lt, ib, rw, cl, nu) (j)).2.2.2.2.1) (nu := (rdS tx (0, lt, ib, rw, cl, nu) (j)).2.2.2.2.2) (ch := (tx j)) (by omega) (by omega) (by omega) (by omega)))) k_X2_takes nm_X4_288 rfl rfl dX4_doParts_34 rfl rfl hl.1 (Nat.le_of_ble_eq_true rfl) ⟨Nat.le_of_ble_eq_true rfl, Nat.le_of_ble_eq_true rfl⟩ ⟨Nat.le_of_ble_eq_true rfl, Nat.le_of_ble_eq_true rfl⟩ (fun r W2 H locs hp G => ?_)
    obtain ⟨rfl, hw⟩ := hp
    have G : gW D (wC ad cy (va_up fr k (dpS tx (0, lt, ib, rw, cl, nu) tn (fr k) (bk k) (vw k) j).1) (va_up bk k (dpS tx (0, lt, ib, rw, cl, nu) tn (fr k) (bk k) (vw k) j).2.1) (va_up vw k (dpS tx (0, lt, ib, rw, cl, nu) tn (fr k) (bk k) (vw k) j).2.2.1) tk to fk fo kp (tkSp (tx j) ((rdS tx (0, lt, ib, rw, cl, nu) (j)).1) ((rdS tx (0, lt, ib, rw, cl, nu) (j)).2.1) ((rdS tx (0, lt, ib, rw, cl, nu) (j)).2.2.2.2.2)) (tkLt (tx j) ((rdS tx (0, lt, ib, rw, cl, nu) (j)).1) ((rdS tx (0, lt, ib, rw, cl, nu) (j)).2.1)) (tkIb (tx j) ((rdS tx (0, lt, ib, rw, cl, nu) (j)).1) ((rdS tx (0, lt, ib, rw, cl, nu) (j)).2.2.1)) (tkRw (tx j) ((rdS tx (0, lt, ib, rw, cl, nu) (j)).1) ((rdS tx (0, lt, ib, rw, cl, nu) (j)).2.1) ((rdS tx (0, lt, ib, rw, cl, nu) (j)).2.2.2.1)) (tkCl (tx j) ((rdS tx (0, lt, ib, rw, cl, nu) (j)).1) ((rdS tx (0, lt, ib, rw, cl, nu) (j)).2.2.2.2.1)) (tkNu (tx j) ((rdS tx (0, lt, ib, rw, cl, nu) (j)).1) ((rdS tx (0, lt, ib, rw, cl, nu) (j)).2.2.2.2.2)) tv tm ta ml tn R) (va_A (wC ad cy fr bk vw tk to fk fo kp sp lt ib rw cl nu tv tm ta ml tn R) s.heap.size) s H locs := g_wc (hw.trans (by rfl)) G
    refine W.eq (g2 := F0 m 37 ls [.int (bI (tkOk (tx j) ((rdS tx (0, lt, ib, rw, cl, nu) (j)).1) ((rdS tx (0, lt, ib, rw, cl, nu) (j)).2.1) ((rdS tx (0, lt, ib, rw, cl, nu) (j)).2.2.2.2.2)))]) rfl ?_
    refine lv_pop hx hb dX4_doParts_37 rfl ?_
    refine lv_iload_n hx hb dX4_doParts_38 rfl (lv_at hl 3 rfl) ?_
    refine lv_iconst (v := 1) hx hb dX4_doParts_39 (by decide) ?_
    refine lv_iadd hx hb dX4_doParts_40 ?_
    refine g_topi (x' := nI (j + 1)) (nI_add j 1) ?_
    refine lv_aload_n hx hb dX4_doParts_41 rfl (lv_at hl 0 rfl) ?_
    refine g_get (q0 := 0) (v := .ref (ad 7)) C0 G in_X4 rfl rfl 5 (by decide) fl_X4_43 (fun _ h => h) rfl dX4_doParts_42 ?_
    refine g_callV (As := []) (rest := [.int (nI (j + 1))]) (q0 := 7) C0 G (c_J4_length_8abf5 l D cy (ad := ad) (fr := (va_up fr k (dpS tx (0, lt, ib, rw, cl, nu) tn (fr k) (bk k) (vw k) j).1)) (bk := (va_up bk k (dpS tx (0, lt, ib, rw, cl, nu) tn (fr k) (bk k) (vw k) j).2.1)) (vw := (va_up vw k (dpS tx (0, lt, ib, rw, cl, nu) tn (fr k) (bk k) (vw k) j).2.2.1)) (tk := tk) (to := to) (fk := fk) (fo := fo) (kp := kp) (sp := tkSp (tx j) ((rdS tx (0, lt, ib, rw, cl, nu) (j)).1) ((rdS tx (0, lt, ib, rw, cl, nu) (j)).2.1) ((rdS tx (0, lt, ib, rw, cl, nu) (j)).2.2.2.2.2)) (lt := tkLt (tx j) ((rdS tx (0, lt, ib, rw, cl, nu) (j)).1) ((rdS tx (0, lt, ib, rw, cl, nu) (j)).2.1)) (ib := tkIb (tx j) ((rdS tx (0, lt, ib, rw, cl, nu) (j)).1) ((rdS tx (0, lt, ib, rw, cl, nu) (j)).2.2.1)) (rw := tkRw (tx j) ((rdS tx (0, lt, ib, rw, cl, nu) (j)).1) ((rdS tx (0, lt, ib, rw, cl, nu) (j)).2.1) ((rdS tx (0, lt, ib, rw, cl, nu) (j)).2.2.2.1)) (cl := tkCl (tx j) ((rdS tx (0, lt, ib, rw, cl, nu) (j)).1) ((rdS tx (0, lt, ib, rw, cl, nu) (j)).2.2.2.2.1)) (nu := tkNu (tx j) ((rdS tx (0, lt, ib, rw, cl, nu) (j)).1) ((rdS tx (0, lt, ib, rw, cl, nu) (j)).2.2.2.2.2)) (tv := tv) (tm := tm) (ta := ta) (ml := ml) (tn := tn) (R := R)  ) k_J4_length_8abf5 ml_X4_212 rfl rfl dX4_doParts_45 rfl rfl hl.1 (Nat.le_of_ble_eq_true rfl) ⟨Nat.le_of_ble_eq_true rfl, Nat.le_of_ble_eq_true rfl⟩ ⟨Nat.le_of_ble_eq_true rfl, Nat.le_of_ble_eq_true rfl⟩ (fun r W2 H locs hp G => ?_)
    obtain ⟨rfl, hw⟩ := hp
    have G := g_wc hw G
    refine W.eq (g2 := F0 m 48 ls [.int (nI tn), .int (nI (j + 1))]) rfl ?_
    refine lv_icmp_ge (tgt := 66) hx hb dX4_doParts_48 (by decide) (fun c_48 => ?_) (fun c_48 => ?_)
    · skip
      have c_48 : tn ≤ (j + 1) := (nI_leI (a := tn) (b := j + 1) (by omega) (by omega)).mp c_48
      have hdb : dpB tx tn j = true := by first | exact dpB_1 c_48 | exact dpB_2 c_63
      have hpt := ri_part hri2 (by first | (have h5 := hwh (by omega); rw [show tn = j + 1 by omega] at h5; exact h5) | (have h5 := hal (j + 1) (by omega); unfold rdOk at h5; rw [c_63] at h5; exact tk_59 hri2.1.1 h5))
      refine lv_aload_n hx hb dX4_doParts_66 rfl (lv_at hl 0 rfl) ?_
      refine lv_aload_n hx hb dX4_doParts_67 rfl (lv_at hl 1 rfl) ?_
      refine g_callV (As := [.ref (ad (10 + k))]) (rest := []) (q0 := 0) C0 G (c_X4_tryPart l D cy (ad := ad) (fr := (va_up fr k (dpS tx (0, lt, ib, rw, cl, nu) tn (fr k) (bk k) (vw k) j).1)) (bk := (va_up bk k (dpS tx (0, lt, ib, rw, cl, nu) tn (fr k) (bk k) (vw k) j).2.1)) (vw := (va_up vw k (dpS tx (0, lt, ib, rw, cl, nu) tn (fr k) (bk k) (vw k) j).2.2.1)) (tk := tk) (to := to) (fk := fk) (fo := fo) (kp := kp) (sp := tkSp (tx j) ((rdS tx (0, lt, ib, rw, cl, nu) (j)).1) ((rdS tx (0, lt, ib, rw, cl, nu) (j)).2.1) ((rdS tx (0, lt, ib, rw, cl, nu) (j)).2.2.2.2.2)) (lt := tkLt (tx j) ((rdS tx (0, lt, ib, rw, cl, nu) (j)).1) ((rdS tx (0, lt, ib, rw, cl, nu) (j)).2.1)) (ib := tkIb (tx j) ((rdS tx (0, lt, ib, rw, cl, nu) (j)).1) ((rdS tx (0, lt, ib, rw, cl, nu) (j)).2.2.1)) (rw := tkRw (tx j) ((rdS tx (0, lt, ib, rw, cl, nu) (j)).1) ((rdS tx (0, lt, ib, rw, cl, nu) (j)).2.1) ((rdS tx (0, lt, ib, rw, cl, nu) (j)).2.2.2.1)) (cl := tkCl (tx j) ((rdS tx (0, lt, ib, rw, cl, nu) (j)).1) ((rdS tx (0, lt, ib, rw, cl, nu) (j)).2.2.2.2.1)) (nu := tkNu (tx j) ((rdS tx (0, lt, ib, rw, cl, nu) (j)).1) ((rdS tx (0, lt, ib, rw, cl, nu) (j)).2.2.2.2.2)) (tv := tv) (tm := tm) (ta := ta) (ml := ml) (tn := tn) (R := R) (k := k) (by omega) hpt.1 hpt.2.1 hpt.2.2) k_X4_tryPart ml_X4_292 rfl rfl dX4_doParts_68 rfl rfl hl.1 (Nat.le_of_ble_eq_true rfl) ⟨Nat.le_of_ble_eq_true rfl, Nat.le_of_ble_eq_true rfl⟩ ⟨Nat.le_of_ble_eq_true rfl, Nat.le_of_ble_eq_true rfl⟩ (fun r W2 H locs hp G => ?_)
      obtain ⟨rfl, hw⟩ := hp
      have G := g_wc hw G
      refine W.eq (g2 := F0 m 71 ls [.int (bI (tpO ((va_up fr k (dpS tx (0, lt, ib, rw, cl, nu) tn (fr k) (bk k) (vw k) j).1) k) ((va_up bk k (dpS tx (0, lt, ib, rw, cl, nu) tn (fr k) (bk k) (vw k) j).2.1) k) (tkLt (tx j) ((rdS tx (0, lt, ib, rw, cl, nu) (j)).1) ((rdS tx (0, lt, ib, rw, cl, nu) (j)).2.1)) (tkIb (tx j) ((rdS tx (0, lt, ib, rw, cl, nu) (j)).1) ((rdS tx (0, lt, ib, rw, cl, nu) (j)).2.2.1)) (tkRw (tx j) ((rdS tx (0, lt, ib, rw, cl, nu) (j)).1) ((rdS tx (0, lt, ib, rw, cl, nu) (j)).2.1) ((rdS tx (0, lt, ib, rw, cl, nu) (j)).2.2.2.1)) (tkCl (tx j) ((rdS tx (0, lt, ib, rw, cl, nu) (j)).1) ((rdS tx (0, lt, ib, rw, cl, nu) (j)).2.2.2.2.1))))]) rfl ?_
      refine g_topi (x' := bI (tpO (dpS tx (0, lt, ib, rw, cl, nu) tn (fr k) (bk k) (vw k) j).1 (dpS tx (0, lt, ib, rw, cl, nu) tn (fr k) (bk k) (vw k) j).2.1 (rdS tx (0, lt, ib, rw, cl, nu) (j + 1)).2.1 (rdS tx (0, lt, ib, rw, cl, nu) (j + 1)).2.2.1 (rdS tx (0, lt, ib, rw, cl, nu) (j + 1)).2.2.2.1 (rdS tx (0, lt, ib, rw, cl, nu) (j + 1)).2.2.2.2.1)) (by rw [va_up_e, va_up_e]; rfl) ?_
      refine lv_if_ne (tgt := 76) hx hb dX4_doParts_71 (by decide) (fun c_71 => ?_) (fun c_71 => ?_)
      · skip
        have c_71 : (tpO (dpS tx (0, lt, ib, rw, cl, nu) tn (fr k) (bk k) (vw k) j).1 (dpS tx (0, lt, ib, rw, cl, nu) tn (fr k) (bk k) (vw k) j).2.1 (rdS tx (0, lt, ib, rw, cl, nu) (j + 1)).2.1 (rdS tx (0, lt, ib, rw, cl, nu) (j + 1)).2.2.1 (rdS tx (0, lt, ib, rw, cl, nu) (j + 1)).2.2.2.1 (rdS tx (0, lt, ib, rw, cl, nu) (j + 1)).2.2.2.2.1) = true := bI_t c_71
        refine lv_iinc (v := nI (((dpS tx (0, lt, ib, rw, cl, nu) tn (fr k) (bk k) (vw k) j).2.2.2.1) + 1)) (lv' := [(2, .int (nI (((dpS tx (0, lt, ib, rw, cl, nu) tn (fr k) (bk k) (vw k) j).2.2.2.1) + 1))), (0, .ref (ad 0)), (1, .ref (ad (10 + k))), (3, .int (nI j))]) hx hb dX4_doParts_76 hl (k := 2) rfl (nI_add ((dpS tx (0, lt, ib, rw, cl, nu) tn (fr k) (bk k) (vw k) j).2.2.2.1) 1) (by decide) rfl (fun ls hl => ?_)
        refine lv_iinc (v := nI (j + 1)) (lv' := [(3, .int (nI (j + 1))), (2, .int (nI (((dpS tx (0, lt, ib, rw, cl, nu) tn (fr k) (bk k) (vw k) j).2.2.2.1) + 1))), (0, .ref (ad 0)), (1, .ref (ad (10 + k)))]) hx hb dX4_doParts_79 hl (k := 3) rfl (nI_add j 1) (by decide) rfl (fun ls hl => ?_)
        refine lv_goto (tgt := 11) hx hb dX4_doParts_82 (by decide) ?_
        have hl := lv_sub hl (l' := _) [2, 3, 1, 0] rfl
        exact ih_11 (j + 1) ⟨by omega, by first | rw [dp_u hi_11b hdb, dpU_t c_71] | rw [dp_n hi_11b (dpB_n c_48 c_63)], by first | rw [dp_u hi_11b hdb, dpU_t c_71] | rw [dp_n hi_11b (dpB_n c_48 c_63)]⟩ (by show _ < _; omega) _ _ _ (g_wc (by first | (rw [dp_u hi_11b hdb, dpU_t c_71]; simp only [va_up_e, bx_uu]; rfl) | (rw [dp_n hi_11b (dpB_n c_48 c_63)]; rfl)) G) (by first | (rw [dp_u hi_11b hdb, dpU_t c_71]; exact hl) | (rw [dp_n hi_11b (dpB_n c_48 c_63)]; exact hl))
      · skip
        have c_71 : (tpO (dpS tx (0, lt, ib, rw, cl, nu) tn (fr k) (bk k) (vw k) j).1 (dpS tx (0, lt, ib, rw, cl, nu) tn (fr k) (bk k) (vw k) j).2.1 (rdS tx (0, lt, ib, rw, cl, nu) (j + 1)).2.1 (rdS tx (0, lt, ib, rw, cl, nu) (j + 1)).2.2.1 (rdS tx (0, lt, ib, rw, cl, nu) (j + 1)).2.2.2.1 (rdS tx (0, lt, ib, rw, cl, nu) (j + 1)).2.2.2.2.1) = false := bI_f c_71
        have hsn : (dpS tx (0, lt, ib, rw, cl, nu) tn (fr k) (bk k) (vw k) tn) = (dpS tx (0, lt, ib, rw, cl, nu) tn (fr k) (bk k) (vw k) (j + 1)) := dp_all (by rw [dp_u hi_11b hdb, dpU_f c_71]) (by omega)
        refine lv_iload_n hx hb dX4_doParts_74 rfl (lv_at hl 2 rfl) ?_
        exact g_iret C0 G ⟨by rw [hsn, dp_u hi_11b hdb, dpU_f c_71], by first | (rw [hsn, dp_u hi_11b hdb, dpU_f c_71]; simp only [va_up_e, bx_uu]; rfl) | (rw [hix, hjt]; done)⟩ dX4_doParts_75
    · skip
      have c_48 : ¬ (tn ≤ (j + 1)) := fun h => c_48 ((nI_leI (a := tn) (b := j + 1) (by omega) (by omega)).mpr h)
      obtain ⟨htx3, htx4⟩ := htx (j + 1) (by omega)
      refine lv_aload_n hx hb dX4_doParts_51 rfl (lv_at hl 0 rfl) ?_
      refine g_get (q0 := 0) (v := .ref (ad 7)) C0 G in_X4 rfl rfl 5 (by decide) fl_X4_43 (fun _ h => h) rfl dX4_doParts_52 ?_
      refine lv_iload_n hx hb dX4_doParts_55 rfl (lv_at hl 3 rfl) ?_
      refine lv_iconst (v := 1) hx hb dX4_doParts_56 (by decide) ?_
      refine lv_iadd hx hb dX4_doParts_57 ?_
      refine g_topi (x' := nI (j + 1)) (nI_add j 1) ?_
      refine g_callV (As := [.int (nI (j + 1))]) (rest := []) (q0 := 7) C0 G (c_J4_charAt_5068e l D cy (ad := ad) (fr := (va_up fr k (dpS tx (0, lt, ib, rw, cl, nu) tn (fr k) (bk k) (vw k) j).1)) (bk := (va_up bk k (dpS tx (0, lt, ib, rw, cl, nu) tn (fr k) (bk k) (vw k) j).2.1)) (vw := (va_up vw k (dpS tx (0, lt, ib, rw, cl, nu) tn (fr k) (bk k) (vw k) j).2.2.1)) (tk := tk) (to := to) (fk := fk) (fo := fo) (kp := kp) (sp := tkSp (tx j) ((rdS tx (0, lt, ib, rw, cl, nu) (j)).1) ((rdS tx (0, lt, ib, rw, cl, nu) (j)).2.1) ((rdS tx (0, lt, ib, rw, cl, nu) (j)).2.2.2.2.2)) (lt := tkLt (tx j) ((rdS tx (0, lt, ib, rw, cl, nu) (j)).1) ((rdS tx (0, lt, ib, rw, cl, nu) (j)).2.1)) (ib := tkIb (tx j) ((rdS tx (0, lt, ib, rw, cl, nu) (j)).1) ((rdS tx (0, lt, ib, rw, cl, nu) (j)).2.2.1)) (rw := tkRw (tx j) ((rdS tx (0, lt, ib, rw, cl, nu) (j)).1) ((rdS tx (0, lt, ib, rw, cl, nu) (j)).2.1) ((rdS tx (0, lt, ib, rw, cl, nu) (j)).2.2.2.1)) (cl := tkCl (tx j) ((rdS tx (0, lt, ib, rw, cl, nu) (j)).1) ((rdS tx (0, lt, ib, rw, cl, nu) (j)).2.2.2.2.1)) (nu := tkNu (tx j) ((rdS tx (0, lt, ib, rw, cl, nu) (j)).1) ((rdS tx (0, lt, ib, rw, cl, nu) (j)).2.2.2.2.2)) (tv := tv) (tm := tm) (ta := ta) (ml := ml) (tn := tn) (R := R) (a1 := j + 1) (ch := tx (j + 1)) (by omega) (by omega) (by omega) htx3 htx4) k_J4_charAt_5068e ml_X4_284 rfl rfl dX4_doParts_58 rfl rfl hl.1 (Nat.le_of_ble_eq_true rfl) ⟨Nat.le_of_ble_eq_true rfl, Nat.le_of_ble_eq_true rfl⟩ ⟨Nat.le_of_ble_eq_true rfl, Nat.le_of_ble_eq_true rfl⟩ (fun r W2 H locs hp G => ?_)
      obtain ⟨rfl, hw⟩ := hp
      have G := g_wc hw G
      refine W.eq (g2 := F0 m 61 ls [.int (nI (tx (j + 1)))]) rfl ?_
      refine lv_bipush (v := 59) hx hb dX4_doParts_61 (by decide) ?_
      refine lv_icmp_ne (tgt := 79) hx hb dX4_doParts_63 (by decide) (fun c_63 => ?_) (fun c_63 => ?_)
      · skip
        have c_63 : ¬ ((tx (j + 1)) = 59) := fun h => c_63 ((nI_eq (a := (tx (j + 1))) (b := 59) (by omega) (by omega)).mpr h)
        refine lv_iinc (v := nI (j + 1)) (lv' := [(3, .int (nI (j + 1))), (0, .ref (ad 0)), (1, .ref (ad (10 + k))), (2, .int (nI ((dpS tx (0, lt, ib, rw, cl, nu) tn (fr k) (bk k) (vw k) j).2.2.2.1)))]) hx hb dX4_doParts_79 hl (k := 3) rfl (nI_add j 1) (by decide) rfl (fun ls hl => ?_)
        refine lv_goto (tgt := 11) hx hb dX4_doParts_82 (by decide) ?_
        have hl := lv_sub hl (l' := _) [1, 2, 3, 0] rfl
        exact ih_11 (j + 1) ⟨by omega, by first | rw [dp_u hi_11b hdb, dpU_t c_71] | rw [dp_n hi_11b (dpB_n c_48 c_63)], by first | rw [dp_u hi_11b hdb, dpU_t c_71] | rw [dp_n hi_11b (dpB_n c_48 c_63)]⟩ (by show _ < _; omega) _ _ _ (g_wc (by first | (rw [dp_u hi_11b hdb, dpU_t c_71]; simp only [va_up_e, bx_uu]; rfl) | (rw [dp_n hi_11b (dpB_n c_48 c_63)]; rfl)) G) (by first | (rw [dp_u hi_11b hdb, dpU_t c_71]; exact hl) | (rw [dp_n hi_11b (dpB_n c_48 c_63)]; exact hl))
      · skip
        have c_63 : (tx (j + 1)) = 59 := (nI_eq (a := (tx (j + 1))) (b := 59) (by omega) (by omega)).mp c_63
        have hdb : dpB tx tn j = true := by first | exact dpB_1 c_48 | exact dpB_2 c_63
        have hpt := ri_part hri2 (by first | (have h5 := hwh (by omega); rw [show tn = j + 1 by omega] at h5; exact h5) | (have h5 := hal (j + 1) (by omega); unfold rdOk at h5; rw [c_63] at h5; exact tk_59 hri2.1.1 h5))
        refine lv_aload_n hx hb dX4_doParts_66 rfl (lv_at hl 0 rfl) ?_
        refine lv_aload_n hx hb dX4_doParts_67 rfl (lv_at hl 1 rfl) ?_
        refine g_callV (As := [.ref (ad (10 + k))]) (rest := []) (q0 := 0) C0 G (c_X4_tryPart l D cy (ad := ad) (fr := (va_up fr k (dpS tx (0, lt, ib, rw, cl, nu) tn (fr k) (bk k) (vw k) j).1)) (bk := (va_up bk k (dpS tx (0, lt, ib, rw, cl, nu) tn (fr k) (bk k) (vw k) j).2.1)) (vw := (va_up vw k (dpS tx (0, lt, ib, rw, cl, nu) tn (fr k) (bk k) (vw k) j).2.2.1)) (tk := tk) (to := to) (fk := fk) (fo := fo) (kp := kp) (sp := tkSp (tx j) ((rdS tx (0, lt, ib, rw, cl, nu) (j)).1) ((rdS tx (0, lt, ib, rw, cl, nu) (j)).2.1) ((rdS tx (0, lt, ib, rw, cl, nu) (j)).2.2.2.2.2)) (lt := tkLt (tx j) ((rdS tx (0, lt, ib, rw, cl, nu) (j)).1) ((rdS tx (0, lt, ib, rw, cl, nu) (j)).2.1)) (ib := tkIb (tx j) ((rdS tx (0, lt, ib, rw, cl, nu) (j)).1) ((rdS tx (0, lt, ib, rw, cl, nu) (j)).2.2.1)) (rw := tkRw (tx j) ((rdS tx (0, lt, ib, rw, cl, nu) (j)).1) ((rdS tx (0, lt, ib, rw, cl, nu) (j)).2.1) ((rdS tx (0, lt, ib, rw, cl, nu) (j)).2.2.2.1)) (cl := tkCl (tx j) ((rdS tx (0, lt, ib, rw, cl, nu) (j)).1) ((rdS tx (0, lt, ib, rw, cl, nu) (j)).2.2.2.2.1)) (nu := tkNu (tx j) ((rdS tx (0, lt, ib, rw, cl, nu) (j)).1) ((rdS tx (0, lt, ib, rw, cl, nu) (j)).2.2.2.2.2)) (tv := tv) (tm := tm) (ta := ta) (ml := ml) (tn := tn) (R := R) (k := k) (by omega) hpt.1 hpt.2.1 hpt.2.2) k_X4_tryPart ml_X4_292 rfl rfl dX4_doParts_68 rfl rfl hl.1 (Nat.le_of_ble_eq_true rfl) ⟨Nat.le_of_ble_eq_true rfl, Nat.le_of_ble_eq_true rfl⟩ ⟨Nat.le_of_ble_eq_true rfl, Nat.le_of_ble_eq_true rfl⟩ (fun r W2 H locs hp G => ?_)
        obtain ⟨rfl, hw⟩ := hp
        have G := g_wc hw G
        refine W.eq (g2 := F0 m 71 ls [.int (bI (tpO ((va_up fr k (dpS tx (0, lt, ib, rw, cl, nu) tn (fr k) (bk k) (vw k) j).1) k) ((va_up bk k (dpS tx (0, lt, ib, rw, cl, nu) tn (fr k) (bk k) (vw k) j).2.1) k) (tkLt (tx j) ((rdS tx (0, lt, ib, rw, cl, nu) (j)).1) ((rdS tx (0, lt, ib, rw, cl, nu) (j)).2.1)) (tkIb (tx j) ((rdS tx (0, lt, ib, rw, cl, nu) (j)).1) ((rdS tx (0, lt, ib, rw, cl, nu) (j)).2.2.1)) (tkRw (tx j) ((rdS tx (0, lt, ib, rw, cl, nu) (j)).1) ((rdS tx (0, lt, ib, rw, cl, nu) (j)).2.1) ((rdS tx (0, lt, ib, rw, cl, nu) (j)).2.2.2.1)) (tkCl (tx j) ((rdS tx (0, lt, ib, rw, cl, nu) (j)).1) ((rdS tx (0, lt, ib, rw, cl, nu) (j)).2.2.2.2.1))))]) rfl ?_
        refine g_topi (x' := bI (tpO (dpS tx (0, lt, ib, rw, cl, nu) tn (fr k) (bk k) (vw k) j).1 (dpS tx (0, lt, ib, rw, cl, nu) tn (fr k) (bk k) (vw k) j).2.1 (rdS tx (0, lt, ib, rw, cl, nu) (j + 1)).2.1 (rdS tx (0, lt, ib, rw, cl, nu) (j + 1)).2.2.1 (rdS tx (0, lt, ib, rw, cl, nu) (j + 1)).2.2.2.1 (rdS tx (0, lt, ib, rw, cl, nu) (j + 1)).2.2.2.2.1)) (by rw [va_up_e, va_up_e]; rfl) ?_
        refine lv_if_ne (tgt := 76) hx hb dX4_doParts_71 (by decide) (fun c_71 => ?_) (fun c_71 => ?_)
        · skip
          have c_71 : (tpO (dpS tx (0, lt, ib, rw, cl, nu) tn (fr k) (bk k) (vw k) j).1 (dpS tx (0, lt, ib, rw, cl, nu) tn (fr k) (bk k) (vw k) j).2.1 (rdS tx (0, lt, ib, rw, cl, nu) (j + 1)).2.1 (rdS tx (0, lt, ib, rw, cl, nu) (j + 1)).2.2.1 (rdS tx (0, lt, ib, rw, cl, nu) (j + 1)).2.2.2.1 (rdS tx (0, lt, ib, rw, cl, nu) (j + 1)).2.2.2.2.1) = true := bI_t c_71
          refine lv_iinc (v := nI (((dpS tx (0, lt, ib, rw, cl, nu) tn (fr k) (bk k) (vw k) j).2.2.2.1) + 1)) (lv' := [(2, .int (nI (((dpS tx (0, lt, ib, rw, cl, nu) tn (fr k) (bk k) (vw k) j).2.2.2.1) + 1))), (0, .ref (ad 0)), (1, .ref (ad (10 + k))), (3, .int (nI j))]) hx hb dX4_doParts_76 hl (k := 2) rfl (nI_add ((dpS tx (0, lt, ib, rw, cl, nu) tn (fr k) (bk k) (vw k) j).2.2.2.1) 1) (by decide) rfl (fun ls hl => ?_)
          refine lv_iinc (v := nI (j + 1)) (lv' := [(3, .int (nI (j + 1))), (2, .int (nI (((dpS tx (0, lt, ib, rw, cl, nu) tn (fr k) (bk k) (vw k) j).2.2.2.1) + 1))), (0, .ref (ad 0)), (1, .ref (ad (10 + k)))]) hx hb dX4_doParts_79 hl (k := 3) rfl (nI_add j 1) (by decide) rfl (fun ls hl => ?_)
          refine lv_goto (tgt := 11) hx hb dX4_doParts_82 (by decide) ?_
          have hl := lv_sub hl (l' := _) [2, 3, 1, 0] rfl
          exact ih_11 (j + 1) ⟨by omega, by first | rw [dp_u hi_11b hdb, dpU_t c_71] | rw [dp_n hi_11b (dpB_n c_48 c_63)], by first | rw [dp_u hi_11b hdb, dpU_t c_71] | rw [dp_n hi_11b (dpB_n c_48 c_63)]⟩ (by show _ < _; omega) _ _ _ (g_wc (by first | (rw [dp_u hi_11b hdb, dpU_t c_71]; simp only [va_up_e, bx_uu]; rfl) | (rw [dp_n hi_11b (dpB_n c_48 c_63)]; rfl)) G) (by first | (rw [dp_u hi_11b hdb, dpU_t c_71]; exact hl) | (rw [dp_n hi_11b (dpB_n c_48 c_63)]; exact hl))
        · skip
          have c_71 : (tpO (dpS tx (0, lt, ib, rw, cl, nu) tn (fr k) (bk k) (vw k) j).1 (dpS tx (0, lt, ib, rw, cl, nu) tn (fr k) (bk k) (vw k) j).2.1 (rdS tx (0, lt, ib, rw, cl, nu) (j + 1)).2.1 (rdS tx (0, lt, ib, rw, cl, nu) (j + 1)).2.2.1 (rdS tx (0, lt, ib, rw, cl, nu) (j + 1)).2.2.2.1 (rdS tx (0, lt, ib, rw, cl, nu) (j + 1)).2.2.2.2.1) = false := bI_f c_71
          have hsn : (dpS tx (0, lt, ib, rw, cl, nu) tn (fr k) (bk k) (vw k) tn) = (dpS tx (0, lt, ib, rw, cl, nu) tn (fr k) (bk k) (vw k) (j + 1)) := dp_all (by rw [dp_u hi_11b hdb, dpU_f c_71]) (by omega)
          refine lv_iload_n hx hb dX4_doParts_74 rfl (lv_at hl 2 rfl) ?_
          exact g_iret C0 G ⟨by rw [hsn, dp_u hi_11b hdb, dpU_f c_71], by first | (rw [hsn, dp_u hi_11b hdb, dpU_f c_71]; simp only [va_up_e, bx_uu]; rfl) | (rw [hix, hjt]; done)⟩ dX4_doParts_75
