/-! what the reference's methods answer -/
theorem bI_inj {a b : Bool} (h : bI a = bI b) : a = b := by cases a <;> cases b <;> first | rfl | exact absurd h (by decide)
def inB (v lo hi : Int32) : Bool := !decide (v < lo) && !decide (hi < v)
def hhB (q fr : Int32) : Bool := decide (q = 3) || decide (q = fr)
def fcN (v : Nat) : Nat := if v < 2 then 1 else 0
def tuI (q fr : Int32) : Int32 := if q = 2 then fr else if q = 3 then 1 - fr else if q = fr then 2 else 3
theorem hh_sh {f b : Int64} {v row col : Nat} (hv : v < 4) : hhB (kdI f b (scN v row col)) (nI (fcN v)) = shB1 f b v row col := by
  unfold hhB shB1 hoB kdI
  rcases (show v = 0 ∨ v = 1 ∨ v = 2 ∨ v = 3 by omega) with rfl | rfl | rfl | rfl <;>
    (simp only [fcN, sbB]; cases tb f (scN _ row col) <;> cases tb b (scN _ row col) <;> decide)
def blF (mf : Nat → Int64) (z : Nat) : Nat → Int64
  | 0 => mf z
  | k + 1 => skF (blF mf z k) k 2
def blB (mb : Nat → Int64) (z : Nat) : Nat → Int64
  | 0 => mb z
  | k + 1 => skB (blB mb z k) k 2
theorem bl0F (mf : Nat → Int64) (z : Nat) : blF mf z 64 = 0 := by
  have h : ∀ n j, n ≤ 64 → j < 64 → tb (blF mf z n) j = if j < n then false else tb (mf z) j := by
    intro n
    induction n with
    | zero => intro j _ _; rfl
    | succ n ih =>
      intro j hn hj
      show tb (skF (blF mf z n) n 2) j = _
      rw [skF_at (by omega) hj, ih j (by omega) hj]
      by_cases e : j = n
      · simp [e]
      · rw [if_neg e]; by_cases h2 : j < n
        · rw [if_pos h2, if_pos (by omega)]
        · rw [if_neg h2, if_neg (by omega)]
  apply tb_ext
  intro k hk
  rw [h 64 k (by omega) hk, if_pos hk, tb_0]
theorem bl0B (mb : Nat → Int64) (z : Nat) : blB mb z 64 = 0 := by
  have h : ∀ n j, n ≤ 64 → j < 64 → tb (blB mb z n) j = if j < n then false else tb (mb z) j := by
    intro n
    induction n with
    | zero => intro j _ _; rfl
    | succ n ih =>
      intro j hn hj
      show tb (skB (blB mb z n) n 2) j = _
      rw [skB_at (by omega) hj, ih j (by omega) hj]
      by_cases e : j = n
      · simp [e]
      · rw [if_neg e]; by_cases h2 : j < n
        · rw [if_pos h2, if_pos (by omega)]
        · rw [if_neg h2, if_neg (by omega)]
  apply tb_ext
  intro k hk
  rw [h 64 k (by omega) hk, if_pos hk, tb_0]
def cuN (f b : Int64) (q : Int32) : Nat := cnt (fun k => decide (kdI f b k = q)) 64
def lcN (line k : Nat) : Nat := if line < 8 then 8 * line + k else 8 * k + line - 8
theorem lcN_lt {line k : Nat} (h1 : line < 16) (h2 : k < 8) : lcN line k < 64 := by unfold lcN; split <;> omega
/-- a count over the 64 cells that are in a line is a count over its eight -/
theorem cnt_line (p : Nat → Bool) : ∀ line, line < 16 → cnt (fun k => tb (lineM line) k && p k) 64 = cnt (fun j => p (lcN line j)) 8 := by
  intro line hl
  have h1 : cnt (fun k => tb (lineM line) k && p k) 64 = cnt (fun k => (if line < 8 then decide (k / 8 = line) else decide (k % 8 = line - 8)) && p k) 64 := by
    apply cnt_cong
    intro k hk
    unfold lineM
    by_cases h : line < 8
    · rw [if_pos h, if_pos h, tb_row line h k hk]
    · rw [if_neg h, if_neg h, tb_col (line - 8) (by omega) k hk]
  rw [h1]
  rcases (show line = 0 ∨ line = 1 ∨ line = 2 ∨ line = 3 ∨ line = 4 ∨ line = 5 ∨ line = 6 ∨ line = 7 ∨ line = 8 ∨ line = 9 ∨ line = 10 ∨ line = 11 ∨ line = 12 ∨ line = 13 ∨ line = 14 ∨ line = 15 by omega) with rfl | rfl | rfl | rfl | rfl | rfl | rfl | rfl | rfl | rfl | rfl | rfl | rfl | rfl | rfl | rfl <;> simp [cnt, lcN]
theorem mi_pc {kn on : Int64} {line : Nat} (hl : line < 16) : cnt (fun k => decide (biF kn on (lcN line k) = -1)) 8 = pc (msW (lineM line) kn) := by
  unfold pc
  rw [← cnt_line (fun k => decide (biF kn on k = -1)) line hl]
  apply cnt_cong
  intro k hk
  unfold msW
  rw [tb_and, tb_not hk]
  congr 1
  unfold biF biI
  cases tb kn k <;> cases tb on k <;> decide
theorem pa_pc {kn on : Int64} {line : Nat} (hl : line < 16) (hok : ∀ k, k < 64 → tb on k = true → tb kn k = true) : cnt (fun k => decide (biF kn on (lcN line k) = 1)) 8 = pc (lineM line &&& on) := by
  unfold pc
  rw [← cnt_line (fun k => decide (biF kn on k = 1)) line hl]
  apply cnt_cong
  intro k hk
  rw [tb_and]
  congr 1
  have := hok k hk
  unfold biF biI
  cases h1 : tb kn k <;> cases h2 : tb on k <;> simp_all
  all_goals decide
set_option maxHeartbeats 4000000 in
set_option maxRecDepth 100000 in
theorem c_X5_thrown (l : Launch) (D : va_G) (cy : Nat → ClassId) (am : Nat → Nat) (mf : Nat → Int64) (mb : Nat → Int64) (mv : Nat → Nat) (th : Int32) (sv : Nat) (X : Nat → Int32) (ln : Nat) (ap : Nat) (le : Nat) (fc : Nat) (f1 : Int32) (f2 : Int32) (ha : Int64) (R : va_W) (B : Nat → Int32)   : GE l D (gts cy) yX5_thrown cX5_thrown 1 (some .int) 0 0 0 [.ref (am 0)] (wM am cy th (cS mf mb mv) sv X ln ap le fc f1 f2 (B) ha R) (gF (some (.int th)) (wM am cy th (cS mf mb mv) sv X ln ap le fc f1 f2 (B) ha R)) := by
  refine g_intro (by decide +kernel) (lv := [(0, .ref (am 0))]) rfl (Nat.le_of_ble_eq_true rfl) ?_
  intro p e s m below meth c C0 G ls hl
  have hx := C0.1
  have hb := C0.2.1
  have hown := C0.2.2.2.2.2.1
  have hts := C0.2.2.2.2.2.2.1
  refine lv_aload_n hx hb dX5_thrown_0 rfl (lv_at hl 0 rfl) ?_
  refine g_get (q0 := 0) (v := .int th) C0 G in_X5 rfl rfl 0 (by decide) fl_X5_23 (fun _ h => h) rfl dX5_thrown_1 ?_
  exact g_iret C0 G ⟨by first | rfl | (exfalso; omega) | (simp only [Bool.false_eq_true, ↓reduceIte, eq_self, decide_true, decide_false, not_true_eq_false, not_false_eq_true, Bool.true_and, Bool.false_and, Bool.and_true, Bool.and_false]; done) | (simp []; done) | (simp []; rfl) | (simp []; omega), by first | rfl | (exfalso; omega) | (simp only [Bool.false_eq_true, ↓reduceIte, eq_self, decide_true, decide_false, not_true_eq_false, not_false_eq_true, Bool.true_and, Bool.false_and, Bool.and_true, Bool.and_false]; done) | (simp []; done) | (simp []; rfl) | (simp []; omega)⟩ dX5_thrown_4

set_option maxHeartbeats 4000000 in
set_option maxRecDepth 100000 in
theorem c_X5_in (l : Launch) (D : va_G) (cy : Nat → ClassId) (W1 : va_W) (u : Int32) (lo : Int32) (hi : Int32)  : GE l D (gts cy) yX5_in cX5_in 3 (some .boolean) 0 0 0 [.int u, .int lo, .int hi] (W1) (gF (some (.int (bI (inB u lo hi)))) (W1)) := by
  refine g_intro (by decide +kernel) (lv := [(0, .int u), (1, .int lo), (2, .int hi)]) rfl (Nat.le_of_ble_eq_true rfl) ?_
  intro p e s m below meth c C0 G ls hl
  have hx := C0.1
  have hb := C0.2.1
  have hown := C0.2.2.2.2.2.1
  have hts := C0.2.2.2.2.2.2.1
  refine lv_iload_n hx hb dX5_in_0 rfl (lv_at hl 0 rfl) ?_
  refine lv_iload_n hx hb dX5_in_1 rfl (lv_at hl 1 rfl) ?_
  refine lv_icmp_lt (tgt := 14) hx hb dX5_in_2 (by decide) (fun c_2 => ?_) (fun c_2 => ?_)
  · skip
    refine lv_iconst (v := 0) hx hb dX5_in_14 (by decide) ?_
    exact g_zret C0 G rfl ⟨by first | rfl | (exfalso; omega) | (simp only [inB, bI, c_2, Bool.false_eq_true, ↓reduceIte, eq_self, decide_true, decide_false, not_true_eq_false, not_false_eq_true, Bool.true_and, Bool.false_and, Bool.and_true, Bool.and_false]; done) | (simp [inB, bI, c_2]; done) | (simp [inB, bI, c_2]; rfl) | (simp [inB, bI, c_2]; omega), by first | rfl | (exfalso; omega) | (simp only [inB, bI, c_2, Bool.false_eq_true, ↓reduceIte, eq_self, decide_true, decide_false, not_true_eq_false, not_false_eq_true, Bool.true_and, Bool.false_and, Bool.and_true, Bool.and_false]; done) | (simp [inB, bI, c_2]; done) | (simp [inB, bI, c_2]; rfl) | (simp [inB, bI, c_2]; omega)⟩ dX5_in_15
  · skip
    refine lv_iload_n hx hb dX5_in_5 rfl (lv_at hl 0 rfl) ?_
    refine lv_iload_n hx hb dX5_in_6 rfl (lv_at hl 2 rfl) ?_
    refine lv_icmp_gt (tgt := 14) hx hb dX5_in_7 (by decide) (fun c_7 => ?_) (fun c_7 => ?_)
    · skip
      refine lv_iconst (v := 0) hx hb dX5_in_14 (by decide) ?_
      exact g_zret C0 G rfl ⟨by first | rfl | (exfalso; omega) | (simp only [inB, bI, c_2, c_7, Bool.false_eq_true, ↓reduceIte, eq_self, decide_true, decide_false, not_true_eq_false, not_false_eq_true, Bool.true_and, Bool.false_and, Bool.and_true, Bool.and_false]; done) | (simp [inB, bI, c_2, c_7]; done) | (simp [inB, bI, c_2, c_7]; rfl) | (simp [inB, bI, c_2, c_7]; omega), by first | rfl | (exfalso; omega) | (simp only [inB, bI, c_2, c_7, Bool.false_eq_true, ↓reduceIte, eq_self, decide_true, decide_false, not_true_eq_false, not_false_eq_true, Bool.true_and, Bool.false_and, Bool.and_true, Bool.and_false]; done) | (simp [inB, bI, c_2, c_7]; done) | (simp [inB, bI, c_2, c_7]; rfl) | (simp [inB, bI, c_2, c_7]; omega)⟩ dX5_in_15
    · skip
      refine lv_iconst (v := 1) hx hb dX5_in_10 (by decide) ?_
      refine lv_goto (tgt := 15) hx hb dX5_in_11 (by decide) ?_
      exact g_zret C0 G rfl ⟨by first | rfl | (exfalso; omega) | (simp only [inB, bI, c_2, c_7, Bool.false_eq_true, ↓reduceIte, eq_self, decide_true, decide_false, not_true_eq_false, not_false_eq_true, Bool.true_and, Bool.false_and, Bool.and_true, Bool.and_false]; done) | (simp [inB, bI, c_2, c_7]; done) | (simp [inB, bI, c_2, c_7]; rfl) | (simp [inB, bI, c_2, c_7]; omega), by first | rfl | (exfalso; omega) | (simp only [inB, bI, c_2, c_7, Bool.false_eq_true, ↓reduceIte, eq_self, decide_true, decide_false, not_true_eq_false, not_false_eq_true, Bool.true_and, Bool.false_and, Bool.and_true, Bool.and_false]; done) | (simp [inB, bI, c_2, c_7]; done) | (simp [inB, bI, c_2, c_7]; rfl) | (simp [inB, bI, c_2, c_7]; omega)⟩ dX5_in_15

set_option maxHeartbeats 4000000 in
set_option maxRecDepth 100000 in
theorem c_X5_holds (l : Launch) (D : va_G) (cy : Nat → ClassId) (am : Nat → Nat) (mf : Nat → Int64) (mb : Nat → Int64) (mv : Nat → Nat) (th : Int32) (sv : Nat) (X : Nat → Int32) (ln : Nat) (ap : Nat) (le : Nat) (fc : Nat) (f1 : Int32) (f2 : Int32) (ha : Int64) (R : va_W) (B : Nat → Int32) (pl : Nat) (h1 : pl < 10) : GE l D (gts cy) yX5_holds cX5_holds 2 (some .boolean) 0 0 0 [.ref (am 0), .int (nI pl)] (wM am cy th (cS mf mb mv) sv X ln ap le fc f1 f2 (B) ha R) (gF (some (.int (bI (decide (pl = 0))))) (wM am cy (nI pl) (cS mf mb mv) sv X ln ap le fc f1 f2 (B) ha R)) := by
  refine g_intro (by decide +kernel) (lv := [(0, .ref (am 0)), (1, .int (nI pl))]) rfl (Nat.le_of_ble_eq_true rfl) ?_
  intro p e s m below meth c C0 G ls hl
  have hx := C0.1
  have hb := C0.2.1
  have hown := C0.2.2.2.2.2.1
  have hts := C0.2.2.2.2.2.2.1
  refine lv_aload_n hx hb dX5_holds_0 rfl (lv_at hl 0 rfl) ?_
  refine lv_iload_n hx hb dX5_holds_1 rfl (lv_at hl 1 rfl) ?_
  refine g_put (q0 := 0) (W2 := wM am cy (nI pl) (cS mf mb mv) sv X ln ap le fc f1 f2 (B) ha R) C0 G ft_X5 in_X5 rfl rfl 0 (by decide) fl_X5_23 (fun _ h => h) rfl rfl rfl (Nat.le_of_ble_eq_true rfl) rfl dX5_holds_2 (fun H locs G => ?_)
  refine lv_iload_n hx hb dX5_holds_5 rfl (lv_at hl 1 rfl) ?_
  refine lv_if_ne (tgt := 13) hx hb dX5_holds_6 (by decide) (fun c_6 => ?_) (fun c_6 => ?_)
  · skip
    have c_6 : ¬ (pl = 0) := fun h => c_6 ((nI_eq (a := pl) (b := 0) (by omega) (by omega)).mpr h)
    refine lv_iconst (v := 0) hx hb dX5_holds_13 (by decide) ?_
    exact g_zret C0 G rfl ⟨by first | rfl | (exfalso; omega) | (simp only [bI, c_6, Bool.false_eq_true, ↓reduceIte, eq_self, decide_true, decide_false, not_true_eq_false, not_false_eq_true, Bool.true_and, Bool.false_and, Bool.and_true, Bool.and_false]; done) | (simp [bI, c_6]; done) | (simp [bI, c_6]; rfl) | (simp [bI, c_6]; omega), by first | rfl | (exfalso; omega) | (simp only [bI, c_6, Bool.false_eq_true, ↓reduceIte, eq_self, decide_true, decide_false, not_true_eq_false, not_false_eq_true, Bool.true_and, Bool.false_and, Bool.and_true, Bool.and_false]; done) | (simp [bI, c_6]; done) | (simp [bI, c_6]; rfl) | (simp [bI, c_6]; omega)⟩ dX5_holds_14
  · skip
    have c_6 : pl = 0 := (nI_eq (a := pl) (b := 0) (by omega) (by omega)).mp c_6
    refine lv_iconst (v := 1) hx hb dX5_holds_9 (by decide) ?_
    refine lv_goto (tgt := 14) hx hb dX5_holds_10 (by decide) ?_
    exact g_zret C0 G rfl ⟨by first | rfl | (exfalso; omega) | (simp only [bI, c_6, Bool.false_eq_true, ↓reduceIte, eq_self, decide_true, decide_false, not_true_eq_false, not_false_eq_true, Bool.true_and, Bool.false_and, Bool.and_true, Bool.and_false]; done) | (simp [bI, c_6]; done) | (simp [bI, c_6]; rfl) | (simp [bI, c_6]; omega), by first | rfl | (exfalso; omega) | (simp only [bI, c_6, Bool.false_eq_true, ↓reduceIte, eq_self, decide_true, decide_false, not_true_eq_false, not_false_eq_true, Bool.true_and, Bool.false_and, Bool.and_true, Bool.and_false]; done) | (simp [bI, c_6]; done) | (simp [bI, c_6]; rfl) | (simp [bI, c_6]; omega)⟩ dX5_holds_14

set_option maxHeartbeats 4000000 in
set_option maxRecDepth 100000 in
theorem c_X5_isCard (l : Launch) (D : va_G) (cy : Nat → ClassId) (W1 : va_W) (u : Int32)  : GE l D (gts cy) yX5_isCard cX5_isCard 1 (some .boolean) 1 0 0 [.int u] (W1) (gF (some (.int (bI (inB u 0 2)))) (W1)) := by
  refine g_intro (by decide +kernel) (lv := [(0, .int u)]) rfl (Nat.le_of_ble_eq_true rfl) ?_
  intro p e s m below meth c C0 G ls hl
  have hx := C0.1
  have hb := C0.2.1
  have hown := C0.2.2.2.2.2.1
  have hts := C0.2.2.2.2.2.2.1
  refine lv_iload_n hx hb dX5_isCard_0 rfl (lv_at hl 0 rfl) ?_
  refine lv_iconst (v := 0) hx hb dX5_isCard_1 (by decide) ?_
  refine lv_iconst (v := 2) hx hb dX5_isCard_2 (by decide) ?_
  refine g_callS (As := [.int u, .int 0, .int 2]) (rest := []) C0 G (c_X5_in l D cy (W1 := W1) (u := u) (lo := (0 : Int32)) (hi := (2 : Int32)) ) k_X5_in ml_X5_27 dX5_isCard_3 rfl rfl hl.1 (Nat.le_of_ble_eq_true rfl) ⟨Nat.le_of_ble_eq_true rfl, Nat.le_of_ble_eq_true rfl⟩ ⟨Nat.le_of_ble_eq_true rfl, Nat.le_of_ble_eq_true rfl⟩ (fun r W2 H locs hp G => ?_)
  obtain ⟨rfl, hw⟩ := hp
  have G := g_wc hw G
  refine W.eq (g2 := F0 m 6 ls [.int (bI (inB u (0 : Int32) (2 : Int32)))]) rfl ?_
  exact g_zret C0 G (g_nz _) ⟨by first | rfl | (exfalso; omega) | (simp only [Bool.false_eq_true, ↓reduceIte, eq_self, decide_true, decide_false, not_true_eq_false, not_false_eq_true, Bool.true_and, Bool.false_and, Bool.and_true, Bool.and_false]; done) | (simp []; done) | (simp []; rfl) | (simp []; omega), by first | rfl | (exfalso; omega) | (simp only [Bool.false_eq_true, ↓reduceIte, eq_self, decide_true, decide_false, not_true_eq_false, not_false_eq_true, Bool.true_and, Bool.false_and, Bool.and_true, Bool.and_false]; done) | (simp []; done) | (simp []; rfl) | (simp []; omega)⟩ dX5_isCard_6

set_option maxHeartbeats 4000000 in
set_option maxRecDepth 100000 in
theorem c_X5_isCell (l : Launch) (D : va_G) (cy : Nat → ClassId) (W1 : va_W) (u : Int32) (w : Int32)  : GE l D (gts cy) yX5_isCell cX5_isCell 2 (some .boolean) 1 0 0 [.int u, .int w] (W1) (gF (some (.int (bI (inB u 0 7 && inB w 0 7)))) (W1)) := by
  refine g_intro (by decide +kernel) (lv := [(0, .int u), (1, .int w)]) rfl (Nat.le_of_ble_eq_true rfl) ?_
  intro p e s m below meth c C0 G ls hl
  have hx := C0.1
  have hb := C0.2.1
  have hown := C0.2.2.2.2.2.1
  have hts := C0.2.2.2.2.2.2.1
  refine lv_iload_n hx hb dX5_isCell_0 rfl (lv_at hl 0 rfl) ?_
  refine lv_iconst (v := 0) hx hb dX5_isCell_1 (by decide) ?_
  refine lv_bipush (v := 7) hx hb dX5_isCell_2 (by decide) ?_
  refine g_callS (As := [.int u, .int 0, .int 7]) (rest := []) C0 G (c_X5_in l D cy (W1 := W1) (u := u) (lo := (0 : Int32)) (hi := (7 : Int32)) ) k_X5_in ml_X5_27 dX5_isCell_4 rfl rfl hl.1 (Nat.le_of_ble_eq_true rfl) ⟨Nat.le_of_ble_eq_true rfl, Nat.le_of_ble_eq_true rfl⟩ ⟨Nat.le_of_ble_eq_true rfl, Nat.le_of_ble_eq_true rfl⟩ (fun r W2 H locs hp G => ?_)
  obtain ⟨rfl, hw⟩ := hp
  have G := g_wc hw G
  refine W.eq (g2 := F0 m 7 ls [.int (bI (inB u (0 : Int32) (7 : Int32)))]) rfl ?_
  refine lv_if_eq (tgt := 24) hx hb dX5_isCell_7 (by decide) (fun c_7 => ?_) (fun c_7 => ?_)
  · skip
    have c_7 : (inB u (0 : Int32) (7 : Int32)) = false := bI_f c_7
    refine lv_iconst (v := 0) hx hb dX5_isCell_24 (by decide) ?_
    exact g_zret C0 G rfl ⟨by first | rfl | (exfalso; omega) | (simp only [bI, c_7, Bool.false_eq_true, ↓reduceIte, eq_self, decide_true, decide_false, not_true_eq_false, not_false_eq_true, Bool.true_and, Bool.false_and, Bool.and_true, Bool.and_false]; done) | (simp [bI, c_7]; done) | (simp [bI, c_7]; rfl) | (simp [bI, c_7]; omega), by first | rfl | (exfalso; omega) | (simp only [bI, c_7, Bool.false_eq_true, ↓reduceIte, eq_self, decide_true, decide_false, not_true_eq_false, not_false_eq_true, Bool.true_and, Bool.false_and, Bool.and_true, Bool.and_false]; done) | (simp [bI, c_7]; done) | (simp [bI, c_7]; rfl) | (simp [bI, c_7]; omega)⟩ dX5_isCell_25
  · skip
    have c_7 : (inB u (0 : Int32) (7 : Int32)) = true := bI_t c_7
    refine lv_iload_n hx hb dX5_isCell_10 rfl (lv_at hl 1 rfl) ?_
    refine lv_iconst (v := 0) hx hb dX5_isCell_11 (by decide) ?_
    refine lv_bipush (v := 7) hx hb dX5_isCell_12 (by decide) ?_
    refine g_callS (As := [.int w, .int 0, .int 7]) (rest := []) C0 G (c_X5_in l D cy (W1 := W1) (u := w) (lo := (0 : Int32)) (hi := (7 : Int32)) ) k_X5_in ml_X5_27 dX5_isCell_14 rfl rfl hl.1 (Nat.le_of_ble_eq_true rfl) ⟨Nat.le_of_ble_eq_true rfl, Nat.le_of_ble_eq_true rfl⟩ ⟨Nat.le_of_ble_eq_true rfl, Nat.le_of_ble_eq_true rfl⟩ (fun r W2 H locs hp G => ?_)
    obtain ⟨rfl, hw⟩ := hp
    have G := g_wc hw G
    refine W.eq (g2 := F0 m 17 ls [.int (bI (inB w (0 : Int32) (7 : Int32)))]) rfl ?_
    refine lv_if_eq (tgt := 24) hx hb dX5_isCell_17 (by decide) (fun c_17 => ?_) (fun c_17 => ?_)
    · skip
      have c_17 : (inB w (0 : Int32) (7 : Int32)) = false := bI_f c_17
      refine lv_iconst (v := 0) hx hb dX5_isCell_24 (by decide) ?_
      exact g_zret C0 G rfl ⟨by first | rfl | (exfalso; omega) | (simp only [bI, c_7, c_17, Bool.false_eq_true, ↓reduceIte, eq_self, decide_true, decide_false, not_true_eq_false, not_false_eq_true, Bool.true_and, Bool.false_and, Bool.and_true, Bool.and_false]; done) | (simp [bI, c_7, c_17]; done) | (simp [bI, c_7, c_17]; rfl) | (simp [bI, c_7, c_17]; omega), by first | rfl | (exfalso; omega) | (simp only [bI, c_7, c_17, Bool.false_eq_true, ↓reduceIte, eq_self, decide_true, decide_false, not_true_eq_false, not_false_eq_true, Bool.true_and, Bool.false_and, Bool.and_true, Bool.and_false]; done) | (simp [bI, c_7, c_17]; done) | (simp [bI, c_7, c_17]; rfl) | (simp [bI, c_7, c_17]; omega)⟩ dX5_isCell_25
    · skip
      have c_17 : (inB w (0 : Int32) (7 : Int32)) = true := bI_t c_17
      refine lv_iconst (v := 1) hx hb dX5_isCell_20 (by decide) ?_
      refine lv_goto (tgt := 25) hx hb dX5_isCell_21 (by decide) ?_
      exact g_zret C0 G rfl ⟨by first | rfl | (exfalso; omega) | (simp only [bI, c_7, c_17, Bool.false_eq_true, ↓reduceIte, eq_self, decide_true, decide_false, not_true_eq_false, not_false_eq_true, Bool.true_and, Bool.false_and, Bool.and_true, Bool.and_false]; done) | (simp [bI, c_7, c_17]; done) | (simp [bI, c_7, c_17]; rfl) | (simp [bI, c_7, c_17]; omega), by first | rfl | (exfalso; omega) | (simp only [bI, c_7, c_17, Bool.false_eq_true, ↓reduceIte, eq_self, decide_true, decide_false, not_true_eq_false, not_false_eq_true, Bool.true_and, Bool.false_and, Bool.and_true, Bool.and_false]; done) | (simp [bI, c_7, c_17]; done) | (simp [bI, c_7, c_17]; rfl) | (simp [bI, c_7, c_17]; omega)⟩ dX5_isCell_25

set_option maxHeartbeats 4000000 in
set_option maxRecDepth 100000 in
theorem c_X5_of (l : Launch) (D : va_G) (cy : Nat → ClassId) (am : Nat → Nat) (mf : Nat → Int64) (mb : Nat → Int64) (mv : Nat → Nat) (th : Int32) (sv : Nat) (X : Nat → Int32) (ln : Nat) (ap : Nat) (le : Nat) (fc : Nat) (f1 : Int32) (f2 : Int32) (ha : Int64) (R : va_W) (B : Nat → Int32) (z : Nat) (k : Nat) (h1 : z < 21) (h2 : k < 64) : GE l D (gts cy) yX5_of cX5_of 3 (some .int) 0 0 0 [.ref (am 0), .int (nI z), .int (nI k)] (wM am cy th (cS mf mb mv) sv X ln ap le fc f1 f2 (B) ha R) (gF (some (.int (kdI (mf z) (mb z) k))) (wM am cy th (cS mf mb mv) sv X ln ap le fc f1 f2 (B) ha R)) := by
  refine g_intro (by decide +kernel) (lv := [(0, .ref (am 0)), (1, .int (nI z)), (2, .int (nI k))]) rfl (Nat.le_of_ble_eq_true rfl) ?_
  intro p e s m below meth c C0 G ls hl
  have hx := C0.1
  have hb := C0.2.1
  have hown := C0.2.2.2.2.2.1
  have hts := C0.2.2.2.2.2.2.1
  refine lv_aload_n hx hb dX5_of_0 rfl (lv_at hl 0 rfl) ?_
  refine g_get (q0 := 0) (v := .ref (am 1)) C0 G in_X5 rfl rfl 1 (by decide) fl_X5_7 (fun _ h => h) rfl dX5_of_1 ?_
  refine lv_bipush (v := 65) hx hb dX5_of_4 (by decide) ?_
  refine lv_iload_n hx hb dX5_of_6 rfl (lv_at hl 1 rfl) ?_
  refine lv_imul hx hb dX5_of_7 ?_
  refine g_topi (x' := nI (65 * z)) (pk_mul 65 z) ?_
  refine lv_iconst (v := 1) hx hb dX5_of_8 (by decide) ?_
  refine lv_iadd hx hb dX5_of_9 ?_
  refine g_topi (x' := nI ((65 * z) + 1)) (nI_add (65 * z) 1) ?_
  refine lv_iload_n hx hb dX5_of_10 rfl (lv_at hl 2 rfl) ?_
  refine lv_iadd hx hb dX5_of_11 ?_
  refine g_topi (x' := nI (((65 * z) + 1) + k)) (nI_add ((65 * z) + 1) k) ?_
  refine g_iald (q0 := 1) (n := 1365) C0 G rfl 1 rfl (vp_in_nI (n := ((65 * z) + 1) + k) (by omega) (by decide)) dX5_of_12 ?_
  refine g_topi (x' := cS mf mb mv (((65 * z) + 1) + k)) (congrArg (cS mf mb mv) (nI_clamp (n := ((65 * z) + 1) + k) (by omega))) ?_
  refine g_topi (x' := kdI (mf z) (mb z) k) (cS_cell h2) ?_
  exact g_iret C0 G ⟨by first | rfl | (exfalso; omega) | (simp only [Bool.false_eq_true, ↓reduceIte, eq_self, decide_true, decide_false, not_true_eq_false, not_false_eq_true, Bool.true_and, Bool.false_and, Bool.and_true, Bool.and_false]; done) | (simp []; done) | (simp []; rfl) | (simp []; omega), by first | rfl | (exfalso; omega) | (simp only [Bool.false_eq_true, ↓reduceIte, eq_self, decide_true, decide_false, not_true_eq_false, not_false_eq_true, Bool.true_and, Bool.false_and, Bool.and_true, Bool.and_false]; done) | (simp []; done) | (simp []; rfl) | (simp []; omega)⟩ dX5_of_13

set_option maxHeartbeats 4000000 in
set_option maxRecDepth 100000 in
theorem c_X5_lay (l : Launch) (D : va_G) (cy : Nat → ClassId) (am : Nat → Nat) (mf : Nat → Int64) (mb : Nat → Int64) (mv : Nat → Nat) (th : Int32) (sv : Nat) (X : Nat → Int32) (ln : Nat) (ap : Nat) (le : Nat) (fc : Nat) (f1 : Int32) (f2 : Int32) (ha : Int64) (R : va_W) (B : Nat → Int32) (z : Nat) (k : Nat) (q : Nat) (h1 : z < 21) (h2 : k < 64) (h3 : q < 4) : GE l D (gts cy) yX5_lay cX5_lay 4 none 0 0 0 [.ref (am 0), .int (nI z), .int (nI k), .int (nI q)] (wM am cy th (cS mf mb mv) sv X ln ap le fc f1 f2 (B) ha R) (gF none (wM am cy th (cS (va_up mf z (skF (mf z) k q)) (va_up mb z (skB (mb z) k q)) mv) sv X ln ap le fc f1 f2 (B) ha R)) := by
  refine g_intro (by decide +kernel) (lv := [(0, .ref (am 0)), (1, .int (nI z)), (2, .int (nI k)), (3, .int (nI q))]) rfl (Nat.le_of_ble_eq_true rfl) ?_
  intro p e s m below meth c C0 G ls hl
  have hx := C0.1
  have hb := C0.2.1
  have hown := C0.2.2.2.2.2.1
  have hts := C0.2.2.2.2.2.2.1
  refine lv_aload_n hx hb dX5_lay_0 rfl (lv_at hl 0 rfl) ?_
  refine g_get (q0 := 0) (v := .ref (am 1)) C0 G in_X5 rfl rfl 1 (by decide) fl_X5_7 (fun _ h => h) rfl dX5_lay_1 ?_
  refine lv_bipush (v := 65) hx hb dX5_lay_4 (by decide) ?_
  refine lv_iload_n hx hb dX5_lay_6 rfl (lv_at hl 1 rfl) ?_
  refine lv_imul hx hb dX5_lay_7 ?_
  refine g_topi (x' := nI (65 * z)) (pk_mul 65 z) ?_
  refine lv_iconst (v := 1) hx hb dX5_lay_8 (by decide) ?_
  refine lv_iadd hx hb dX5_lay_9 ?_
  refine g_topi (x' := nI ((65 * z) + 1)) (nI_add (65 * z) 1) ?_
  refine lv_iload_n hx hb dX5_lay_10 rfl (lv_at hl 2 rfl) ?_
  refine lv_iadd hx hb dX5_lay_11 ?_
  refine g_topi (x' := nI (((65 * z) + 1) + k)) (nI_add ((65 * z) + 1) k) ?_
  refine lv_iload_n hx hb dX5_lay_12 rfl (lv_at hl 3 rfl) ?_
  refine g_iast (q0 := 1) (n := 1365) (W2 := wM am cy th (upd (cS mf mb mv) (((65 * z) + 1) + k) (nI q)) sv X ln ap le fc f1 f2 (B) ha R) C0 G rfl 1 rfl (vp_in_nI (n := ((65 * z) + 1) + k) (by omega) (by decide)) (by rw [nI_clamp (n := ((65 * z) + 1) + k) (by omega)]; rfl) dX5_lay_13 (fun H locs G => ?_)
  have G : gW D (wM am cy th (cS (va_up mf z (skF (mf z) k q)) (va_up mb z (skB (mb z) k q)) mv) sv X ln ap le fc f1 f2 (B) ha R) (va_A (wM am cy th (cS mf mb mv) sv X ln ap le fc f1 f2 (B) ha R) s.heap.size) s H locs := wM_S (fun p hp => cS_lay h2 h3 p) G
  exact g_vret C0 G ⟨by first | rfl | (exfalso; omega) | (simp only [Bool.false_eq_true, ↓reduceIte, eq_self, decide_true, decide_false, not_true_eq_false, not_false_eq_true, Bool.true_and, Bool.false_and, Bool.and_true, Bool.and_false]; done) | (simp []; done) | (simp []; rfl) | (simp []; omega), by first | rfl | (exfalso; omega) | (simp only [Bool.false_eq_true, ↓reduceIte, eq_self, decide_true, decide_false, not_true_eq_false, not_false_eq_true, Bool.true_and, Bool.false_and, Bool.and_true, Bool.and_false]; done) | (simp []; done) | (simp []; rfl) | (simp []; omega)⟩ dX5_lay_14

set_option maxHeartbeats 4000000 in
set_option maxRecDepth 100000 in
theorem c_X5_viewOf (l : Launch) (D : va_G) (cy : Nat → ClassId) (am : Nat → Nat) (mf : Nat → Int64) (mb : Nat → Int64) (mv : Nat → Nat) (th : Int32) (sv : Nat) (X : Nat → Int32) (ln : Nat) (ap : Nat) (le : Nat) (fc : Nat) (f1 : Int32) (f2 : Int32) (ha : Int64) (R : va_W) (B : Nat → Int32) (z : Nat) (h1 : z < 21) : GE l D (gts cy) yX5_viewOf cX5_viewOf 2 (some .int) 0 0 0 [.ref (am 0), .int (nI z)] (wM am cy th (cS mf mb mv) sv X ln ap le fc f1 f2 (B) ha R) (gF (some (.int (nI (mv z)))) (wM am cy th (cS mf mb mv) sv X ln ap le fc f1 f2 (B) ha R)) := by
  refine g_intro (by decide +kernel) (lv := [(0, .ref (am 0)), (1, .int (nI z))]) rfl (Nat.le_of_ble_eq_true rfl) ?_
  intro p e s m below meth c C0 G ls hl
  have hx := C0.1
  have hb := C0.2.1
  have hown := C0.2.2.2.2.2.1
  have hts := C0.2.2.2.2.2.2.1
  refine lv_aload_n hx hb dX5_viewOf_0 rfl (lv_at hl 0 rfl) ?_
  refine g_get (q0 := 0) (v := .ref (am 1)) C0 G in_X5 rfl rfl 1 (by decide) fl_X5_7 (fun _ h => h) rfl dX5_viewOf_1 ?_
  refine lv_bipush (v := 65) hx hb dX5_viewOf_4 (by decide) ?_
  refine lv_iload_n hx hb dX5_viewOf_6 rfl (lv_at hl 1 rfl) ?_
  refine lv_imul hx hb dX5_viewOf_7 ?_
  refine g_topi (x' := nI (65 * z)) (pk_mul 65 z) ?_
  refine g_iald (q0 := 1) (n := 1365) C0 G rfl 1 rfl (vp_in_nI (n := 65 * z) (by omega) (by decide)) dX5_viewOf_8 ?_
  refine g_topi (x' := cS mf mb mv (65 * z)) (congrArg (cS mf mb mv) (nI_clamp (n := 65 * z) (by omega))) ?_
  refine g_topi (x' := nI (mv z)) cS_view ?_
  exact g_iret C0 G ⟨by first | rfl | (exfalso; omega) | (simp only [Bool.false_eq_true, ↓reduceIte, eq_self, decide_true, decide_false, not_true_eq_false, not_false_eq_true, Bool.true_and, Bool.false_and, Bool.and_true, Bool.and_false]; done) | (simp []; done) | (simp []; rfl) | (simp []; omega), by first | rfl | (exfalso; omega) | (simp only [Bool.false_eq_true, ↓reduceIte, eq_self, decide_true, decide_false, not_true_eq_false, not_false_eq_true, Bool.true_and, Bool.false_and, Bool.and_true, Bool.and_false]; done) | (simp []; done) | (simp []; rfl) | (simp []; omega)⟩ dX5_viewOf_9

set_option maxHeartbeats 4000000 in
set_option maxRecDepth 100000 in
theorem c_X5_isSound (l : Launch) (D : va_G) (cy : Nat → ClassId) (W1 : va_W) (u : Int32)  : GE l D (gts cy) yX5_isSound cX5_isSound 1 (some .boolean) 0 0 0 [.int u] (W1) (gF (some (.int (bI (decide (u < 2))))) (W1)) := by
  refine g_intro (by decide +kernel) (lv := [(0, .int u)]) rfl (Nat.le_of_ble_eq_true rfl) ?_
  intro p e s m below meth c C0 G ls hl
  have hx := C0.1
  have hb := C0.2.1
  have hown := C0.2.2.2.2.2.1
  have hts := C0.2.2.2.2.2.2.1
  refine lv_iload_n hx hb dX5_isSound_0 rfl (lv_at hl 0 rfl) ?_
  refine lv_iconst (v := 2) hx hb dX5_isSound_1 (by decide) ?_
  refine lv_icmp_ge (tgt := 9) hx hb dX5_isSound_2 (by decide) (fun c_2 => ?_) (fun c_2 => ?_)
  · skip
    refine lv_iconst (v := 0) hx hb dX5_isSound_9 (by decide) ?_
    exact g_zret C0 G rfl ⟨by first | (simp [bI, bI, c_2]; done) | (have c_2 : u < 2 := Int32.not_le.mp c_2; simp [bI, c_2]; done) | (have c_2 : ¬ u < 2 := Int32.not_lt.mpr c_2; simp [bI, c_2]; done), by first | rfl | (exfalso; omega) | (simp only [bI, c_2, Bool.false_eq_true, ↓reduceIte, eq_self, decide_true, decide_false, not_true_eq_false, not_false_eq_true, Bool.true_and, Bool.false_and, Bool.and_true, Bool.and_false]; done) | (simp [bI, c_2]; done) | (simp [bI, c_2]; rfl) | (simp [bI, c_2]; omega)⟩ dX5_isSound_10
  · skip
    refine lv_iconst (v := 1) hx hb dX5_isSound_5 (by decide) ?_
    refine lv_goto (tgt := 10) hx hb dX5_isSound_6 (by decide) ?_
    exact g_zret C0 G rfl ⟨by first | (simp [bI, bI, c_2]; done) | (have c_2 : u < 2 := Int32.not_le.mp c_2; simp [bI, c_2]; done) | (have c_2 : ¬ u < 2 := Int32.not_lt.mpr c_2; simp [bI, c_2]; done), by first | rfl | (exfalso; omega) | (simp only [bI, c_2, Bool.false_eq_true, ↓reduceIte, eq_self, decide_true, decide_false, not_true_eq_false, not_false_eq_true, Bool.true_and, Bool.false_and, Bool.and_true, Bool.and_false]; done) | (simp [bI, c_2]; done) | (simp [bI, c_2]; rfl) | (simp [bI, c_2]; omega)⟩ dX5_isSound_10

set_option maxHeartbeats 4000000 in
set_option maxRecDepth 100000 in
theorem c_X5_blanks (l : Launch) (D : va_G) (cy : Nat → ClassId) (am : Nat → Nat) (mf : Nat → Int64) (mb : Nat → Int64) (mv : Nat → Nat) (th : Int32) (sv : Nat) (X : Nat → Int32) (ln : Nat) (ap : Nat) (le : Nat) (fc : Nat) (f1 : Int32) (f2 : Int32) (ha : Int64) (R : va_W) (B : Nat → Int32) (z : Nat) (h1 : z < 21) : GE l D (gts cy) yX5_blanks cX5_blanks 3 none 1 0 0 [.ref (am 0), .int (nI z)] (wM am cy th (cS mf mb mv) sv X ln ap le fc f1 f2 (B) ha R) (gF none (wM am cy th (cS (va_up mf z 0) (va_up mb z 0) (va_up mv z 0)) sv X ln ap le fc f1 f2 (B) ha R)) := by
  refine g_intro (by decide +kernel) (lv := [(0, .ref (am 0)), (1, .int (nI z))]) rfl (Nat.le_of_ble_eq_true rfl) ?_
  intro p e s m below meth c C0 G ls hl
  have hx := C0.1
  have hb := C0.2.1
  have hown := C0.2.2.2.2.2.1
  have hts := C0.2.2.2.2.2.2.1
  refine lv_aload_n hx hb dX5_blanks_0 rfl (lv_at hl 0 rfl) ?_
  refine g_get (q0 := 0) (v := .ref (am 1)) C0 G in_X5 rfl rfl 1 (by decide) fl_X5_7 (fun _ h => h) rfl dX5_blanks_1 ?_
  refine lv_bipush (v := 65) hx hb dX5_blanks_4 (by decide) ?_
  refine lv_iload_n hx hb dX5_blanks_6 rfl (lv_at hl 1 rfl) ?_
  refine lv_imul hx hb dX5_blanks_7 ?_
  refine g_topi (x' := nI (65 * z)) (pk_mul 65 z) ?_
  refine lv_iconst (v := 0) hx hb dX5_blanks_8 (by decide) ?_
  refine g_iast (q0 := 1) (n := 1365) (W2 := wM am cy th (upd (cS mf mb mv) (65 * z) 0) sv X ln ap le fc f1 f2 (B) ha R) C0 G rfl 1 rfl (vp_in_nI (n := 65 * z) (by omega) (by decide)) (by rw [nI_clamp (n := 65 * z) (by omega)]; rfl) dX5_blanks_9 (fun H locs G => ?_)
  have G : gW D (wM am cy th (cS mf mb (va_up mv z 0)) sv X ln ap le fc f1 f2 (B) ha R) (va_A (wM am cy th (cS mf mb mv) sv X ln ap le fc f1 f2 (B) ha R) s.heap.size) s H locs := wM_S (fun p hp => cS_put p) G
  have G : gW D (wM am cy th (cS (va_up mf z (blF mf z 0)) (va_up mb z (blB mb z 0)) (va_up mv z 0)) sv X ln ap le fc f1 f2 (B) ha R) (va_A (wM am cy th (cS mf mb mv) sv X ln ap le fc f1 f2 (B) ha R) s.heap.size) s H locs := g_wc (by rw [show blF mf z 0 = mf z from rfl, show blB mb z 0 = mb z from rfl, va_up_s, va_up_s]) G
  refine lv_iconst (v := 0) hx hb dX5_blanks_10 (by decide) ?_
  refine lv_istore_n (lv' := [(2, .int 0), (0, .ref (am 0)), (1, .int (nI z))]) hx hb dX5_blanks_11 rfl hl (by decide) rfl (fun ls hl => ?_)
  have hl := lv_sub hl (l' := [(0, .ref (am 0)), (1, .int (nI z)), (2, .int 0)]) [1, 2, 0] rfl
  refine g_loop (σ := Nat) (fun i => 64 - i) (fun i => wM am cy th (cS (va_up mf z (blF mf z i)) (va_up mb z (blB mb z i)) (va_up mv z 0)) sv X ln ap le fc f1 f2 (B) ha R) (fun i => [(0, .ref (am 0)), (1, .int (nI z)), (2, .int (nI i))]) (fun i => i ≤ 64) ?_ 0 (by show _ ≤ _; omega) G hl
  intro i hi_12 ih_12 H locs ls G hl
  have G : gW D (wM am cy th (cS (va_up mf z (blF mf z i)) (va_up mb z (blB mb z i)) (va_up mv z 0)) sv X ln ap le fc f1 f2 (B) ha R) (va_A (wM am cy th (cS mf mb mv) sv X ln ap le fc f1 f2 (B) ha R) s.heap.size) s H locs := G
  have hl : lv_has ls 3 [(0, .ref (am 0)), (1, .int (nI z)), (2, .int (nI i))] := hl
  refine lv_iload_n hx hb dX5_blanks_12 rfl (lv_at hl 2 rfl) ?_
  refine lv_bipush (v := 64) hx hb dX5_blanks_13 (by decide) ?_
  refine lv_icmp_ge (tgt := 31) hx hb dX5_blanks_15 (by decide) (fun c_15 => ?_) (fun c_15 => ?_)
  · skip
    have c_15 : 64 ≤ i := (nI_leI (a := 64) (b := i) (by omega) (by omega)).mp c_15
    obtain rfl : i = 64 := by omega
    have G : gW D (wM am cy th (cS (va_up mf z (blF mf z 64)) (va_up mb z (blB mb z 64)) (va_up mv z 0)) sv X ln ap le fc f1 f2 (B) ha R) (va_A (wM am cy th (cS mf mb mv) sv X ln ap le fc f1 f2 (B) ha R) s.heap.size) s _ _ := G
    have hl : lv_has ls 3 [(0, .ref (am 0)), (1, .int (nI z)), (2, .int (nI 64))] := hl
    rw [bl0F, bl0B] at G
    exact g_vret C0 G ⟨by first | rfl | (exfalso; omega) | (simp only [c_15, Bool.false_eq_true, ↓reduceIte, eq_self, decide_true, decide_false, not_true_eq_false, not_false_eq_true, Bool.true_and, Bool.false_and, Bool.and_true, Bool.and_false]; done) | (simp [c_15]; done) | (simp [c_15]; rfl) | (simp [c_15]; omega), by first | rfl | (exfalso; omega) | (simp only [c_15, Bool.false_eq_true, ↓reduceIte, eq_self, decide_true, decide_false, not_true_eq_false, not_false_eq_true, Bool.true_and, Bool.false_and, Bool.and_true, Bool.and_false]; done) | (simp [c_15]; done) | (simp [c_15]; rfl) | (simp [c_15]; omega)⟩ dX5_blanks_31
  · skip
    have c_15 : ¬ (64 ≤ i) := fun h => c_15 ((nI_leI (a := 64) (b := i) (by omega) (by omega)).mpr h)
    refine lv_aload_n hx hb dX5_blanks_18 rfl (lv_at hl 0 rfl) ?_
    refine lv_iload_n hx hb dX5_blanks_19 rfl (lv_at hl 1 rfl) ?_
    refine lv_iload_n hx hb dX5_blanks_20 rfl (lv_at hl 2 rfl) ?_
    refine lv_iconst (v := 2) hx hb dX5_blanks_21 (by decide) ?_
    refine g_callV (As := [.int (nI z), .int (nI i), .int 2]) (rest := []) (q0 := 0) C0 G (c_X5_lay l D cy (am := am) (mf := va_up mf z (blF mf z i)) (mb := va_up mb z (blB mb z i)) (mv := va_up mv z 0) (th := th) (sv := sv) (X := X) (ln := ln) (ap := ap) (le := le) (fc := fc) (f1 := f1) (f2 := f2) (ha := ha) (R := R) (B := B) (z := z) (k := i) (q := 2) (by omega) (by omega) (by omega)) k_X5_lay ml_X5_31 rfl rfl dX5_blanks_22 rfl rfl hl.1 (Nat.le_of_ble_eq_true rfl) ⟨Nat.le_of_ble_eq_true rfl, Nat.le_of_ble_eq_true rfl⟩ ⟨Nat.le_of_ble_eq_true rfl, Nat.le_of_ble_eq_true rfl⟩ (fun r W2 H locs hp G => ?_)
    obtain ⟨rfl, hw⟩ := hp
    have G := g_wc hw G
    refine W.eq (g2 := F0 m 25 ls []) rfl ?_
    refine lv_iinc (v := nI (i + 1)) (lv' := [(2, .int (nI (i + 1))), (0, .ref (am 0)), (1, .int (nI z))]) hx hb dX5_blanks_25 hl (k := 2) rfl (nI_add i 1) (by decide) rfl (fun ls hl => ?_)
    refine lv_goto (tgt := 12) hx hb dX5_blanks_28 (by decide) ?_
    have hl := lv_sub hl (l' := _) [1, 2, 0] rfl
    exact ih_12 (i + 1) (by show _ ≤ _; omega) (by show _ < _; omega) _ _ _ (g_wc (by simp only [va_up_e, bx_uu, blF, blB]) G) hl

set_option maxHeartbeats 4000000 in
set_option maxRecDepth 100000 in
theorem c_X5_counted (l : Launch) (D : va_G) (cy : Nat → ClassId) (am : Nat → Nat) (mf : Nat → Int64) (mb : Nat → Int64) (mv : Nat → Nat) (th : Int32) (sv : Nat) (X : Nat → Int32) (ln : Nat) (ap : Nat) (le : Nat) (fc : Nat) (f1 : Int32) (f2 : Int32) (ha : Int64) (R : va_W) (B : Nat → Int32) (z : Nat) (q : Int32) (h1 : z < 21) : GE l D (gts cy) yX5_counted cX5_counted 5 (some .int) 1 0 0 [.ref (am 0), .int (nI z), .int q] (wM am cy th (cS mf mb mv) sv X ln ap le fc f1 f2 (B) ha R) (gF (some (.int (nI (cuN (mf z) (mb z) q)))) (wM am cy th (cS mf mb mv) sv X ln ap le fc f1 f2 (B) ha R)) := by
  refine g_intro (by decide +kernel) (lv := [(0, .ref (am 0)), (1, .int (nI z)), (2, .int q)]) rfl (Nat.le_of_ble_eq_true rfl) ?_
  intro p e s m below meth c C0 G ls hl
  have hx := C0.1
  have hb := C0.2.1
  have hown := C0.2.2.2.2.2.1
  have hts := C0.2.2.2.2.2.2.1
  refine lv_iconst (v := 0) hx hb dX5_counted_0 (by decide) ?_
  refine lv_istore_n (lv' := [(3, .int 0), (0, .ref (am 0)), (1, .int (nI z)), (2, .int q)]) hx hb dX5_counted_1 rfl hl (by decide) rfl (fun ls hl => ?_)
  refine lv_iconst (v := 0) hx hb dX5_counted_2 (by decide) ?_
  refine lv_istore (lv' := [(4, .int 0), (3, .int 0), (0, .ref (am 0)), (1, .int (nI z)), (2, .int q)]) hx hb dX5_counted_3 hl (by decide) rfl (fun ls hl => ?_)
  have hl := lv_sub hl (l' := [(0, .ref (am 0)), (1, .int (nI z)), (2, .int q), (3, .int 0), (4, .int 0)]) [2, 3, 4, 1, 0] rfl
  refine g_loop (σ := Nat) (fun i => 64 - i) (fun i => wM am cy th (cS mf mb mv) sv X ln ap le fc f1 f2 (B) ha R) (fun i => [(0, .ref (am 0)), (1, .int (nI z)), (2, .int q), (3, .int (nI (cnt (fun k => decide (kdI (mf z) (mb z) k = q)) i))), (4, .int (nI i))]) (fun i => i ≤ 64) ?_ 0 (by show _ ≤ _; omega) G hl
  intro i hi_5 ih_5 H locs ls G hl
  have G : gW D (wM am cy th (cS mf mb mv) sv X ln ap le fc f1 f2 (B) ha R) (va_A (wM am cy th (cS mf mb mv) sv X ln ap le fc f1 f2 (B) ha R) s.heap.size) s H locs := G
  have hl : lv_has ls 5 [(0, .ref (am 0)), (1, .int (nI z)), (2, .int q), (3, .int (nI (cnt (fun k => decide (kdI (mf z) (mb z) k = q)) i))), (4, .int (nI i))] := hl
  refine lv_iload hx hb dX5_counted_5 (lv_at hl 4 rfl) ?_
  refine lv_bipush (v := 64) hx hb dX5_counted_7 (by decide) ?_
  refine lv_icmp_ge (tgt := 37) hx hb dX5_counted_9 (by decide) (fun c_9 => ?_) (fun c_9 => ?_)
  · skip
    have c_9 : 64 ≤ i := (nI_leI (a := 64) (b := i) (by omega) (by omega)).mp c_9
    obtain rfl : i = 64 := by omega
    have G : gW D (wM am cy th (cS mf mb mv) sv X ln ap le fc f1 f2 (B) ha R) (va_A (wM am cy th (cS mf mb mv) sv X ln ap le fc f1 f2 (B) ha R) s.heap.size) s _ _ := G
    have hl : lv_has ls 5 [(0, .ref (am 0)), (1, .int (nI z)), (2, .int q), (3, .int (nI (cnt (fun k => decide (kdI (mf z) (mb z) k = q)) 64))), (4, .int (nI 64))] := hl
    refine lv_iload_n hx hb dX5_counted_37 rfl (lv_at hl 3 rfl) ?_
    exact g_iret C0 G ⟨by first | rfl | (exfalso; omega) | (simp only [cnt, c_9, Bool.false_eq_true, ↓reduceIte, eq_self, decide_true, decide_false, not_true_eq_false, not_false_eq_true, Bool.true_and, Bool.false_and, Bool.and_true, Bool.and_false]; done) | (simp [cnt, c_9]; done) | (simp [cnt, c_9]; rfl) | (simp [cnt, c_9]; omega), by first | rfl | (exfalso; omega) | (simp only [cnt, c_9, Bool.false_eq_true, ↓reduceIte, eq_self, decide_true, decide_false, not_true_eq_false, not_false_eq_true, Bool.true_and, Bool.false_and, Bool.and_true, Bool.and_false]; done) | (simp [cnt, c_9]; done) | (simp [cnt, c_9]; rfl) | (simp [cnt, c_9]; omega)⟩ dX5_counted_38
  · skip
    have c_9 : ¬ (64 ≤ i) := fun h => c_9 ((nI_leI (a := 64) (b := i) (by omega) (by omega)).mpr h)
    refine lv_iload_n hx hb dX5_counted_12 rfl (lv_at hl 3 rfl) ?_
    refine lv_aload_n hx hb dX5_counted_13 rfl (lv_at hl 0 rfl) ?_
    refine lv_iload_n hx hb dX5_counted_14 rfl (lv_at hl 1 rfl) ?_
    refine lv_iload hx hb dX5_counted_15 (lv_at hl 4 rfl) ?_
    refine g_callV (As := [.int (nI z), .int (nI i)]) (rest := [.int (nI (cnt (fun k => decide (kdI (mf z) (mb z) k = q)) i))]) (q0 := 0) C0 G (c_X5_of l D cy (am := am) (mf := mf) (mb := mb) (mv := mv) (th := th) (sv := sv) (X := X) (ln := ln) (ap := ap) (le := le) (fc := fc) (f1 := f1) (f2 := f2) (ha := ha) (R := R) (B := B) (z := z) (k := i) (by omega) (by omega)) k_X5_of ml_X5_35 rfl rfl dX5_counted_17 rfl rfl hl.1 (Nat.le_of_ble_eq_true rfl) ⟨Nat.le_of_ble_eq_true rfl, Nat.le_of_ble_eq_true rfl⟩ ⟨Nat.le_of_ble_eq_true rfl, Nat.le_of_ble_eq_true rfl⟩ (fun r W2 H locs hp G => ?_)
    obtain ⟨rfl, hw⟩ := hp
    have G := g_wc hw G
    refine W.eq (g2 := F0 m 20 ls [.int (kdI (mf z) (mb z) i), .int (nI (cnt (fun k => decide (kdI (mf z) (mb z) k = q)) i))]) rfl ?_
    refine lv_iload_n hx hb dX5_counted_20 rfl (lv_at hl 2 rfl) ?_
    refine lv_icmp_ne (tgt := 28) hx hb dX5_counted_21 (by decide) (fun c_21 => ?_) (fun c_21 => ?_)
    · skip
      refine lv_iconst (v := 0) hx hb dX5_counted_28 (by decide) ?_
      refine lv_iadd hx hb dX5_counted_29 ?_
      refine g_topi (x' := nI ((cnt (fun k => decide (kdI (mf z) (mb z) k = q)) i) + 0)) (nI_add (cnt (fun k => decide (kdI (mf z) (mb z) k = q)) i) 0) ?_
      refine g_topi (x' := nI (cnt (fun k => decide (kdI (mf z) (mb z) k = q)) (i + 1))) (congrArg nI (by first | rfl | (simp only [cnt, c_9, c_21, Bool.false_eq_true, ↓reduceIte]; done) | (simp [cnt, c_9, c_21]; done))) ?_
      refine lv_istore_n (lv' := [(3, .int (nI (cnt (fun k => decide (kdI (mf z) (mb z) k = q)) (i + 1)))), (0, .ref (am 0)), (1, .int (nI z)), (2, .int q), (4, .int (nI i))]) hx hb dX5_counted_30 rfl hl (by decide) rfl (fun ls hl => ?_)
      refine lv_iinc (v := nI (i + 1)) (lv' := [(4, .int (nI (i + 1))), (3, .int (nI (cnt (fun k => decide (kdI (mf z) (mb z) k = q)) (i + 1)))), (0, .ref (am 0)), (1, .int (nI z)), (2, .int q)]) hx hb dX5_counted_31 hl (k := 4) rfl (nI_add i 1) (by decide) rfl (fun ls hl => ?_)
      refine lv_goto (tgt := 5) hx hb dX5_counted_34 (by decide) ?_
      have hl := lv_sub hl (l' := _) [2, 3, 4, 1, 0] rfl
      exact ih_5 (i + 1) (by show _ ≤ _; omega) (by show _ < _; omega) _ _ _ G hl
    · skip
      refine lv_iconst (v := 1) hx hb dX5_counted_24 (by decide) ?_
      refine lv_goto (tgt := 29) hx hb dX5_counted_25 (by decide) ?_
      refine lv_iadd hx hb dX5_counted_29 ?_
      refine g_topi (x' := nI ((cnt (fun k => decide (kdI (mf z) (mb z) k = q)) i) + 1)) (nI_add (cnt (fun k => decide (kdI (mf z) (mb z) k = q)) i) 1) ?_
      refine g_topi (x' := nI (cnt (fun k => decide (kdI (mf z) (mb z) k = q)) (i + 1))) (congrArg nI (by first | rfl | (simp only [cnt, c_9, c_21, Bool.false_eq_true, ↓reduceIte]; done) | (simp [cnt, c_9, c_21]; done))) ?_
      refine lv_istore_n (lv' := [(3, .int (nI (cnt (fun k => decide (kdI (mf z) (mb z) k = q)) (i + 1)))), (0, .ref (am 0)), (1, .int (nI z)), (2, .int q), (4, .int (nI i))]) hx hb dX5_counted_30 rfl hl (by decide) rfl (fun ls hl => ?_)
      refine lv_iinc (v := nI (i + 1)) (lv' := [(4, .int (nI (i + 1))), (3, .int (nI (cnt (fun k => decide (kdI (mf z) (mb z) k = q)) (i + 1)))), (0, .ref (am 0)), (1, .int (nI z)), (2, .int q)]) hx hb dX5_counted_31 hl (k := 4) rfl (nI_add i 1) (by decide) rfl (fun ls hl => ?_)
      refine lv_goto (tgt := 5) hx hb dX5_counted_34 (by decide) ?_
      have hl := lv_sub hl (l' := _) [2, 3, 4, 1, 0] rfl
      exact ih_5 (i + 1) (by show _ ≤ _; omega) (by show _ < _; omega) _ _ _ G hl

set_option maxHeartbeats 4000000 in
set_option maxRecDepth 100000 in
theorem c_X5_hasHole (l : Launch) (D : va_G) (cy : Nat → ClassId) (W1 : va_W) (q : Int32) (fr : Int32)  : GE l D (gts cy) yX5_hasHole cX5_hasHole 2 (some .boolean) 0 0 0 [.int q, .int fr] (W1) (gF (some (.int (bI (hhB q fr)))) (W1)) := by
  refine g_intro (by decide +kernel) (lv := [(0, .int q), (1, .int fr)]) rfl (Nat.le_of_ble_eq_true rfl) ?_
  intro p e s m below meth c C0 G ls hl
  have hx := C0.1
  have hb := C0.2.1
  have hown := C0.2.2.2.2.2.1
  have hts := C0.2.2.2.2.2.2.1
  refine lv_iload_n hx hb dX5_hasHole_0 rfl (lv_at hl 0 rfl) ?_
  refine lv_iconst (v := 3) hx hb dX5_hasHole_1 (by decide) ?_
  refine lv_icmp_eq (tgt := 10) hx hb dX5_hasHole_2 (by decide) (fun c_2 => ?_) (fun c_2 => ?_)
  · skip
    refine lv_iconst (v := 1) hx hb dX5_hasHole_10 (by decide) ?_
    refine lv_goto (tgt := 15) hx hb dX5_hasHole_11 (by decide) ?_
    exact g_zret C0 G rfl ⟨by first | rfl | (exfalso; omega) | (simp only [hhB, bI, c_2, Bool.false_eq_true, ↓reduceIte, eq_self, decide_true, decide_false, not_true_eq_false, not_false_eq_true, Bool.true_and, Bool.false_and, Bool.and_true, Bool.and_false]; done) | (simp [hhB, bI, c_2]; done) | (simp [hhB, bI, c_2]; rfl) | (simp [hhB, bI, c_2]; omega), by first | rfl | (exfalso; omega) | (simp only [hhB, bI, c_2, Bool.false_eq_true, ↓reduceIte, eq_self, decide_true, decide_false, not_true_eq_false, not_false_eq_true, Bool.true_and, Bool.false_and, Bool.and_true, Bool.and_false]; done) | (simp [hhB, bI, c_2]; done) | (simp [hhB, bI, c_2]; rfl) | (simp [hhB, bI, c_2]; omega)⟩ dX5_hasHole_15
  · skip
    refine lv_iload_n hx hb dX5_hasHole_5 rfl (lv_at hl 0 rfl) ?_
    refine lv_iload_n hx hb dX5_hasHole_6 rfl (lv_at hl 1 rfl) ?_
    refine lv_icmp_ne (tgt := 14) hx hb dX5_hasHole_7 (by decide) (fun c_7 => ?_) (fun c_7 => ?_)
    · skip
      refine lv_iconst (v := 0) hx hb dX5_hasHole_14 (by decide) ?_
      exact g_zret C0 G rfl ⟨by first | rfl | (exfalso; omega) | (simp only [hhB, bI, c_2, c_7, Bool.false_eq_true, ↓reduceIte, eq_self, decide_true, decide_false, not_true_eq_false, not_false_eq_true, Bool.true_and, Bool.false_and, Bool.and_true, Bool.and_false]; done) | (simp [hhB, bI, c_2, c_7]; done) | (simp [hhB, bI, c_2, c_7]; rfl) | (simp [hhB, bI, c_2, c_7]; omega), by first | rfl | (exfalso; omega) | (simp only [hhB, bI, c_2, c_7, Bool.false_eq_true, ↓reduceIte, eq_self, decide_true, decide_false, not_true_eq_false, not_false_eq_true, Bool.true_and, Bool.false_and, Bool.and_true, Bool.and_false]; done) | (simp [hhB, bI, c_2, c_7]; done) | (simp [hhB, bI, c_2, c_7]; rfl) | (simp [hhB, bI, c_2, c_7]; omega)⟩ dX5_hasHole_15
    · skip
      refine lv_iconst (v := 1) hx hb dX5_hasHole_10 (by decide) ?_
      refine lv_goto (tgt := 15) hx hb dX5_hasHole_11 (by decide) ?_
      exact g_zret C0 G rfl ⟨by first | rfl | (exfalso; omega) | (simp only [hhB, bI, c_2, c_7, Bool.false_eq_true, ↓reduceIte, eq_self, decide_true, decide_false, not_true_eq_false, not_false_eq_true, Bool.true_and, Bool.false_and, Bool.and_true, Bool.and_false]; done) | (simp [hhB, bI, c_2, c_7]; done) | (simp [hhB, bI, c_2, c_7]; rfl) | (simp [hhB, bI, c_2, c_7]; omega), by first | rfl | (exfalso; omega) | (simp only [hhB, bI, c_2, c_7, Bool.false_eq_true, ↓reduceIte, eq_self, decide_true, decide_false, not_true_eq_false, not_false_eq_true, Bool.true_and, Bool.false_and, Bool.and_true, Bool.and_false]; done) | (simp [hhB, bI, c_2, c_7]; done) | (simp [hhB, bI, c_2, c_7]; rfl) | (simp [hhB, bI, c_2, c_7]; omega)⟩ dX5_hasHole_15

set_option maxHeartbeats 4000000 in
set_option maxRecDepth 100000 in
theorem c_X5_turned (l : Launch) (D : va_G) (cy : Nat → ClassId) (W1 : va_W) (q : Int32) (fr : Int32)  : GE l D (gts cy) yX5_turned cX5_turned 2 (some .int) 0 0 0 [.int q, .int fr] (W1) (gF (some (.int (tuI q fr))) (W1)) := by
  refine g_intro (by decide +kernel) (lv := [(0, .int q), (1, .int fr)]) rfl (Nat.le_of_ble_eq_true rfl) ?_
  intro p e s m below meth c C0 G ls hl
  have hx := C0.1
  have hb := C0.2.1
  have hown := C0.2.2.2.2.2.1
  have hts := C0.2.2.2.2.2.2.1
  refine lv_iload_n hx hb dX5_turned_0 rfl (lv_at hl 0 rfl) ?_
  by_cases s_1_2 : q = 2
  · skip
    refine lv_lookup (off := 27) (tgt := 28) hx hb dX5_turned_1 (by decide) (by rw [s_1_2]; decide) (by decide) ?_
    refine lv_iload_n hx hb dX5_turned_28 rfl (lv_at hl 1 rfl) ?_
    exact g_iret C0 G ⟨by unfold tuI; first | rw [if_pos s_1_2] | (rw [if_neg s_1_2, if_pos s_1_3]; done) | (rw [if_neg s_1_2, if_neg s_1_3, if_pos c_36]; done) | (rw [if_neg s_1_2, if_neg s_1_3, if_neg c_36]; done), by first | rfl | (exfalso; omega) | (simp only [tuI, s_1_2, Bool.false_eq_true, ↓reduceIte, eq_self, decide_true, decide_false, not_true_eq_false, not_false_eq_true, Bool.true_and, Bool.false_and, Bool.and_true, Bool.and_false]; done) | (simp [tuI, s_1_2]; done) | (simp [tuI, s_1_2]; rfl) | (simp [tuI, s_1_2]; omega)⟩ dX5_turned_29
  by_cases s_1_3 : q = 3
  · skip
    refine lv_lookup (off := 29) (tgt := 30) hx hb dX5_turned_1 (by decide) (by rw [s_1_3]; decide) (by decide) ?_
    refine lv_iconst (v := 1) hx hb dX5_turned_30 (by decide) ?_
    refine lv_iload_n hx hb dX5_turned_31 rfl (lv_at hl 1 rfl) ?_
    refine lv_isub hx hb dX5_turned_32 ?_
    exact g_iret C0 G ⟨by unfold tuI; first | rw [if_pos s_1_2] | (rw [if_neg s_1_2, if_pos s_1_3]; done) | (rw [if_neg s_1_2, if_neg s_1_3, if_pos c_36]; done) | (rw [if_neg s_1_2, if_neg s_1_3, if_neg c_36]; done), by first | rfl | (exfalso; omega) | (simp only [tuI, s_1_2, s_1_3, Bool.false_eq_true, ↓reduceIte, eq_self, decide_true, decide_false, not_true_eq_false, not_false_eq_true, Bool.true_and, Bool.false_and, Bool.and_true, Bool.and_false]; done) | (simp [tuI, s_1_2, s_1_3]; done) | (simp [tuI, s_1_2, s_1_3]; rfl) | (simp [tuI, s_1_2, s_1_3]; omega)⟩ dX5_turned_33
  refine lv_lookup (off := 33) (tgt := 34) hx hb dX5_turned_1 (by decide) ((lv_osw s_1_2 (by decide)).trans ((lv_osw s_1_3 (by decide)).trans (rfl))) (by decide) ?_
  refine lv_iload_n hx hb dX5_turned_34 rfl (lv_at hl 0 rfl) ?_
  refine lv_iload_n hx hb dX5_turned_35 rfl (lv_at hl 1 rfl) ?_
  refine lv_icmp_ne (tgt := 43) hx hb dX5_turned_36 (by decide) (fun c_36 => ?_) (fun c_36 => ?_)
  · skip
    refine lv_iconst (v := 3) hx hb dX5_turned_43 (by decide) ?_
    exact g_iret C0 G ⟨by unfold tuI; first | rw [if_pos s_1_2] | (rw [if_neg s_1_2, if_pos s_1_3]; done) | (rw [if_neg s_1_2, if_neg s_1_3, if_pos c_36]; done) | (rw [if_neg s_1_2, if_neg s_1_3, if_neg c_36]; done), by first | rfl | (exfalso; omega) | (simp only [tuI, s_1_2, s_1_3, c_36, Bool.false_eq_true, ↓reduceIte, eq_self, decide_true, decide_false, not_true_eq_false, not_false_eq_true, Bool.true_and, Bool.false_and, Bool.and_true, Bool.and_false]; done) | (simp [tuI, s_1_2, s_1_3, c_36]; done) | (simp [tuI, s_1_2, s_1_3, c_36]; rfl) | (simp [tuI, s_1_2, s_1_3, c_36]; omega)⟩ dX5_turned_44
  · skip
    refine lv_iconst (v := 2) hx hb dX5_turned_39 (by decide) ?_
    refine lv_goto (tgt := 44) hx hb dX5_turned_40 (by decide) ?_
    exact g_iret C0 G ⟨by unfold tuI; first | rw [if_pos s_1_2] | (rw [if_neg s_1_2, if_pos s_1_3]; done) | (rw [if_neg s_1_2, if_neg s_1_3, if_pos c_36]; done) | (rw [if_neg s_1_2, if_neg s_1_3, if_neg c_36]; done), by first | rfl | (exfalso; omega) | (simp only [tuI, s_1_2, s_1_3, c_36, Bool.false_eq_true, ↓reduceIte, eq_self, decide_true, decide_false, not_true_eq_false, not_false_eq_true, Bool.true_and, Bool.false_and, Bool.and_true, Bool.and_false]; done) | (simp [tuI, s_1_2, s_1_3, c_36]; done) | (simp [tuI, s_1_2, s_1_3, c_36]; rfl) | (simp [tuI, s_1_2, s_1_3, c_36]; omega)⟩ dX5_turned_44

set_option maxHeartbeats 4000000 in
set_option maxRecDepth 100000 in
theorem c_X5_seenCell (l : Launch) (D : va_G) (cy : Nat → ClassId) (W1 : va_W) (v : Nat) (row : Nat) (col : Nat) (h1 : v < 4) (h2 : row < 8) (h3 : col < 8) : GE l D (gts cy) yX5_seenCell cX5_seenCell 5 (some .int) 0 0 0 [.int (nI v), .int (nI row), .int (nI col)] (W1) (gF (some (.int (nI (scN v row col)))) (W1)) := by
  refine g_intro (by decide +kernel) (lv := [(0, .int (nI v)), (1, .int (nI row)), (2, .int (nI col))]) rfl (Nat.le_of_ble_eq_true rfl) ?_
  intro p e s m below meth c C0 G ls hl
  have hx := C0.1
  have hb := C0.2.1
  have hown := C0.2.2.2.2.2.1
  have hts := C0.2.2.2.2.2.2.1
  refine lv_iload_n hx hb dX5_seenCell_0 rfl (lv_at hl 0 rfl) ?_
  refine lv_iconst (v := 2) hx hb dX5_seenCell_1 (by decide) ?_
  refine lv_irem hx hb dX5_seenCell_2 (by decide) ?_
  refine g_topi (x' := nI (v % 2)) (pk_rem (a := v) (d := 2) (by omega) (by decide) (by decide)) ?_
  refine lv_if_ne (tgt := 10) hx hb dX5_seenCell_3 (by decide) (fun c_3 => ?_) (fun c_3 => ?_)
  · skip
    have c_3 : ¬ ((v % 2) = 0) := fun h => c_3 ((nI_eq (a := v % 2) (b := 0) (by omega) (by omega)).mpr h)
    refine lv_bipush (v := 7) hx hb dX5_seenCell_10 (by decide) ?_
    refine lv_iload_n hx hb dX5_seenCell_12 rfl (lv_at hl 1 rfl) ?_
    refine lv_isub hx hb dX5_seenCell_13 ?_
    refine g_topi (x' := nI (7 - row)) (pk_sub (a := 7) (b := row) (by omega)) ?_
    refine lv_istore_n (lv' := [(3, .int (nI (7 - row))), (0, .int (nI v)), (1, .int (nI row)), (2, .int (nI col))]) hx hb dX5_seenCell_14 rfl hl (by decide) rfl (fun ls hl => ?_)
    refine lv_iload_n hx hb dX5_seenCell_15 rfl (lv_at hl 1 rfl) ?_
    refine lv_if_eq (tgt := 24) hx hb dX5_seenCell_16 (by decide) (fun c_16 => ?_) (fun c_16 => ?_)
    · skip
      have c_16 : v = 0 := (nI_eq (a := v) (b := 0) (by omega) (by omega)).mp c_16
      refine lv_iload_n hx hb dX5_seenCell_24 rfl (lv_at hl 3 rfl) ?_
      refine lv_goto (tgt := 32) hx hb dX5_seenCell_25 (by decide) ?_
      refine lv_istore (lv' := [(4, .int (nI col)), (3, .int (nI (7 - row))), (0, .int (nI v)), (1, .int (nI row)), (2, .int (nI col))]) hx hb dX5_seenCell_32 hl (by decide) rfl (fun ls hl => ?_)
      refine lv_bipush (v := 8) hx hb dX5_seenCell_34 (by decide) ?_
      refine lv_iload_n hx hb dX5_seenCell_36 rfl (lv_at hl 1 rfl) ?_
      refine lv_imul hx hb dX5_seenCell_37 ?_
      refine g_topi (x' := nI (8 * (7 - row))) (pk_mul 8 (7 - row)) ?_
      refine lv_iload hx hb dX5_seenCell_38 (lv_at hl 0 rfl) ?_
      refine lv_iadd hx hb dX5_seenCell_40 ?_
      refine g_topi (x' := nI ((8 * (7 - row)) + col)) (nI_add (8 * (7 - row)) col) ?_
      exact g_iret C0 G ⟨by first | (exfalso; omega) | (rw [show scN v row col = 8 * row + col from by unfold scN; rw [if_neg (by omega), if_neg (by omega)]]) | (rw [show scN v row col = 8 * row + (7 - col) from by unfold scN; rw [if_neg (by omega), if_pos (by omega)]]) | (rw [show scN v row col = 8 * (7 - row) + col from by unfold scN; rw [if_pos (by omega), if_neg (by omega)]]) | (rw [show scN v row col = 8 * (7 - row) + (7 - col) from by unfold scN; rw [if_pos (by omega), if_pos (by omega)]]), by first | rfl | (exfalso; omega) | (simp only [c_3, c_16, Bool.false_eq_true, ↓reduceIte, eq_self, decide_true, decide_false, not_true_eq_false, not_false_eq_true, Bool.true_and, Bool.false_and, Bool.and_true, Bool.and_false]; done) | (simp [c_3, c_16]; done) | (simp [c_3, c_16]; rfl) | (simp [c_3, c_16]; omega)⟩ dX5_seenCell_41
    · skip
      have c_16 : ¬ (v = 0) := fun h => c_16 ((nI_eq (a := v) (b := 0) (by omega) (by omega)).mpr h)
      refine lv_iload_n hx hb dX5_seenCell_19 rfl (lv_at hl 1 rfl) ?_
      refine lv_iconst (v := 3) hx hb dX5_seenCell_20 (by decide) ?_
      refine lv_icmp_ne (tgt := 28) hx hb dX5_seenCell_21 (by decide) (fun c_21 => ?_) (fun c_21 => ?_)
      · skip
        have c_21 : ¬ (v = 3) := fun h => c_21 ((nI_eq (a := v) (b := 3) (by omega) (by omega)).mpr h)
        refine lv_bipush (v := 7) hx hb dX5_seenCell_28 (by decide) ?_
        refine lv_iload_n hx hb dX5_seenCell_30 rfl (lv_at hl 3 rfl) ?_
        refine lv_isub hx hb dX5_seenCell_31 ?_
        refine g_topi (x' := nI (7 - col)) (pk_sub (a := 7) (b := col) (by omega)) ?_
        refine lv_istore (lv' := [(4, .int (nI (7 - col))), (3, .int (nI (7 - row))), (0, .int (nI v)), (1, .int (nI row)), (2, .int (nI col))]) hx hb dX5_seenCell_32 hl (by decide) rfl (fun ls hl => ?_)
        refine lv_bipush (v := 8) hx hb dX5_seenCell_34 (by decide) ?_
        refine lv_iload_n hx hb dX5_seenCell_36 rfl (lv_at hl 1 rfl) ?_
        refine lv_imul hx hb dX5_seenCell_37 ?_
        refine g_topi (x' := nI (8 * (7 - row))) (pk_mul 8 (7 - row)) ?_
        refine lv_iload hx hb dX5_seenCell_38 (lv_at hl 0 rfl) ?_
        refine lv_iadd hx hb dX5_seenCell_40 ?_
        refine g_topi (x' := nI ((8 * (7 - row)) + (7 - col))) (nI_add (8 * (7 - row)) (7 - col)) ?_
        exact g_iret C0 G ⟨by first | (exfalso; omega) | (rw [show scN v row col = 8 * row + col from by unfold scN; rw [if_neg (by omega), if_neg (by omega)]]) | (rw [show scN v row col = 8 * row + (7 - col) from by unfold scN; rw [if_neg (by omega), if_pos (by omega)]]) | (rw [show scN v row col = 8 * (7 - row) + col from by unfold scN; rw [if_pos (by omega), if_neg (by omega)]]) | (rw [show scN v row col = 8 * (7 - row) + (7 - col) from by unfold scN; rw [if_pos (by omega), if_pos (by omega)]]), by first | rfl | (exfalso; omega) | (simp only [c_3, c_16, c_21, Bool.false_eq_true, ↓reduceIte, eq_self, decide_true, decide_false, not_true_eq_false, not_false_eq_true, Bool.true_and, Bool.false_and, Bool.and_true, Bool.and_false]; done) | (simp [c_3, c_16, c_21]; done) | (simp [c_3, c_16, c_21]; rfl) | (simp [c_3, c_16, c_21]; omega)⟩ dX5_seenCell_41
      · skip
        have c_21 : v = 3 := (nI_eq (a := v) (b := 3) (by omega) (by omega)).mp c_21
        refine lv_iload_n hx hb dX5_seenCell_24 rfl (lv_at hl 3 rfl) ?_
        refine lv_goto (tgt := 32) hx hb dX5_seenCell_25 (by decide) ?_
        refine lv_istore (lv' := [(4, .int (nI col)), (3, .int (nI (7 - row))), (0, .int (nI v)), (1, .int (nI row)), (2, .int (nI col))]) hx hb dX5_seenCell_32 hl (by decide) rfl (fun ls hl => ?_)
        refine lv_bipush (v := 8) hx hb dX5_seenCell_34 (by decide) ?_
        refine lv_iload_n hx hb dX5_seenCell_36 rfl (lv_at hl 1 rfl) ?_
        refine lv_imul hx hb dX5_seenCell_37 ?_
        refine g_topi (x' := nI (8 * (7 - row))) (pk_mul 8 (7 - row)) ?_
        refine lv_iload hx hb dX5_seenCell_38 (lv_at hl 0 rfl) ?_
        refine lv_iadd hx hb dX5_seenCell_40 ?_
        refine g_topi (x' := nI ((8 * (7 - row)) + col)) (nI_add (8 * (7 - row)) col) ?_
        exact g_iret C0 G ⟨by first | (exfalso; omega) | (rw [show scN v row col = 8 * row + col from by unfold scN; rw [if_neg (by omega), if_neg (by omega)]]) | (rw [show scN v row col = 8 * row + (7 - col) from by unfold scN; rw [if_neg (by omega), if_pos (by omega)]]) | (rw [show scN v row col = 8 * (7 - row) + col from by unfold scN; rw [if_pos (by omega), if_neg (by omega)]]) | (rw [show scN v row col = 8 * (7 - row) + (7 - col) from by unfold scN; rw [if_pos (by omega), if_pos (by omega)]]), by first | rfl | (exfalso; omega) | (simp only [c_3, c_16, c_21, Bool.false_eq_true, ↓reduceIte, eq_self, decide_true, decide_false, not_true_eq_false, not_false_eq_true, Bool.true_and, Bool.false_and, Bool.and_true, Bool.and_false]; done) | (simp [c_3, c_16, c_21]; done) | (simp [c_3, c_16, c_21]; rfl) | (simp [c_3, c_16, c_21]; omega)⟩ dX5_seenCell_41
  · skip
    have c_3 : (v % 2) = 0 := (nI_eq (a := v % 2) (b := 0) (by omega) (by omega)).mp c_3
    refine lv_iload_n hx hb dX5_seenCell_6 rfl (lv_at hl 1 rfl) ?_
    refine lv_goto (tgt := 14) hx hb dX5_seenCell_7 (by decide) ?_
    refine lv_istore_n (lv' := [(3, .int (nI row)), (0, .int (nI v)), (1, .int (nI row)), (2, .int (nI col))]) hx hb dX5_seenCell_14 rfl hl (by decide) rfl (fun ls hl => ?_)
    refine lv_iload_n hx hb dX5_seenCell_15 rfl (lv_at hl 1 rfl) ?_
    refine lv_if_eq (tgt := 24) hx hb dX5_seenCell_16 (by decide) (fun c_16 => ?_) (fun c_16 => ?_)
    · skip
      have c_16 : v = 0 := (nI_eq (a := v) (b := 0) (by omega) (by omega)).mp c_16
      refine lv_iload_n hx hb dX5_seenCell_24 rfl (lv_at hl 3 rfl) ?_
      refine lv_goto (tgt := 32) hx hb dX5_seenCell_25 (by decide) ?_
      refine lv_istore (lv' := [(4, .int (nI col)), (3, .int (nI row)), (0, .int (nI v)), (1, .int (nI row)), (2, .int (nI col))]) hx hb dX5_seenCell_32 hl (by decide) rfl (fun ls hl => ?_)
      refine lv_bipush (v := 8) hx hb dX5_seenCell_34 (by decide) ?_
      refine lv_iload_n hx hb dX5_seenCell_36 rfl (lv_at hl 1 rfl) ?_
      refine lv_imul hx hb dX5_seenCell_37 ?_
      refine g_topi (x' := nI (8 * row)) (pk_mul 8 row) ?_
      refine lv_iload hx hb dX5_seenCell_38 (lv_at hl 0 rfl) ?_
      refine lv_iadd hx hb dX5_seenCell_40 ?_
      refine g_topi (x' := nI ((8 * row) + col)) (nI_add (8 * row) col) ?_
      exact g_iret C0 G ⟨by first | (exfalso; omega) | (rw [show scN v row col = 8 * row + col from by unfold scN; rw [if_neg (by omega), if_neg (by omega)]]) | (rw [show scN v row col = 8 * row + (7 - col) from by unfold scN; rw [if_neg (by omega), if_pos (by omega)]]) | (rw [show scN v row col = 8 * (7 - row) + col from by unfold scN; rw [if_pos (by omega), if_neg (by omega)]]) | (rw [show scN v row col = 8 * (7 - row) + (7 - col) from by unfold scN; rw [if_pos (by omega), if_pos (by omega)]]), by first | rfl | (exfalso; omega) | (simp only [c_3, c_16, Bool.false_eq_true, ↓reduceIte, eq_self, decide_true, decide_false, not_true_eq_false, not_false_eq_true, Bool.true_and, Bool.false_and, Bool.and_true, Bool.and_false]; done) | (simp [c_3, c_16]; done) | (simp [c_3, c_16]; rfl) | (simp [c_3, c_16]; omega)⟩ dX5_seenCell_41
    · skip
      have c_16 : ¬ (v = 0) := fun h => c_16 ((nI_eq (a := v) (b := 0) (by omega) (by omega)).mpr h)
      refine lv_iload_n hx hb dX5_seenCell_19 rfl (lv_at hl 1 rfl) ?_
      refine lv_iconst (v := 3) hx hb dX5_seenCell_20 (by decide) ?_
      refine lv_icmp_ne (tgt := 28) hx hb dX5_seenCell_21 (by decide) (fun c_21 => ?_) (fun c_21 => ?_)
      · skip
        have c_21 : ¬ (v = 3) := fun h => c_21 ((nI_eq (a := v) (b := 3) (by omega) (by omega)).mpr h)
        refine lv_bipush (v := 7) hx hb dX5_seenCell_28 (by decide) ?_
        refine lv_iload_n hx hb dX5_seenCell_30 rfl (lv_at hl 3 rfl) ?_
        refine lv_isub hx hb dX5_seenCell_31 ?_
        refine g_topi (x' := nI (7 - col)) (pk_sub (a := 7) (b := col) (by omega)) ?_
        refine lv_istore (lv' := [(4, .int (nI (7 - col))), (3, .int (nI row)), (0, .int (nI v)), (1, .int (nI row)), (2, .int (nI col))]) hx hb dX5_seenCell_32 hl (by decide) rfl (fun ls hl => ?_)
        refine lv_bipush (v := 8) hx hb dX5_seenCell_34 (by decide) ?_
        refine lv_iload_n hx hb dX5_seenCell_36 rfl (lv_at hl 1 rfl) ?_
        refine lv_imul hx hb dX5_seenCell_37 ?_
        refine g_topi (x' := nI (8 * row)) (pk_mul 8 row) ?_
        refine lv_iload hx hb dX5_seenCell_38 (lv_at hl 0 rfl) ?_
        refine lv_iadd hx hb dX5_seenCell_40 ?_
        refine g_topi (x' := nI ((8 * row) + (7 - col))) (nI_add (8 * row) (7 - col)) ?_
        exact g_iret C0 G ⟨by first | (exfalso; omega) | (rw [show scN v row col = 8 * row + col from by unfold scN; rw [if_neg (by omega), if_neg (by omega)]]) | (rw [show scN v row col = 8 * row + (7 - col) from by unfold scN; rw [if_neg (by omega), if_pos (by omega)]]) | (rw [show scN v row col = 8 * (7 - row) + col from by unfold scN; rw [if_pos (by omega), if_neg (by omega)]]) | (rw [show scN v row col = 8 * (7 - row) + (7 - col) from by unfold scN; rw [if_pos (by omega), if_pos (by omega)]]), by first | rfl | (exfalso; omega) | (simp only [c_3, c_16, c_21, Bool.false_eq_true, ↓reduceIte, eq_self, decide_true, decide_false, not_true_eq_false, not_false_eq_true, Bool.true_and, Bool.false_and, Bool.and_true, Bool.and_false]; done) | (simp [c_3, c_16, c_21]; done) | (simp [c_3, c_16, c_21]; rfl) | (simp [c_3, c_16, c_21]; omega)⟩ dX5_seenCell_41
      · skip
        have c_21 : v = 3 := (nI_eq (a := v) (b := 3) (by omega) (by omega)).mp c_21
        refine lv_iload_n hx hb dX5_seenCell_24 rfl (lv_at hl 3 rfl) ?_
        refine lv_goto (tgt := 32) hx hb dX5_seenCell_25 (by decide) ?_
        refine lv_istore (lv' := [(4, .int (nI col)), (3, .int (nI row)), (0, .int (nI v)), (1, .int (nI row)), (2, .int (nI col))]) hx hb dX5_seenCell_32 hl (by decide) rfl (fun ls hl => ?_)
        refine lv_bipush (v := 8) hx hb dX5_seenCell_34 (by decide) ?_
        refine lv_iload_n hx hb dX5_seenCell_36 rfl (lv_at hl 1 rfl) ?_
        refine lv_imul hx hb dX5_seenCell_37 ?_
        refine g_topi (x' := nI (8 * row)) (pk_mul 8 row) ?_
        refine lv_iload hx hb dX5_seenCell_38 (lv_at hl 0 rfl) ?_
        refine lv_iadd hx hb dX5_seenCell_40 ?_
        refine g_topi (x' := nI ((8 * row) + col)) (nI_add (8 * row) col) ?_
        exact g_iret C0 G ⟨by first | (exfalso; omega) | (rw [show scN v row col = 8 * row + col from by unfold scN; rw [if_neg (by omega), if_neg (by omega)]]) | (rw [show scN v row col = 8 * row + (7 - col) from by unfold scN; rw [if_neg (by omega), if_pos (by omega)]]) | (rw [show scN v row col = 8 * (7 - row) + col from by unfold scN; rw [if_pos (by omega), if_neg (by omega)]]) | (rw [show scN v row col = 8 * (7 - row) + (7 - col) from by unfold scN; rw [if_pos (by omega), if_pos (by omega)]]), by first | rfl | (exfalso; omega) | (simp only [c_3, c_16, c_21, Bool.false_eq_true, ↓reduceIte, eq_self, decide_true, decide_false, not_true_eq_false, not_false_eq_true, Bool.true_and, Bool.false_and, Bool.and_true, Bool.and_false]; done) | (simp [c_3, c_16, c_21]; done) | (simp [c_3, c_16, c_21]; rfl) | (simp [c_3, c_16, c_21]; omega)⟩ dX5_seenCell_41

set_option maxHeartbeats 4000000 in
set_option maxRecDepth 100000 in
theorem c_X5_faceOf (l : Launch) (D : va_G) (cy : Nat → ClassId) (W1 : va_W) (v : Nat) (h1 : v < 4) : GE l D (gts cy) yX5_faceOf cX5_faceOf 1 (some .int) 0 0 0 [.int (nI v)] (W1) (gF (some (.int (nI (fcN v)))) (W1)) := by
  refine g_intro (by decide +kernel) (lv := [(0, .int (nI v))]) rfl (Nat.le_of_ble_eq_true rfl) ?_
  intro p e s m below meth c C0 G ls hl
  have hx := C0.1
  have hb := C0.2.1
  have hown := C0.2.2.2.2.2.1
  have hts := C0.2.2.2.2.2.2.1
  refine lv_iload_n hx hb dX5_faceOf_0 rfl (lv_at hl 0 rfl) ?_
  refine lv_iconst (v := 2) hx hb dX5_faceOf_1 (by decide) ?_
  refine lv_icmp_ge (tgt := 9) hx hb dX5_faceOf_2 (by decide) (fun c_2 => ?_) (fun c_2 => ?_)
  · skip
    have c_2 : 2 ≤ v := (nI_leI (a := 2) (b := v) (by omega) (by omega)).mp c_2
    refine lv_iconst (v := 0) hx hb dX5_faceOf_9 (by decide) ?_
    exact g_iret C0 G ⟨by first | (rw [show fcN v = 1 from if_pos (by omega)]; rfl) | (rw [show fcN v = 0 from if_neg (by omega)]; rfl), by first | rfl | (exfalso; omega) | (simp only [c_2, Bool.false_eq_true, ↓reduceIte, eq_self, decide_true, decide_false, not_true_eq_false, not_false_eq_true, Bool.true_and, Bool.false_and, Bool.and_true, Bool.and_false]; done) | (simp [c_2]; done) | (simp [c_2]; rfl) | (simp [c_2]; omega)⟩ dX5_faceOf_10
  · skip
    have c_2 : ¬ (2 ≤ v) := fun h => c_2 ((nI_leI (a := 2) (b := v) (by omega) (by omega)).mpr h)
    refine lv_iconst (v := 1) hx hb dX5_faceOf_5 (by decide) ?_
    refine lv_goto (tgt := 10) hx hb dX5_faceOf_6 (by decide) ?_
    exact g_iret C0 G ⟨by first | (rw [show fcN v = 1 from if_pos (by omega)]; rfl) | (rw [show fcN v = 0 from if_neg (by omega)]; rfl), by first | rfl | (exfalso; omega) | (simp only [c_2, Bool.false_eq_true, ↓reduceIte, eq_self, decide_true, decide_false, not_true_eq_false, not_false_eq_true, Bool.true_and, Bool.false_and, Bool.and_true, Bool.and_false]; done) | (simp [c_2]; done) | (simp [c_2]; rfl) | (simp [c_2]; omega)⟩ dX5_faceOf_10

set_option maxHeartbeats 4000000 in
set_option maxRecDepth 100000 in
theorem c_X5_isSeen (l : Launch) (D : va_G) (cy : Nat → ClassId) (am : Nat → Nat) (mf : Nat → Int64) (mb : Nat → Int64) (mv : Nat → Nat) (th : Int32) (sv : Nat) (X : Nat → Int32) (ln : Nat) (ap : Nat) (le : Nat) (fc : Nat) (f1 : Int32) (f2 : Int32) (ha : Int64) (R : va_W) (B : Nat → Int32) (z : Nat) (row : Nat) (col : Nat) (h1 : z < 21) (h2 : row < 8) (h3 : col < 8) (hv : mv z < 4) : GE l D (gts cy) yX5_isSeen cX5_isSeen 4 (some .boolean) 1 0 0 [.ref (am 0), .int (nI z), .int (nI row), .int (nI col)] (wM am cy th (cS mf mb mv) sv X ln ap le fc f1 f2 (B) ha R) (gF (some (.int (bI (shB1 (mf z) (mb z) (mv z) row col)))) (wM am cy th (cS mf mb mv) sv X ln ap le fc f1 f2 (B) ha R)) := by
  refine g_intro (by decide +kernel) (lv := [(0, .ref (am 0)), (1, .int (nI z)), (2, .int (nI row)), (3, .int (nI col))]) rfl (Nat.le_of_ble_eq_true rfl) ?_
  intro p e s m below meth c C0 G ls hl
  have hx := C0.1
  have hb := C0.2.1
  have hown := C0.2.2.2.2.2.1
  have hts := C0.2.2.2.2.2.2.1
  refine lv_aload_n hx hb dX5_isSeen_0 rfl (lv_at hl 0 rfl) ?_
  refine lv_iload_n hx hb dX5_isSeen_1 rfl (lv_at hl 1 rfl) ?_
  refine lv_aload_n hx hb dX5_isSeen_2 rfl (lv_at hl 0 rfl) ?_
  refine lv_iload_n hx hb dX5_isSeen_3 rfl (lv_at hl 1 rfl) ?_
  refine g_callV (As := [.int (nI z)]) (rest := [.int (nI z), .ref (am 0)]) (q0 := 0) C0 G (c_X5_viewOf l D cy (am := am) (mf := mf) (mb := mb) (mv := mv) (th := th) (sv := sv) (X := X) (ln := ln) (ap := ap) (le := le) (fc := fc) (f1 := f1) (f2 := f2) (ha := ha) (R := R) (B := B) (z := z) (by omega)) k_X5_viewOf ml_X5_39 rfl rfl dX5_isSeen_4 rfl rfl hl.1 (Nat.le_of_ble_eq_true rfl) ⟨Nat.le_of_ble_eq_true rfl, Nat.le_of_ble_eq_true rfl⟩ ⟨Nat.le_of_ble_eq_true rfl, Nat.le_of_ble_eq_true rfl⟩ (fun r W2 H locs hp G => ?_)
  obtain ⟨rfl, hw⟩ := hp
  have G := g_wc hw G
  refine W.eq (g2 := F0 m 7 ls [.int (nI (mv z)), .int (nI z), .ref (am 0)]) rfl ?_
  refine lv_iload_n hx hb dX5_isSeen_7 rfl (lv_at hl 2 rfl) ?_
  refine lv_iload_n hx hb dX5_isSeen_8 rfl (lv_at hl 3 rfl) ?_
  refine g_callS (As := [.int (nI (mv z)), .int (nI row), .int (nI col)]) (rest := [.int (nI z), .ref (am 0)]) C0 G (c_X5_seenCell l D cy (W1 := wM am cy th (cS mf mb mv) sv X ln ap le fc f1 f2 (B) ha R) (v := mv z) (row := row) (col := col) (by omega) (by omega) (by omega)) k_X5_seenCell ml_X5_43 dX5_isSeen_9 rfl rfl hl.1 (Nat.le_of_ble_eq_true rfl) ⟨Nat.le_of_ble_eq_true rfl, Nat.le_of_ble_eq_true rfl⟩ ⟨Nat.le_of_ble_eq_true rfl, Nat.le_of_ble_eq_true rfl⟩ (fun r W2 H locs hp G => ?_)
  obtain ⟨rfl, hw⟩ := hp
  have G := g_wc hw G
  refine W.eq (g2 := F0 m 12 ls [.int (nI (scN (mv z) row col)), .int (nI z), .ref (am 0)]) rfl ?_
  have hsc := scN_lt (v := mv z) h2 h3
  refine g_callV (As := [.int (nI z), .int (nI (scN (mv z) row col))]) (rest := []) (q0 := 0) C0 G (c_X5_of l D cy (am := am) (mf := mf) (mb := mb) (mv := mv) (th := th) (sv := sv) (X := X) (ln := ln) (ap := ap) (le := le) (fc := fc) (f1 := f1) (f2 := f2) (ha := ha) (R := R) (B := B) (z := z) (k := scN (mv z) row col) (by omega) (by omega)) k_X5_of ml_X5_35 rfl rfl dX5_isSeen_12 rfl rfl hl.1 (Nat.le_of_ble_eq_true rfl) ⟨Nat.le_of_ble_eq_true rfl, Nat.le_of_ble_eq_true rfl⟩ ⟨Nat.le_of_ble_eq_true rfl, Nat.le_of_ble_eq_true rfl⟩ (fun r W2 H locs hp G => ?_)
  obtain ⟨rfl, hw⟩ := hp
  have G := g_wc hw G
  refine W.eq (g2 := F0 m 15 ls [.int (kdI (mf z) (mb z) (scN (mv z) row col))]) rfl ?_
  refine lv_aload_n hx hb dX5_isSeen_15 rfl (lv_at hl 0 rfl) ?_
  refine lv_iload_n hx hb dX5_isSeen_16 rfl (lv_at hl 1 rfl) ?_
  refine g_callV (As := [.int (nI z)]) (rest := [.int (kdI (mf z) (mb z) (scN (mv z) row col))]) (q0 := 0) C0 G (c_X5_viewOf l D cy (am := am) (mf := mf) (mb := mb) (mv := mv) (th := th) (sv := sv) (X := X) (ln := ln) (ap := ap) (le := le) (fc := fc) (f1 := f1) (f2 := f2) (ha := ha) (R := R) (B := B) (z := z) (by omega)) k_X5_viewOf ml_X5_39 rfl rfl dX5_isSeen_17 rfl rfl hl.1 (Nat.le_of_ble_eq_true rfl) ⟨Nat.le_of_ble_eq_true rfl, Nat.le_of_ble_eq_true rfl⟩ ⟨Nat.le_of_ble_eq_true rfl, Nat.le_of_ble_eq_true rfl⟩ (fun r W2 H locs hp G => ?_)
  obtain ⟨rfl, hw⟩ := hp
  have G := g_wc hw G
  refine W.eq (g2 := F0 m 20 ls [.int (nI (mv z)), .int (kdI (mf z) (mb z) (scN (mv z) row col))]) rfl ?_
  refine g_callS (As := [.int (nI (mv z))]) (rest := [.int (kdI (mf z) (mb z) (scN (mv z) row col))]) C0 G (c_X5_faceOf l D cy (W1 := wM am cy th (cS mf mb mv) sv X ln ap le fc f1 f2 (B) ha R) (v := mv z) (by omega)) k_X5_faceOf ml_X5_47 dX5_isSeen_20 rfl rfl hl.1 (Nat.le_of_ble_eq_true rfl) ⟨Nat.le_of_ble_eq_true rfl, Nat.le_of_ble_eq_true rfl⟩ ⟨Nat.le_of_ble_eq_true rfl, Nat.le_of_ble_eq_true rfl⟩ (fun r W2 H locs hp G => ?_)
  obtain ⟨rfl, hw⟩ := hp
  have G := g_wc hw G
  refine W.eq (g2 := F0 m 23 ls [.int (nI (fcN (mv z))), .int (kdI (mf z) (mb z) (scN (mv z) row col))]) rfl ?_
  refine g_callS (As := [.int (kdI (mf z) (mb z) (scN (mv z) row col)), .int (nI (fcN (mv z)))]) (rest := []) C0 G (c_X5_hasHole l D cy (W1 := wM am cy th (cS mf mb mv) sv X ln ap le fc f1 f2 (B) ha R) (q := kdI (mf z) (mb z) (scN (mv z) row col)) (fr := nI (fcN (mv z))) ) k_X5_hasHole ml_X5_50 dX5_isSeen_23 rfl rfl hl.1 (Nat.le_of_ble_eq_true rfl) ⟨Nat.le_of_ble_eq_true rfl, Nat.le_of_ble_eq_true rfl⟩ ⟨Nat.le_of_ble_eq_true rfl, Nat.le_of_ble_eq_true rfl⟩ (fun r W2 H locs hp G => ?_)
  obtain ⟨rfl, hw⟩ := hp
  have G := g_wc hw G
  refine W.eq (g2 := F0 m 26 ls [.int (bI (hhB (kdI (mf z) (mb z) (scN (mv z) row col)) (nI (fcN (mv z)))))]) rfl ?_
  exact g_zret C0 G (g_nz _) ⟨by rw [hh_sh hv], by first | rfl | (exfalso; omega) | (simp only [Bool.false_eq_true, ↓reduceIte, eq_self, decide_true, decide_false, not_true_eq_false, not_false_eq_true, Bool.true_and, Bool.false_and, Bool.and_true, Bool.and_false]; done) | (simp []; done) | (simp []; rfl) | (simp []; omega)⟩ dX5_isSeen_26

set_option maxHeartbeats 4000000 in
set_option maxRecDepth 100000 in
theorem c_X5_rawOf (l : Launch) (D : va_G) (cy : Nat → ClassId) (am : Nat → Nat) (mf : Nat → Int64) (mb : Nat → Int64) (mv : Nat → Nat) (th : Int32) (sv : Nat) (X : Nat → Int32) (ln : Nat) (ap : Nat) (le : Nat) (fc : Nat) (f1 : Int32) (f2 : Int32) (ha : Int64) (R : va_W) (B : Nat → Int32) (z : Nat) (row : Nat) (h1 : z < 21) (h2 : row < 8) (hv : mv z < 4) : GE l D (gts cy) yX5_rawOf cX5_rawOf 5 (some .int) 2 0 0 [.ref (am 0), .int (nI z), .int (nI row)] (wM am cy th (cS mf mb mv) sv X ln ap le fc f1 f2 (B) ha R) (gF (some (.int (nI (rwN (mf z) (mb z) (mv z) row 8)))) (wM am cy th (cS mf mb mv) sv X ln ap le fc f1 f2 (B) ha R)) := by
  refine g_intro (by decide +kernel) (lv := [(0, .ref (am 0)), (1, .int (nI z)), (2, .int (nI row))]) rfl (Nat.le_of_ble_eq_true rfl) ?_
  intro p e s m below meth c C0 G ls hl
  have hx := C0.1
  have hb := C0.2.1
  have hown := C0.2.2.2.2.2.1
  have hts := C0.2.2.2.2.2.2.1
  refine lv_iconst (v := 0) hx hb dX5_rawOf_0 (by decide) ?_
  refine lv_istore_n (lv' := [(3, .int 0), (0, .ref (am 0)), (1, .int (nI z)), (2, .int (nI row))]) hx hb dX5_rawOf_1 rfl hl (by decide) rfl (fun ls hl => ?_)
  refine lv_iconst (v := 0) hx hb dX5_rawOf_2 (by decide) ?_
  refine lv_istore (lv' := [(4, .int 0), (3, .int 0), (0, .ref (am 0)), (1, .int (nI z)), (2, .int (nI row))]) hx hb dX5_rawOf_3 hl (by decide) rfl (fun ls hl => ?_)
  have hl := lv_sub hl (l' := [(0, .ref (am 0)), (1, .int (nI z)), (2, .int (nI row)), (3, .int 0), (4, .int 0)]) [2, 3, 4, 1, 0] rfl
  refine g_loop (σ := Nat) (fun i => 8 - i) (fun i => wM am cy th (cS mf mb mv) sv X ln ap le fc f1 f2 (B) ha R) (fun i => [(0, .ref (am 0)), (1, .int (nI z)), (2, .int (nI row)), (3, .int (nI (rwN (mf z) (mb z) (mv z) row i))), (4, .int (nI i))]) (fun i => i ≤ 8) ?_ 0 (by show _ ≤ _; omega) G hl
  intro i hi_5 ih_5 H locs ls G hl
  have G : gW D (wM am cy th (cS mf mb mv) sv X ln ap le fc f1 f2 (B) ha R) (va_A (wM am cy th (cS mf mb mv) sv X ln ap le fc f1 f2 (B) ha R) s.heap.size) s H locs := G
  have hl : lv_has ls 5 [(0, .ref (am 0)), (1, .int (nI z)), (2, .int (nI row)), (3, .int (nI (rwN (mf z) (mb z) (mv z) row i))), (4, .int (nI i))] := hl
  refine lv_iload hx hb dX5_rawOf_5 (lv_at hl 4 rfl) ?_
  refine lv_bipush (v := 8) hx hb dX5_rawOf_7 (by decide) ?_
  refine lv_icmp_ge (tgt := 39) hx hb dX5_rawOf_9 (by decide) (fun c_9 => ?_) (fun c_9 => ?_)
  · skip
    have c_9 : 8 ≤ i := (nI_leI (a := 8) (b := i) (by omega) (by omega)).mp c_9
    obtain rfl : i = 8 := by omega
    have G : gW D (wM am cy th (cS mf mb mv) sv X ln ap le fc f1 f2 (B) ha R) (va_A (wM am cy th (cS mf mb mv) sv X ln ap le fc f1 f2 (B) ha R) s.heap.size) s _ _ := G
    have hl : lv_has ls 5 [(0, .ref (am 0)), (1, .int (nI z)), (2, .int (nI row)), (3, .int (nI (rwN (mf z) (mb z) (mv z) row 8))), (4, .int (nI 8))] := hl
    refine lv_iload_n hx hb dX5_rawOf_39 rfl (lv_at hl 3 rfl) ?_
    exact g_iret C0 G ⟨by first | rfl | (exfalso; omega) | (simp only [rwN, c_9, Bool.false_eq_true, ↓reduceIte, eq_self, decide_true, decide_false, not_true_eq_false, not_false_eq_true, Bool.true_and, Bool.false_and, Bool.and_true, Bool.and_false]; done) | (simp [rwN, c_9]; done) | (simp [rwN, c_9]; rfl) | (simp [rwN, c_9]; omega), by first | rfl | (exfalso; omega) | (simp only [rwN, c_9, Bool.false_eq_true, ↓reduceIte, eq_self, decide_true, decide_false, not_true_eq_false, not_false_eq_true, Bool.true_and, Bool.false_and, Bool.and_true, Bool.and_false]; done) | (simp [rwN, c_9]; done) | (simp [rwN, c_9]; rfl) | (simp [rwN, c_9]; omega)⟩ dX5_rawOf_40
  · skip
    have c_9 : ¬ (8 ≤ i) := fun h => c_9 ((nI_leI (a := 8) (b := i) (by omega) (by omega)).mpr h)
    refine lv_iconst (v := 2) hx hb dX5_rawOf_12 (by decide) ?_
    refine lv_iload_n hx hb dX5_rawOf_13 rfl (lv_at hl 3 rfl) ?_
    refine lv_imul hx hb dX5_rawOf_14 ?_
    refine g_topi (x' := nI (2 * (rwN (mf z) (mb z) (mv z) row i))) (pk_mul 2 (rwN (mf z) (mb z) (mv z) row i)) ?_
    refine lv_aload_n hx hb dX5_rawOf_15 rfl (lv_at hl 0 rfl) ?_
    refine lv_iload_n hx hb dX5_rawOf_16 rfl (lv_at hl 1 rfl) ?_
    refine lv_iload_n hx hb dX5_rawOf_17 rfl (lv_at hl 2 rfl) ?_
    refine lv_iload hx hb dX5_rawOf_18 (lv_at hl 4 rfl) ?_
    refine g_callV (As := [.int (nI z), .int (nI row), .int (nI i)]) (rest := [.int (nI (2 * (rwN (mf z) (mb z) (mv z) row i)))]) (q0 := 0) C0 G (c_X5_isSeen l D cy (am := am) (mf := mf) (mb := mb) (mv := mv) (th := th) (sv := sv) (X := X) (ln := ln) (ap := ap) (le := le) (fc := fc) (f1 := f1) (f2 := f2) (ha := ha) (R := R) (B := B) (z := z) (row := row) (col := i) (by omega) (by omega) (by omega) hv) k_X5_isSeen ml_X5_54 rfl rfl dX5_rawOf_20 rfl rfl hl.1 (Nat.le_of_ble_eq_true rfl) ⟨Nat.le_of_ble_eq_true rfl, Nat.le_of_ble_eq_true rfl⟩ ⟨Nat.le_of_ble_eq_true rfl, Nat.le_of_ble_eq_true rfl⟩ (fun r W2 H locs hp G => ?_)
    obtain ⟨rfl, hw⟩ := hp
    have G := g_wc hw G
    refine W.eq (g2 := F0 m 23 ls [.int (bI (shB1 (mf z) (mb z) (mv z) row i)), .int (nI (2 * (rwN (mf z) (mb z) (mv z) row i)))]) rfl ?_
    refine lv_if_eq (tgt := 30) hx hb dX5_rawOf_23 (by decide) (fun c_23 => ?_) (fun c_23 => ?_)
    · skip
      have c_23 : (shB1 (mf z) (mb z) (mv z) row i) = false := bI_f c_23
      refine lv_iconst (v := 0) hx hb dX5_rawOf_30 (by decide) ?_
      refine lv_iadd hx hb dX5_rawOf_31 ?_
      refine g_topi (x' := nI ((2 * (rwN (mf z) (mb z) (mv z) row i)) + 0)) (nI_add (2 * (rwN (mf z) (mb z) (mv z) row i)) 0) ?_
      refine g_topi (x' := nI (rwN (mf z) (mb z) (mv z) row (i + 1))) (congrArg nI (by first | rfl | (simp only [rwN, c_9, c_23, Bool.false_eq_true, ↓reduceIte]; done) | (simp [rwN, c_9, c_23]; done))) ?_
      refine lv_istore_n (lv' := [(3, .int (nI (rwN (mf z) (mb z) (mv z) row (i + 1)))), (0, .ref (am 0)), (1, .int (nI z)), (2, .int (nI row)), (4, .int (nI i))]) hx hb dX5_rawOf_32 rfl hl (by decide) rfl (fun ls hl => ?_)
      refine lv_iinc (v := nI (i + 1)) (lv' := [(4, .int (nI (i + 1))), (3, .int (nI (rwN (mf z) (mb z) (mv z) row (i + 1)))), (0, .ref (am 0)), (1, .int (nI z)), (2, .int (nI row))]) hx hb dX5_rawOf_33 hl (k := 4) rfl (nI_add i 1) (by decide) rfl (fun ls hl => ?_)
      refine lv_goto (tgt := 5) hx hb dX5_rawOf_36 (by decide) ?_
      have hl := lv_sub hl (l' := _) [2, 3, 4, 1, 0] rfl
      exact ih_5 (i + 1) (by show _ ≤ _; omega) (by show _ < _; omega) _ _ _ G hl
    · skip
      have c_23 : (shB1 (mf z) (mb z) (mv z) row i) = true := bI_t c_23
      refine lv_iconst (v := 1) hx hb dX5_rawOf_26 (by decide) ?_
      refine lv_goto (tgt := 31) hx hb dX5_rawOf_27 (by decide) ?_
      refine lv_iadd hx hb dX5_rawOf_31 ?_
      refine g_topi (x' := nI ((2 * (rwN (mf z) (mb z) (mv z) row i)) + 1)) (nI_add (2 * (rwN (mf z) (mb z) (mv z) row i)) 1) ?_
      refine g_topi (x' := nI (rwN (mf z) (mb z) (mv z) row (i + 1))) (congrArg nI (by first | rfl | (simp only [rwN, c_9, c_23, Bool.false_eq_true, ↓reduceIte]; done) | (simp [rwN, c_9, c_23]; done))) ?_
      refine lv_istore_n (lv' := [(3, .int (nI (rwN (mf z) (mb z) (mv z) row (i + 1)))), (0, .ref (am 0)), (1, .int (nI z)), (2, .int (nI row)), (4, .int (nI i))]) hx hb dX5_rawOf_32 rfl hl (by decide) rfl (fun ls hl => ?_)
      refine lv_iinc (v := nI (i + 1)) (lv' := [(4, .int (nI (i + 1))), (3, .int (nI (rwN (mf z) (mb z) (mv z) row (i + 1)))), (0, .ref (am 0)), (1, .int (nI z)), (2, .int (nI row))]) hx hb dX5_rawOf_33 hl (k := 4) rfl (nI_add i 1) (by decide) rfl (fun ls hl => ?_)
      refine lv_goto (tgt := 5) hx hb dX5_rawOf_36 (by decide) ?_
      have hl := lv_sub hl (l' := _) [2, 3, 4, 1, 0] rfl
      exact ih_5 (i + 1) (by show _ ≤ _; omega) (by show _ < _; omega) _ _ _ G hl

set_option maxHeartbeats 4000000 in
set_option maxRecDepth 100000 in
theorem c_X5_lineCell (l : Launch) (D : va_G) (cy : Nat → ClassId) (W1 : va_W) (line : Nat) (k : Nat) (h1 : line < 16) (h2 : k < 8) : GE l D (gts cy) yX5_lineCell cX5_lineCell 2 (some .int) 0 0 0 [.int (nI line), .int (nI k)] (W1) (gF (some (.int (nI (lcN line k)))) (W1)) := by
  refine g_intro (by decide +kernel) (lv := [(0, .int (nI line)), (1, .int (nI k))]) rfl (Nat.le_of_ble_eq_true rfl) ?_
  intro p e s m below meth c C0 G ls hl
  have hx := C0.1
  have hb := C0.2.1
  have hown := C0.2.2.2.2.2.1
  have hts := C0.2.2.2.2.2.2.1
  refine lv_iload_n hx hb dX5_lineCell_0 rfl (lv_at hl 0 rfl) ?_
  refine lv_bipush (v := 8) hx hb dX5_lineCell_1 (by decide) ?_
  refine lv_icmp_ge (tgt := 15) hx hb dX5_lineCell_3 (by decide) (fun c_3 => ?_) (fun c_3 => ?_)
  · skip
    have c_3 : 8 ≤ line := (nI_leI (a := 8) (b := line) (by omega) (by omega)).mp c_3
    refine lv_bipush (v := 8) hx hb dX5_lineCell_15 (by decide) ?_
    refine lv_iload_n hx hb dX5_lineCell_17 rfl (lv_at hl 1 rfl) ?_
    refine lv_imul hx hb dX5_lineCell_18 ?_
    refine g_topi (x' := nI (8 * k)) (pk_mul 8 k) ?_
    refine lv_iload_n hx hb dX5_lineCell_19 rfl (lv_at hl 0 rfl) ?_
    refine lv_iadd hx hb dX5_lineCell_20 ?_
    refine g_topi (x' := nI ((8 * k) + line)) (nI_add (8 * k) line) ?_
    refine lv_bipush (v := 8) hx hb dX5_lineCell_21 (by decide) ?_
    refine lv_isub hx hb dX5_lineCell_23 ?_
    refine g_topi (x' := nI (((8 * k) + line) - 8)) (pk_sub (a := (8 * k) + line) (b := 8) (by omega)) ?_
    exact g_iret C0 G ⟨by first | (rw [show lcN line k = 8 * line + k from if_pos (by omega)]) | (rw [show lcN line k = 8 * k + line - 8 from if_neg (by omega)]), by first | rfl | (exfalso; omega) | (simp only [c_3, Bool.false_eq_true, ↓reduceIte, eq_self, decide_true, decide_false, not_true_eq_false, not_false_eq_true, Bool.true_and, Bool.false_and, Bool.and_true, Bool.and_false]; done) | (simp [c_3]; done) | (simp [c_3]; rfl) | (simp [c_3]; omega)⟩ dX5_lineCell_24
  · skip
    have c_3 : ¬ (8 ≤ line) := fun h => c_3 ((nI_leI (a := 8) (b := line) (by omega) (by omega)).mpr h)
    refine lv_bipush (v := 8) hx hb dX5_lineCell_6 (by decide) ?_
    refine lv_iload_n hx hb dX5_lineCell_8 rfl (lv_at hl 0 rfl) ?_
    refine lv_imul hx hb dX5_lineCell_9 ?_
    refine g_topi (x' := nI (8 * line)) (pk_mul 8 line) ?_
    refine lv_iload_n hx hb dX5_lineCell_10 rfl (lv_at hl 1 rfl) ?_
    refine lv_iadd hx hb dX5_lineCell_11 ?_
    refine g_topi (x' := nI ((8 * line) + k)) (nI_add (8 * line) k) ?_
    refine lv_goto (tgt := 24) hx hb dX5_lineCell_12 (by decide) ?_
    exact g_iret C0 G ⟨by first | (rw [show lcN line k = 8 * line + k from if_pos (by omega)]) | (rw [show lcN line k = 8 * k + line - 8 from if_neg (by omega)]), by first | rfl | (exfalso; omega) | (simp only [c_3, Bool.false_eq_true, ↓reduceIte, eq_self, decide_true, decide_false, not_true_eq_false, not_false_eq_true, Bool.true_and, Bool.false_and, Bool.and_true, Bool.and_false]; done) | (simp [c_3]; done) | (simp [c_3]; rfl) | (simp [c_3]; omega)⟩ dX5_lineCell_24

set_option maxHeartbeats 4000000 in
set_option maxRecDepth 100000 in
theorem c_X5_missing (l : Launch) (D : va_G) (cy : Nat → ClassId) (am : Nat → Nat) (mf : Nat → Int64) (mb : Nat → Int64) (mv : Nat → Nat) (kn : Int64) (on : Int64) (th : Int32) (sv : Nat) (X : Nat → Int32) (ln : Nat) (ap : Nat) (le : Nat) (fc : Nat) (f1 : Int32) (f2 : Int32) (ha : Int64) (R : va_W) (line : Nat) (h1 : line < 16) : GE l D (gts cy) yX5_missing cX5_missing 4 (some .int) 1 0 0 [.ref (am 0), .int (nI line)] (wM am cy th (cS mf mb mv) sv X ln ap le fc f1 f2 (biF kn on) ha R) (gF (some (.int (nI (pc (msW (lineM line) kn))))) (wM am cy th (cS mf mb mv) sv X ln ap le fc f1 f2 (biF kn on) ha R)) := by
  refine g_intro (by decide +kernel) (lv := [(0, .ref (am 0)), (1, .int (nI line))]) rfl (Nat.le_of_ble_eq_true rfl) ?_
  intro p e s m below meth c C0 G ls hl
  have hx := C0.1
  have hb := C0.2.1
  have hown := C0.2.2.2.2.2.1
  have hts := C0.2.2.2.2.2.2.1
  refine lv_iconst (v := 0) hx hb dX5_missing_0 (by decide) ?_
  refine lv_istore_n (lv' := [(2, .int 0), (0, .ref (am 0)), (1, .int (nI line))]) hx hb dX5_missing_1 rfl hl (by decide) rfl (fun ls hl => ?_)
  refine lv_iconst (v := 0) hx hb dX5_missing_2 (by decide) ?_
  refine lv_istore_n (lv' := [(3, .int 0), (2, .int 0), (0, .ref (am 0)), (1, .int (nI line))]) hx hb dX5_missing_3 rfl hl (by decide) rfl (fun ls hl => ?_)
  have hl := lv_sub hl (l' := [(0, .ref (am 0)), (1, .int (nI line)), (2, .int 0), (3, .int 0)]) [2, 3, 1, 0] rfl
  refine g_loop (σ := Nat) (fun i => 8 - i) (fun i => wM am cy th (cS mf mb mv) sv X ln ap le fc f1 f2 (biF kn on) ha R) (fun i => [(0, .ref (am 0)), (1, .int (nI line)), (2, .int (nI (cnt (fun k => decide (biF kn on (lcN line k) = -1)) i))), (3, .int (nI i))]) (fun i => i ≤ 8) ?_ 0 (by show _ ≤ _; omega) G hl
  intro i hi_4 ih_4 H locs ls G hl
  have G : gW D (wM am cy th (cS mf mb mv) sv X ln ap le fc f1 f2 (biF kn on) ha R) (va_A (wM am cy th (cS mf mb mv) sv X ln ap le fc f1 f2 (biF kn on) ha R) s.heap.size) s H locs := G
  have hl : lv_has ls 4 [(0, .ref (am 0)), (1, .int (nI line)), (2, .int (nI (cnt (fun k => decide (biF kn on (lcN line k) = -1)) i))), (3, .int (nI i))] := hl
  refine lv_iload_n hx hb dX5_missing_4 rfl (lv_at hl 3 rfl) ?_
  refine lv_bipush (v := 8) hx hb dX5_missing_5 (by decide) ?_
  refine lv_icmp_ge (tgt := 38) hx hb dX5_missing_7 (by decide) (fun c_7 => ?_) (fun c_7 => ?_)
  · skip
    have c_7 : 8 ≤ i := (nI_leI (a := 8) (b := i) (by omega) (by omega)).mp c_7
    obtain rfl : i = 8 := by omega
    have G : gW D (wM am cy th (cS mf mb mv) sv X ln ap le fc f1 f2 (biF kn on) ha R) (va_A (wM am cy th (cS mf mb mv) sv X ln ap le fc f1 f2 (biF kn on) ha R) s.heap.size) s _ _ := G
    have hl : lv_has ls 4 [(0, .ref (am 0)), (1, .int (nI line)), (2, .int (nI (cnt (fun k => decide (biF kn on (lcN line k) = -1)) 8))), (3, .int (nI 8))] := hl
    refine lv_iload_n hx hb dX5_missing_38 rfl (lv_at hl 2 rfl) ?_
    exact g_iret C0 G ⟨by rw [mi_pc h1], by first | rfl | (exfalso; omega) | (simp only [cnt, c_7, Bool.false_eq_true, ↓reduceIte, eq_self, decide_true, decide_false, not_true_eq_false, not_false_eq_true, Bool.true_and, Bool.false_and, Bool.and_true, Bool.and_false]; done) | (simp [cnt, c_7]; done) | (simp [cnt, c_7]; rfl) | (simp [cnt, c_7]; omega)⟩ dX5_missing_39
  · skip
    have c_7 : ¬ (8 ≤ i) := fun h => c_7 ((nI_leI (a := 8) (b := i) (by omega) (by omega)).mpr h)
    have hlc := lcN_lt h1 (show i < 8 by omega)
    refine lv_iload_n hx hb dX5_missing_10 rfl (lv_at hl 2 rfl) ?_
    refine lv_aload_n hx hb dX5_missing_11 rfl (lv_at hl 0 rfl) ?_
    refine g_get (q0 := 0) (v := .ref (am 3)) C0 G in_X5 rfl rfl 10 (by decide) fl_X5_16 (fun _ h => h) rfl dX5_missing_12 ?_
    refine lv_iload_n hx hb dX5_missing_15 rfl (lv_at hl 1 rfl) ?_
    refine lv_iload_n hx hb dX5_missing_16 rfl (lv_at hl 3 rfl) ?_
    refine g_callS (As := [.int (nI line), .int (nI i)]) (rest := [.ref (am 3), .int (nI (cnt (fun k => decide (biF kn on (lcN line k) = -1)) i))]) C0 G (c_X5_lineCell l D cy (W1 := wM am cy th (cS mf mb mv) sv X ln ap le fc f1 f2 (biF kn on) ha R) (line := line) (k := i) (by omega) (by omega)) k_X5_lineCell ml_X5_57 dX5_missing_17 rfl rfl hl.1 (Nat.le_of_ble_eq_true rfl) ⟨Nat.le_of_ble_eq_true rfl, Nat.le_of_ble_eq_true rfl⟩ ⟨Nat.le_of_ble_eq_true rfl, Nat.le_of_ble_eq_true rfl⟩ (fun r W2 H locs hp G => ?_)
    obtain ⟨rfl, hw⟩ := hp
    have G := g_wc hw G
    refine W.eq (g2 := F0 m 20 ls [.int (nI (lcN line i)), .ref (am 3), .int (nI (cnt (fun k => decide (biF kn on (lcN line k) = -1)) i))]) rfl ?_
    refine g_iald (q0 := 3) (n := 64) C0 G rfl 1 rfl (vp_in_nI (n := lcN line i) (by omega) (by decide)) dX5_missing_20 ?_
    refine g_topi (x' := biF kn on (lcN line i)) (congrArg (biF kn on) (nI_clamp (n := lcN line i) (by omega))) ?_
    refine lv_iconst (v := (-1)) hx hb dX5_missing_21 (by decide) ?_
    refine lv_icmp_ne (tgt := 29) hx hb dX5_missing_22 (by decide) (fun c_22 => ?_) (fun c_22 => ?_)
    · skip
      refine lv_iconst (v := 0) hx hb dX5_missing_29 (by decide) ?_
      refine lv_iadd hx hb dX5_missing_30 ?_
      refine g_topi (x' := nI ((cnt (fun k => decide (biF kn on (lcN line k) = -1)) i) + 0)) (nI_add (cnt (fun k => decide (biF kn on (lcN line k) = -1)) i) 0) ?_
      refine g_topi (x' := nI (cnt (fun k => decide (biF kn on (lcN line k) = -1)) (i + 1))) (congrArg nI (by first | rfl | (simp only [cnt, c_7, c_22, Bool.false_eq_true, ↓reduceIte]; done) | (simp [cnt, c_7, c_22]; done))) ?_
      refine lv_istore_n (lv' := [(2, .int (nI (cnt (fun k => decide (biF kn on (lcN line k) = -1)) (i + 1)))), (0, .ref (am 0)), (1, .int (nI line)), (3, .int (nI i))]) hx hb dX5_missing_31 rfl hl (by decide) rfl (fun ls hl => ?_)
      refine lv_iinc (v := nI (i + 1)) (lv' := [(3, .int (nI (i + 1))), (2, .int (nI (cnt (fun k => decide (biF kn on (lcN line k) = -1)) (i + 1)))), (0, .ref (am 0)), (1, .int (nI line))]) hx hb dX5_missing_32 hl (k := 3) rfl (nI_add i 1) (by decide) rfl (fun ls hl => ?_)
      refine lv_goto (tgt := 4) hx hb dX5_missing_35 (by decide) ?_
      have hl := lv_sub hl (l' := _) [2, 3, 1, 0] rfl
      exact ih_4 (i + 1) (by show _ ≤ _; omega) (by show _ < _; omega) _ _ _ G hl
    · skip
      refine lv_iconst (v := 1) hx hb dX5_missing_25 (by decide) ?_
      refine lv_goto (tgt := 30) hx hb dX5_missing_26 (by decide) ?_
      refine lv_iadd hx hb dX5_missing_30 ?_
      refine g_topi (x' := nI ((cnt (fun k => decide (biF kn on (lcN line k) = -1)) i) + 1)) (nI_add (cnt (fun k => decide (biF kn on (lcN line k) = -1)) i) 1) ?_
      refine g_topi (x' := nI (cnt (fun k => decide (biF kn on (lcN line k) = -1)) (i + 1))) (congrArg nI (by first | rfl | (simp only [cnt, c_7, c_22, Bool.false_eq_true, ↓reduceIte]; done) | (simp [cnt, c_7, c_22]; done))) ?_
      refine lv_istore_n (lv' := [(2, .int (nI (cnt (fun k => decide (biF kn on (lcN line k) = -1)) (i + 1)))), (0, .ref (am 0)), (1, .int (nI line)), (3, .int (nI i))]) hx hb dX5_missing_31 rfl hl (by decide) rfl (fun ls hl => ?_)
      refine lv_iinc (v := nI (i + 1)) (lv' := [(3, .int (nI (i + 1))), (2, .int (nI (cnt (fun k => decide (biF kn on (lcN line k) = -1)) (i + 1)))), (0, .ref (am 0)), (1, .int (nI line))]) hx hb dX5_missing_32 hl (k := 3) rfl (nI_add i 1) (by decide) rfl (fun ls hl => ?_)
      refine lv_goto (tgt := 4) hx hb dX5_missing_35 (by decide) ?_
      have hl := lv_sub hl (l' := _) [2, 3, 1, 0] rfl
      exact ih_4 (i + 1) (by show _ ≤ _; omega) (by show _ < _; omega) _ _ _ G hl

set_option maxHeartbeats 4000000 in
set_option maxRecDepth 100000 in
theorem c_X5_parity (l : Launch) (D : va_G) (cy : Nat → ClassId) (am : Nat → Nat) (mf : Nat → Int64) (mb : Nat → Int64) (mv : Nat → Nat) (kn : Int64) (on : Int64) (th : Int32) (sv : Nat) (X : Nat → Int32) (ln : Nat) (ap : Nat) (le : Nat) (fc : Nat) (f1 : Int32) (f2 : Int32) (ha : Int64) (R : va_W) (line : Nat) (h1 : line < 16) (hok : ∀ k, k < 64 → tb on k = true → tb kn k = true) : GE l D (gts cy) yX5_parity cX5_parity 4 (some .int) 1 0 0 [.ref (am 0), .int (nI line)] (wM am cy th (cS mf mb mv) sv X ln ap le fc f1 f2 (biF kn on) ha R) (gF (some (.int (nI (pc (lineM line &&& on) % 2)))) (wM am cy th (cS mf mb mv) sv X ln ap le fc f1 f2 (biF kn on) ha R)) := by
  refine g_intro (by decide +kernel) (lv := [(0, .ref (am 0)), (1, .int (nI line))]) rfl (Nat.le_of_ble_eq_true rfl) ?_
  intro p e s m below meth c C0 G ls hl
  have hx := C0.1
  have hb := C0.2.1
  have hown := C0.2.2.2.2.2.1
  have hts := C0.2.2.2.2.2.2.1
  refine lv_iconst (v := 0) hx hb dX5_parity_0 (by decide) ?_
  refine lv_istore_n (lv' := [(2, .int 0), (0, .ref (am 0)), (1, .int (nI line))]) hx hb dX5_parity_1 rfl hl (by decide) rfl (fun ls hl => ?_)
  refine lv_iconst (v := 0) hx hb dX5_parity_2 (by decide) ?_
  refine lv_istore_n (lv' := [(3, .int 0), (2, .int 0), (0, .ref (am 0)), (1, .int (nI line))]) hx hb dX5_parity_3 rfl hl (by decide) rfl (fun ls hl => ?_)
  have hl := lv_sub hl (l' := [(0, .ref (am 0)), (1, .int (nI line)), (2, .int 0), (3, .int 0)]) [2, 3, 1, 0] rfl
  refine g_loop (σ := Nat) (fun i => 8 - i) (fun i => wM am cy th (cS mf mb mv) sv X ln ap le fc f1 f2 (biF kn on) ha R) (fun i => [(0, .ref (am 0)), (1, .int (nI line)), (2, .int (nI (cnt (fun k => decide (biF kn on (lcN line k) = 1)) i))), (3, .int (nI i))]) (fun i => i ≤ 8) ?_ 0 (by show _ ≤ _; omega) G hl
  intro i hi_4 ih_4 H locs ls G hl
  have G : gW D (wM am cy th (cS mf mb mv) sv X ln ap le fc f1 f2 (biF kn on) ha R) (va_A (wM am cy th (cS mf mb mv) sv X ln ap le fc f1 f2 (biF kn on) ha R) s.heap.size) s H locs := G
  have hl : lv_has ls 4 [(0, .ref (am 0)), (1, .int (nI line)), (2, .int (nI (cnt (fun k => decide (biF kn on (lcN line k) = 1)) i))), (3, .int (nI i))] := hl
  refine lv_iload_n hx hb dX5_parity_4 rfl (lv_at hl 3 rfl) ?_
  refine lv_bipush (v := 8) hx hb dX5_parity_5 (by decide) ?_
  refine lv_icmp_ge (tgt := 38) hx hb dX5_parity_7 (by decide) (fun c_7 => ?_) (fun c_7 => ?_)
  · skip
    have c_7 : 8 ≤ i := (nI_leI (a := 8) (b := i) (by omega) (by omega)).mp c_7
    obtain rfl : i = 8 := by omega
    have G : gW D (wM am cy th (cS mf mb mv) sv X ln ap le fc f1 f2 (biF kn on) ha R) (va_A (wM am cy th (cS mf mb mv) sv X ln ap le fc f1 f2 (biF kn on) ha R) s.heap.size) s _ _ := G
    have hl : lv_has ls 4 [(0, .ref (am 0)), (1, .int (nI line)), (2, .int (nI (cnt (fun k => decide (biF kn on (lcN line k) = 1)) 8))), (3, .int (nI 8))] := hl
    have hcl := cnt_le (fun k => decide (biF kn on (lcN line k) = 1)) 8
    refine lv_iload_n hx hb dX5_parity_38 rfl (lv_at hl 2 rfl) ?_
    refine lv_iconst (v := 2) hx hb dX5_parity_39 (by decide) ?_
    refine lv_irem hx hb dX5_parity_40 (by decide) ?_
    refine g_topi (x' := nI ((cnt (fun k => decide (biF kn on (lcN line k) = 1)) 8) % 2)) (pk_rem (a := cnt (fun k => decide (biF kn on (lcN line k) = 1)) 8) (d := 2) (by omega) (by decide) (by decide)) ?_
    exact g_iret C0 G ⟨by rw [pa_pc h1 hok], by first | rfl | (exfalso; omega) | (simp only [cnt, c_7, Bool.false_eq_true, ↓reduceIte, eq_self, decide_true, decide_false, not_true_eq_false, not_false_eq_true, Bool.true_and, Bool.false_and, Bool.and_true, Bool.and_false]; done) | (simp [cnt, c_7]; done) | (simp [cnt, c_7]; rfl) | (simp [cnt, c_7]; omega)⟩ dX5_parity_41
  · skip
    have c_7 : ¬ (8 ≤ i) := fun h => c_7 ((nI_leI (a := 8) (b := i) (by omega) (by omega)).mpr h)
    have hlc := lcN_lt h1 (show i < 8 by omega)
    refine lv_iload_n hx hb dX5_parity_10 rfl (lv_at hl 2 rfl) ?_
    refine lv_aload_n hx hb dX5_parity_11 rfl (lv_at hl 0 rfl) ?_
    refine g_get (q0 := 0) (v := .ref (am 3)) C0 G in_X5 rfl rfl 10 (by decide) fl_X5_16 (fun _ h => h) rfl dX5_parity_12 ?_
    refine lv_iload_n hx hb dX5_parity_15 rfl (lv_at hl 1 rfl) ?_
    refine lv_iload_n hx hb dX5_parity_16 rfl (lv_at hl 3 rfl) ?_
    refine g_callS (As := [.int (nI line), .int (nI i)]) (rest := [.ref (am 3), .int (nI (cnt (fun k => decide (biF kn on (lcN line k) = 1)) i))]) C0 G (c_X5_lineCell l D cy (W1 := wM am cy th (cS mf mb mv) sv X ln ap le fc f1 f2 (biF kn on) ha R) (line := line) (k := i) (by omega) (by omega)) k_X5_lineCell ml_X5_57 dX5_parity_17 rfl rfl hl.1 (Nat.le_of_ble_eq_true rfl) ⟨Nat.le_of_ble_eq_true rfl, Nat.le_of_ble_eq_true rfl⟩ ⟨Nat.le_of_ble_eq_true rfl, Nat.le_of_ble_eq_true rfl⟩ (fun r W2 H locs hp G => ?_)
    obtain ⟨rfl, hw⟩ := hp
    have G := g_wc hw G
    refine W.eq (g2 := F0 m 20 ls [.int (nI (lcN line i)), .ref (am 3), .int (nI (cnt (fun k => decide (biF kn on (lcN line k) = 1)) i))]) rfl ?_
    refine g_iald (q0 := 3) (n := 64) C0 G rfl 1 rfl (vp_in_nI (n := lcN line i) (by omega) (by decide)) dX5_parity_20 ?_
    refine g_topi (x' := biF kn on (lcN line i)) (congrArg (biF kn on) (nI_clamp (n := lcN line i) (by omega))) ?_
    refine lv_iconst (v := 1) hx hb dX5_parity_21 (by decide) ?_
    refine lv_icmp_ne (tgt := 29) hx hb dX5_parity_22 (by decide) (fun c_22 => ?_) (fun c_22 => ?_)
    · skip
      refine lv_iconst (v := 0) hx hb dX5_parity_29 (by decide) ?_
      refine lv_iadd hx hb dX5_parity_30 ?_
      refine g_topi (x' := nI ((cnt (fun k => decide (biF kn on (lcN line k) = 1)) i) + 0)) (nI_add (cnt (fun k => decide (biF kn on (lcN line k) = 1)) i) 0) ?_
      refine g_topi (x' := nI (cnt (fun k => decide (biF kn on (lcN line k) = 1)) (i + 1))) (congrArg nI (by first | rfl | (simp only [cnt, c_7, c_22, Bool.false_eq_true, ↓reduceIte]; done) | (simp [cnt, c_7, c_22]; done))) ?_
      refine lv_istore_n (lv' := [(2, .int (nI (cnt (fun k => decide (biF kn on (lcN line k) = 1)) (i + 1)))), (0, .ref (am 0)), (1, .int (nI line)), (3, .int (nI i))]) hx hb dX5_parity_31 rfl hl (by decide) rfl (fun ls hl => ?_)
      refine lv_iinc (v := nI (i + 1)) (lv' := [(3, .int (nI (i + 1))), (2, .int (nI (cnt (fun k => decide (biF kn on (lcN line k) = 1)) (i + 1)))), (0, .ref (am 0)), (1, .int (nI line))]) hx hb dX5_parity_32 hl (k := 3) rfl (nI_add i 1) (by decide) rfl (fun ls hl => ?_)
      refine lv_goto (tgt := 4) hx hb dX5_parity_35 (by decide) ?_
      have hl := lv_sub hl (l' := _) [2, 3, 1, 0] rfl
      exact ih_4 (i + 1) (by show _ ≤ _; omega) (by show _ < _; omega) _ _ _ G hl
    · skip
      refine lv_iconst (v := 1) hx hb dX5_parity_25 (by decide) ?_
      refine lv_goto (tgt := 30) hx hb dX5_parity_26 (by decide) ?_
      refine lv_iadd hx hb dX5_parity_30 ?_
      refine g_topi (x' := nI ((cnt (fun k => decide (biF kn on (lcN line k) = 1)) i) + 1)) (nI_add (cnt (fun k => decide (biF kn on (lcN line k) = 1)) i) 1) ?_
      refine g_topi (x' := nI (cnt (fun k => decide (biF kn on (lcN line k) = 1)) (i + 1))) (congrArg nI (by first | rfl | (simp only [cnt, c_7, c_22, Bool.false_eq_true, ↓reduceIte]; done) | (simp [cnt, c_7, c_22]; done))) ?_
      refine lv_istore_n (lv' := [(2, .int (nI (cnt (fun k => decide (biF kn on (lcN line k) = 1)) (i + 1)))), (0, .ref (am 0)), (1, .int (nI line)), (3, .int (nI i))]) hx hb dX5_parity_31 rfl hl (by decide) rfl (fun ls hl => ?_)
      refine lv_iinc (v := nI (i + 1)) (lv' := [(3, .int (nI (i + 1))), (2, .int (nI (cnt (fun k => decide (biF kn on (lcN line k) = 1)) (i + 1)))), (0, .ref (am 0)), (1, .int (nI line))]) hx hb dX5_parity_32 hl (k := 3) rfl (nI_add i 1) (by decide) rfl (fun ls hl => ?_)
      refine lv_goto (tgt := 4) hx hb dX5_parity_35 (by decide) ?_
      have hl := lv_sub hl (l' := _) [2, 3, 1, 0] rfl
      exact ih_4 (i + 1) (by show _ ≤ _; omega) (by show _ < _; omega) _ _ _ G hl
