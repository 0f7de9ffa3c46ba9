/-! the text: the reader over it -/
abbrev RS : Type := Nat × Nat × Bool × Nat × Nat × Nat
def tkS (s : Nat) (q : RS) : RS := (tkSp s q.1 q.2.1 q.2.2.2.2.2, tkLt s q.1 q.2.1, tkIb s q.1 q.2.2.1, tkRw s q.1 q.2.1 q.2.2.2.1, tkCl s q.1 q.2.2.2.2.1, tkNu s q.1 q.2.2.2.2.2)
def rdS (tx : Nat → Nat) (q : RS) : Nat → RS
  | 0 => q
  | j + 1 => tkS (tx j) (rdS tx q j)
def rdOk (tx : Nat → Nat) (q : RS) (j : Nat) : Bool := tkOk (tx j) (rdS tx q j).1 (rdS tx q j).2.1 (rdS tx q j).2.2.2.2.2
def ldN (p : Nat → Bool) : Nat → Nat
  | 0 => 0
  | n + 1 => if ldN p n = n then (if p n then n + 1 else n) else ldN p n
def rdE (p : Nat → Bool) (n : Nat) : Nat := if ldN p n = n then n else ldN p n + 1
theorem ldN_le (p : Nat → Bool) : ∀ n, ldN p n ≤ n
  | 0 => Nat.le_refl _
  | n + 1 => by
    have := ldN_le p n
    unfold ldN; split
    · split <;> omega
    · omega
theorem ldN_next {p : Nat → Bool} {i : Nat} (h : ldN p i = i) (hp : p i = true) : ldN p (i + 1) = i + 1 := by
  show (if ldN p i = i then (if p i = true then i + 1 else i) else ldN p i) = _
  rw [if_pos h, if_pos hp]
theorem ldN_stop {p : Nat → Bool} {i : Nat} (h : ldN p i = i) (hp : p i = false) : ∀ d, ldN p (i + 1 + d) = i
  | 0 => by
    show (if ldN p i = i then (if p i = true then i + 1 else i) else ldN p i) = _
    rw [if_pos h, hp]; rfl
  | d + 1 => by
    show (if ldN p (i + 1 + d) = i + 1 + d then _ else ldN p (i + 1 + d)) = _
    rw [ldN_stop h hp d, if_neg (by omega)]
theorem ldN_at {p : Nat → Bool} {i n : Nat} (h : ldN p i = i) (hp : p i = false) (hn : i < n) : ldN p n = i := by
  have := ldN_stop h hp (n - (i + 1))
  rw [show i + 1 + (n - (i + 1)) = n by omega] at this
  exact this
theorem rdE_at {p : Nat → Bool} {i n : Nat} (h : ldN p i = i) (hp : p i = false) (hn : i < n) : rdE p n = i + 1 := by
  unfold rdE
  rw [ldN_at h hp hn, if_neg (by omega)]
theorem rdE_end {p : Nat → Bool} {i n : Nat} (h : i = n) (h2 : ldN p i = i) : rdE p n = i := by
  subst h; unfold rdE; rw [if_pos h2]
def rsOk (q : RS) : Prop := q.1 < 9 ∧ q.2.1 < 65536 ∧ q.2.2.2.2.2 < 1000 ∧ q.2.2.2.1 < 8 ∧ q.2.2.2.2.1 < 8
theorem tk_sp {s sp lt nu : Nat} (h : sp < 9) : tkSp s sp lt nu < 9 := by
  unfold tkSp ltSp
  repeat' split
  all_goals omega
theorem mvA_b {s nu : Nat} (h : mvA s nu = true) : 10 * nu + (s - 48) ≤ 127 := by
  simp [mvA] at h; omega
theorem tk_nu {s sp nu : Nat} (h : nu < 1000) : tkNu s sp nu < 1000 := by
  unfold tkNu
  split
  · split
    · rename_i h1; have := dgOk_b h1; omega
    · exact h
  · split
    · split
      · rename_i h1; have := mvA_b h1; omega
      · exact h
    · split
      · split
        · rename_i h1; have := dgOk_b h1; omega
        · exact h
      · exact h
theorem tk_ok {s : Nat} {q : RS} (hs : s < 128) (h : rsOk q) : rsOk (tkS s q) := by
  obtain ⟨h1, h2, h3, h4, h5⟩ := h
  refine ⟨?_, ?_, ?_, ?_, ?_⟩
  · show tkSp s q.1 q.2.1 q.2.2.2.2.2 < 9
    exact tk_sp h1
  · show tkLt s q.1 q.2.1 < 65536
    unfold tkLt; split <;> omega
  · show tkNu s q.1 q.2.2.2.2.2 < 1000
    exact tk_nu h3
  · show tkRw s q.1 q.2.1 q.2.2.2.1 < 8
    unfold tkRw
    split
    · split
      · rename_i h6; have := dgOk_b h6
        have : moR q.2.1 ≤ 7 := by unfold moR; split <;> omega
        omega
      · exact h4
    · exact h4
  · show tkCl s q.1 q.2.2.2.2.1 < 8
    unfold tkCl
    split
    · split
      · rename_i h6; have := dgOk_b h6; omega
      · exact h5
    · exact h5
theorem rd_ok {tx : Nat → Nat} {q : RS} {n : Nat} (htx : ∀ j, j < n → tx j < 128) (h : rsOk q) : ∀ i, i ≤ n → rsOk (rdS tx q i)
  | 0, _ => h
  | i + 1, hi => tk_ok (htx i (by omega)) (rd_ok htx h i (by omega))
set_option maxHeartbeats 4000000 in
set_option maxRecDepth 100000 in
theorem c_X4_clearText (l : Launch) (D : va_G) (cy : Nat → ClassId) (ad : Nat → Nat) (fr : Nat → Int64) (bk : Nat → Int64) (vw : Nat → Nat) (tk : Int64) (to : Int64) (fk : Int64) (fo : Int64) (kp : Nat) (sp : Nat) (lt : Nat) (ib : Bool) (rw : Nat) (cl : Nat) (nu : Nat) (tv : Nat) (tm : Nat) (ta : Nat → Int32) (ml : Int32) (tn : Nat) (R : va_W)  (h1 : tn ≤ tm) (h2 : tm < 2147483648) : GE l D (gts cy) yX4_clearText cX4_clearText 2 (some .int) 3 0 0 [.ref (ad 0)] (wC ad cy fr bk vw tk to fk fo kp sp lt ib rw cl nu tv tm ta ml tn R) (gF (some (.int (nI tn))) (wC ad cy fr bk vw tk to fk fo kp sp lt ib rw cl nu tv tm ta (if tn ≤ 0 then ml else 1) 0 R)) := by
  refine g_intro (by decide +kernel) (lv := [(0, .ref (ad 0))]) rfl (Nat.le_of_ble_eq_true rfl) ?_
  intro p e s m below meth c C0 G ls hl
  have hx := C0.1
  have hb := C0.2.1
  have hown := C0.2.2.2.2.2.1
  have hts := C0.2.2.2.2.2.2.1
  refine lv_aload_n hx hb dX4_clearText_0 rfl (lv_at hl 0 rfl) ?_
  refine g_get (q0 := 0) (v := .ref (ad 7)) C0 G in_X4 rfl rfl 5 (by decide) fl_X4_43 (fun _ h => h) rfl dX4_clearText_1 ?_
  refine g_callV (As := []) (rest := []) (q0 := 7) C0 G (c_J4_length_8abf5 l D cy (ad := ad) (fr := fr) (bk := bk) (vw := vw) (tk := tk) (to := to) (fk := fk) (fo := fo) (kp := kp) (sp := sp) (lt := lt) (ib := ib) (rw := rw) (cl := cl) (nu := nu) (tv := tv) (tm := tm) (ta := ta) (ml := ml) (tn := tn) (R := R)  ) k_J4_length_8abf5 ml_X4_212 rfl rfl dX4_clearText_4 rfl rfl hl.1 (Nat.le_of_ble_eq_true rfl) ⟨Nat.le_of_ble_eq_true rfl, Nat.le_of_ble_eq_true rfl⟩ ⟨Nat.le_of_ble_eq_true rfl, Nat.le_of_ble_eq_true rfl⟩ (fun r W2 H locs hp G => ?_)
  obtain ⟨rfl, hw⟩ := hp
  have G := g_wc hw G
  refine W.eq (g2 := F0 m 7 ls [.int (nI tn)]) rfl ?_
  refine lv_istore_n (lv' := [(1, .int (nI tn)), (0, .ref (ad 0))]) hx hb dX4_clearText_7 rfl hl (by decide) rfl (fun ls hl => ?_)
  refine lv_aload_n hx hb dX4_clearText_8 rfl (lv_at hl 1 rfl) ?_
  refine g_get (q0 := 0) (v := .ref (ad 7)) C0 G in_X4 rfl rfl 5 (by decide) fl_X4_43 (fun _ h => h) rfl dX4_clearText_9 ?_
  refine lv_iconst (v := 0) hx hb dX4_clearText_12 (by decide) ?_
  refine g_callV (As := [.int 0]) (rest := []) (q0 := 7) C0 G (c_J4_setLength_d00df l D cy (ad := ad) (fr := fr) (bk := bk) (vw := vw) (tk := tk) (to := to) (fk := fk) (fo := fo) (kp := kp) (sp := sp) (lt := lt) (ib := ib) (rw := rw) (cl := cl) (nu := nu) (tv := tv) (tm := tm) (ta := ta) (ml := ml) (tn := tn) (R := R) (a1 := 0) (by omega) (by omega) (by omega)) k_J4_setLength_d00df ml_X4_221 rfl rfl dX4_clearText_13 rfl rfl hl.1 (Nat.le_of_ble_eq_true rfl) ⟨Nat.le_of_ble_eq_true rfl, Nat.le_of_ble_eq_true rfl⟩ ⟨Nat.le_of_ble_eq_true rfl, Nat.le_of_ble_eq_true rfl⟩ (fun r W2 H locs hp G => ?_)
  obtain ⟨rfl, hw⟩ := hp
  have G := g_wc hw G
  refine W.eq (g2 := F0 m 16 ls []) rfl ?_
  refine lv_iload_n hx hb dX4_clearText_16 rfl (lv_at hl 0 rfl) ?_
  exact g_iret C0 G ⟨by first | rfl | (exfalso; omega) | (simp only [Bool.false_eq_true, ↓reduceIte, eq_self, decide_true, decide_false, not_true_eq_false, not_false_eq_true, Bool.true_and, Bool.false_and, Bool.and_true, Bool.and_false]; done) | (simp []; done) | (simp []; rfl) | (simp []; omega), by first | rfl | (exfalso; omega) | (simp only [Bool.false_eq_true, ↓reduceIte, eq_self, decide_true, decide_false, not_true_eq_false, not_false_eq_true, Bool.true_and, Bool.false_and, Bool.and_true, Bool.and_false]; done) | (simp []; done) | (simp []; rfl) | (simp []; omega)⟩ dX4_clearText_17

set_option maxHeartbeats 4000000 in
set_option maxRecDepth 100000 in
theorem c_X4_readText (l : Launch) (D : va_G) (cy : Nat → ClassId) (ad : Nat → Nat) (fr : Nat → Int64) (bk : Nat → Int64) (vw : Nat → Nat) (tk : Int64) (to : Int64) (fk : Int64) (fo : Int64) (kp : Nat) (sp : Nat) (lt : Nat) (ib : Bool) (rw : Nat) (cl : Nat) (nu : Nat) (tv : Nat) (tm : Nat) (ta : Nat → Int32) (ml : Int32) (tn : Nat) (R : va_W) (tx : Nat → Nat) (h1 : tn ≤ tm) (h2 : tm < 2147483648) (htx : ∀ j, j < tn → ta j = nI (tx j) ∧ tx j < 128) (hq : rsOk (0, lt, ib, rw, cl, nu)) : GE l D (gts cy) yX4_readText cX4_readText 2 (some .int) 4 0 0 [.ref (ad 0)] (wC ad cy fr bk vw tk to fk fo kp sp lt ib rw cl nu tv tm ta ml tn R) (gF (some (.int (nI (ldN (rdOk tx (0, lt, ib, rw, cl, nu)) tn)))) (wC ad cy fr bk vw tk to fk fo kp ((rdS tx (0, lt, ib, rw, cl, nu) (rdE (rdOk tx (0, lt, ib, rw, cl, nu)) tn)).1) ((rdS tx (0, lt, ib, rw, cl, nu) (rdE (rdOk tx (0, lt, ib, rw, cl, nu)) tn)).2.1) ((rdS tx (0, lt, ib, rw, cl, nu) (rdE (rdOk tx (0, lt, ib, rw, cl, nu)) tn)).2.2.1) ((rdS tx (0, lt, ib, rw, cl, nu) (rdE (rdOk tx (0, lt, ib, rw, cl, nu)) tn)).2.2.2.1) ((rdS tx (0, lt, ib, rw, cl, nu) (rdE (rdOk tx (0, lt, ib, rw, cl, nu)) tn)).2.2.2.2.1) ((rdS tx (0, lt, ib, rw, cl, nu) (rdE (rdOk tx (0, lt, ib, rw, cl, nu)) tn)).2.2.2.2.2) tv tm ta ml tn R)) := by
  refine g_intro (by decide +kernel) (lv := [(0, .ref (ad 0))]) rfl (Nat.le_of_ble_eq_true rfl) ?_
  intro p e s m below meth c C0 G ls hl
  have hx := C0.1
  have hb := C0.2.1
  have hown := C0.2.2.2.2.2.1
  have hts := C0.2.2.2.2.2.2.1
  refine lv_aload_n hx hb dX4_readText_0 rfl (lv_at hl 0 rfl) ?_
  refine g_get (q0 := 0) (v := .ref (ad 6)) C0 G in_X4 rfl rfl 4 (by decide) fl_X4_36 (fun _ h => h) rfl dX4_readText_1 ?_
  refine g_callVN (As := []) (rest := []) (q0 := 6) C0 G (GE.at (i := 6) rfl (fun R => (c_X2_begin l D cy (R := R) (h := ad 6) (sp := sp) (lt := lt) (ib := ib) (rw := rw) (cl := cl) (nu := nu)  ))) k_X2_begin nm_X4_281 rfl rfl dX4_readText_4 rfl rfl hl.1 (Nat.le_of_ble_eq_true rfl) ⟨Nat.le_of_ble_eq_true rfl, Nat.le_of_ble_eq_true rfl⟩ ⟨Nat.le_of_ble_eq_true rfl, Nat.le_of_ble_eq_true rfl⟩ (fun r W2 H locs hp G => ?_)
  obtain ⟨rfl, hw⟩ := hp
  have G : gW D (wC ad cy fr bk vw tk to fk fo kp 0 lt ib rw cl nu tv tm ta ml tn R) (va_A (wC ad cy fr bk vw tk to fk fo kp sp lt ib rw cl nu tv tm ta ml tn R) s.heap.size) s H locs := g_wc (hw.trans (by rfl)) G
  refine W.eq (g2 := F0 m 7 ls []) rfl ?_
  refine lv_iconst (v := 0) hx hb dX4_readText_7 (by decide) ?_
  refine lv_istore_n (lv' := [(1, .int 0), (0, .ref (ad 0))]) hx hb dX4_readText_8 rfl hl (by decide) rfl (fun ls hl => ?_)
  have hl := lv_sub hl (l' := [(0, .ref (ad 0)), (1, .int 0)]) [1, 0] rfl
  refine g_loop (σ := Nat) (fun i => tn - i) (fun i => wC ad cy fr bk vw tk to fk fo kp ((rdS tx (0, lt, ib, rw, cl, nu) (i)).1) ((rdS tx (0, lt, ib, rw, cl, nu) (i)).2.1) ((rdS tx (0, lt, ib, rw, cl, nu) (i)).2.2.1) ((rdS tx (0, lt, ib, rw, cl, nu) (i)).2.2.2.1) ((rdS tx (0, lt, ib, rw, cl, nu) (i)).2.2.2.2.1) ((rdS tx (0, lt, ib, rw, cl, nu) (i)).2.2.2.2.2) tv tm ta ml tn R) (fun i => [(0, .ref (ad 0)), (1, .int (nI i))]) (fun i => i ≤ tn ∧ ldN (rdOk tx (0, lt, ib, rw, cl, nu)) i = i) ?_ 0 ⟨by omega, rfl⟩ G hl
  intro i hi_9 ih_9 H locs ls G hl
  obtain ⟨hi_9a, hi_9b⟩ := hi_9
  have G : gW D (wC ad cy fr bk vw tk to fk fo kp ((rdS tx (0, lt, ib, rw, cl, nu) (i)).1) ((rdS tx (0, lt, ib, rw, cl, nu) (i)).2.1) ((rdS tx (0, lt, ib, rw, cl, nu) (i)).2.2.1) ((rdS tx (0, lt, ib, rw, cl, nu) (i)).2.2.2.1) ((rdS tx (0, lt, ib, rw, cl, nu) (i)).2.2.2.2.1) ((rdS tx (0, lt, ib, rw, cl, nu) (i)).2.2.2.2.2) tv tm ta ml tn R) (va_A (wC ad cy fr bk vw tk to fk fo kp sp lt ib rw cl nu tv tm ta ml tn R) s.heap.size) s H locs := G
  have hl : lv_has ls 2 [(0, .ref (ad 0)), (1, .int (nI i))] := hl
  refine lv_iload_n hx hb dX4_readText_9 rfl (lv_at hl 1 rfl) ?_
  refine lv_aload_n hx hb dX4_readText_10 rfl (lv_at hl 0 rfl) ?_
  refine g_get (q0 := 0) (v := .ref (ad 7)) C0 G in_X4 rfl rfl 5 (by decide) fl_X4_43 (fun _ h => h) rfl dX4_readText_11 ?_
  refine g_callV (As := []) (rest := [.int (nI i)]) (q0 := 7) C0 G (c_J4_length_8abf5 l D cy (ad := ad) (fr := fr) (bk := bk) (vw := vw) (tk := tk) (to := to) (fk := fk) (fo := fo) (kp := kp) (sp := (rdS tx (0, lt, ib, rw, cl, nu) (i)).1) (lt := (rdS tx (0, lt, ib, rw, cl, nu) (i)).2.1) (ib := (rdS tx (0, lt, ib, rw, cl, nu) (i)).2.2.1) (rw := (rdS tx (0, lt, ib, rw, cl, nu) (i)).2.2.2.1) (cl := (rdS tx (0, lt, ib, rw, cl, nu) (i)).2.2.2.2.1) (nu := (rdS tx (0, lt, ib, rw, cl, nu) (i)).2.2.2.2.2) (tv := tv) (tm := tm) (ta := ta) (ml := ml) (tn := tn) (R := R)  ) k_J4_length_8abf5 ml_X4_212 rfl rfl dX4_readText_14 rfl rfl hl.1 (Nat.le_of_ble_eq_true rfl) ⟨Nat.le_of_ble_eq_true rfl, Nat.le_of_ble_eq_true rfl⟩ ⟨Nat.le_of_ble_eq_true rfl, Nat.le_of_ble_eq_true rfl⟩ (fun r W2 H locs hp G => ?_)
  obtain ⟨rfl, hw⟩ := hp
  have G := g_wc hw G
  refine W.eq (g2 := F0 m 17 ls [.int (nI tn), .int (nI i)]) rfl ?_
  refine lv_icmp_ge (tgt := 46) hx hb dX4_readText_17 (by decide) (fun c_17 => ?_) (fun c_17 => ?_)
  · skip
    have c_17 : tn ≤ i := (nI_leI (a := tn) (b := i) (by omega) (by omega)).mp c_17
    have hit : i = tn := by omega
    refine lv_aload_n hx hb dX4_readText_46 rfl (lv_at hl 0 rfl) ?_
    refine g_get (q0 := 0) (v := .ref (ad 7)) C0 G in_X4 rfl rfl 5 (by decide) fl_X4_43 (fun _ h => h) rfl dX4_readText_47 ?_
    refine g_callV (As := []) (rest := []) (q0 := 7) C0 G (c_J4_length_8abf5 l D cy (ad := ad) (fr := fr) (bk := bk) (vw := vw) (tk := tk) (to := to) (fk := fk) (fo := fo) (kp := kp) (sp := (rdS tx (0, lt, ib, rw, cl, nu) (i)).1) (lt := (rdS tx (0, lt, ib, rw, cl, nu) (i)).2.1) (ib := (rdS tx (0, lt, ib, rw, cl, nu) (i)).2.2.1) (rw := (rdS tx (0, lt, ib, rw, cl, nu) (i)).2.2.2.1) (cl := (rdS tx (0, lt, ib, rw, cl, nu) (i)).2.2.2.2.1) (nu := (rdS tx (0, lt, ib, rw, cl, nu) (i)).2.2.2.2.2) (tv := tv) (tm := tm) (ta := ta) (ml := ml) (tn := tn) (R := R)  ) k_J4_length_8abf5 ml_X4_212 rfl rfl dX4_readText_50 rfl rfl hl.1 (Nat.le_of_ble_eq_true rfl) ⟨Nat.le_of_ble_eq_true rfl, Nat.le_of_ble_eq_true rfl⟩ ⟨Nat.le_of_ble_eq_true rfl, Nat.le_of_ble_eq_true rfl⟩ (fun r W2 H locs hp G => ?_)
    obtain ⟨rfl, hw⟩ := hp
    have G := g_wc hw G
    refine W.eq (g2 := F0 m 53 ls [.int (nI tn)]) rfl ?_
    exact g_iret C0 G ⟨by rw [← hit, hi_9b], by first | (rw [rdE_at hi_9b c_35 (by omega)]; done) | (rw [rdE_at hi_9b c_35 (by omega)]; rfl) | (rw [rdE_end hit hi_9b]; done)⟩ dX4_readText_53
  · skip
    have c_17 : ¬ (tn ≤ i) := fun h => c_17 ((nI_leI (a := tn) (b := i) (by omega) (by omega)).mpr h)
    obtain ⟨htx1, htx2⟩ := htx i (by omega)
    obtain ⟨ho1, ho2, ho3, ho4, ho5⟩ := rd_ok (fun j hj => (htx j hj).2) hq i hi_9a
    refine lv_aload_n hx hb dX4_readText_20 rfl (lv_at hl 0 rfl) ?_
    refine g_get (q0 := 0) (v := .ref (ad 6)) C0 G in_X4 rfl rfl 4 (by decide) fl_X4_36 (fun _ h => h) rfl dX4_readText_21 ?_
    refine lv_aload_n hx hb dX4_readText_24 rfl (lv_at hl 0 rfl) ?_
    refine g_get (q0 := 0) (v := .ref (ad 7)) C0 G in_X4 rfl rfl 5 (by decide) fl_X4_43 (fun _ h => h) rfl dX4_readText_25 ?_
    refine lv_iload_n hx hb dX4_readText_28 rfl (lv_at hl 1 rfl) ?_
    refine g_callV (As := [.int (nI i)]) (rest := [.ref (ad 6)]) (q0 := 7) C0 G (c_J4_charAt_5068e l D cy (ad := ad) (fr := fr) (bk := bk) (vw := vw) (tk := tk) (to := to) (fk := fk) (fo := fo) (kp := kp) (sp := (rdS tx (0, lt, ib, rw, cl, nu) (i)).1) (lt := (rdS tx (0, lt, ib, rw, cl, nu) (i)).2.1) (ib := (rdS tx (0, lt, ib, rw, cl, nu) (i)).2.2.1) (rw := (rdS tx (0, lt, ib, rw, cl, nu) (i)).2.2.2.1) (cl := (rdS tx (0, lt, ib, rw, cl, nu) (i)).2.2.2.2.1) (nu := (rdS tx (0, lt, ib, rw, cl, nu) (i)).2.2.2.2.2) (tv := tv) (tm := tm) (ta := ta) (ml := ml) (tn := tn) (R := R) (a1 := i) (ch := tx i) (by omega) (by omega) (by omega) htx1 htx2) k_J4_charAt_5068e ml_X4_284 rfl rfl dX4_readText_29 rfl rfl hl.1 (Nat.le_of_ble_eq_true rfl) ⟨Nat.le_of_ble_eq_true rfl, Nat.le_of_ble_eq_true rfl⟩ ⟨Nat.le_of_ble_eq_true rfl, Nat.le_of_ble_eq_true rfl⟩ (fun r W2 H locs hp G => ?_)
    obtain ⟨rfl, hw⟩ := hp
    have G := g_wc hw G
    refine W.eq (g2 := F0 m 32 ls [.int (nI (tx i)), .ref (ad 6)]) rfl ?_
    refine g_callVN (As := [.int (nI (tx i))]) (rest := []) (q0 := 6) C0 G (GE.at (i := 6) rfl (fun R => (c_X2_takes l D cy (R := R) (h := ad 6) (sp := (rdS tx (0, lt, ib, rw, cl, nu) (i)).1) (lt := (rdS tx (0, lt, ib, rw, cl, nu) (i)).2.1) (ib := (rdS tx (0, lt, ib, rw, cl, nu) (i)).2.2.1) (rw := (rdS tx (0, lt, ib, rw, cl, nu) (i)).2.2.2.1) (cl := (rdS tx (0, lt, ib, rw, cl, nu) (i)).2.2.2.2.1) (nu := (rdS tx (0, lt, ib, rw, cl, nu) (i)).2.2.2.2.2) (ch := (tx i)) (by omega) (by omega) (by omega) (by omega)))) k_X2_takes nm_X4_288 rfl rfl dX4_readText_32 rfl rfl hl.1 (Nat.le_of_ble_eq_true rfl) ⟨Nat.le_of_ble_eq_true rfl, Nat.le_of_ble_eq_true rfl⟩ ⟨Nat.le_of_ble_eq_true rfl, Nat.le_of_ble_eq_true rfl⟩ (fun r W2 H locs hp G => ?_)
    obtain ⟨rfl, hw⟩ := hp
    have G : gW D (wC ad cy fr bk vw tk to fk fo kp (tkSp (tx i) ((rdS tx (0, lt, ib, rw, cl, nu) (i)).1) ((rdS tx (0, lt, ib, rw, cl, nu) (i)).2.1) ((rdS tx (0, lt, ib, rw, cl, nu) (i)).2.2.2.2.2)) (tkLt (tx i) ((rdS tx (0, lt, ib, rw, cl, nu) (i)).1) ((rdS tx (0, lt, ib, rw, cl, nu) (i)).2.1)) (tkIb (tx i) ((rdS tx (0, lt, ib, rw, cl, nu) (i)).1) ((rdS tx (0, lt, ib, rw, cl, nu) (i)).2.2.1)) (tkRw (tx i) ((rdS tx (0, lt, ib, rw, cl, nu) (i)).1) ((rdS tx (0, lt, ib, rw, cl, nu) (i)).2.1) ((rdS tx (0, lt, ib, rw, cl, nu) (i)).2.2.2.1)) (tkCl (tx i) ((rdS tx (0, lt, ib, rw, cl, nu) (i)).1) ((rdS tx (0, lt, ib, rw, cl, nu) (i)).2.2.2.2.1)) (tkNu (tx i) ((rdS tx (0, lt, ib, rw, cl, nu) (i)).1) ((rdS tx (0, lt, ib, rw, cl, nu) (i)).2.2.2.2.2)) tv tm ta ml tn R) (va_A (wC ad cy fr bk vw tk to fk fo kp sp lt ib rw cl nu tv tm ta ml tn R) s.heap.size) s H locs := g_wc (hw.trans (by rfl)) G
    refine W.eq (g2 := F0 m 35 ls [.int (bI (tkOk (tx i) ((rdS tx (0, lt, ib, rw, cl, nu) (i)).1) ((rdS tx (0, lt, ib, rw, cl, nu) (i)).2.1) ((rdS tx (0, lt, ib, rw, cl, nu) (i)).2.2.2.2.2)))]) rfl ?_
    refine lv_if_ne (tgt := 40) hx hb dX4_readText_35 (by decide) (fun c_35 => ?_) (fun c_35 => ?_)
    · skip
      have c_35 : (tkOk (tx i) ((rdS tx (0, lt, ib, rw, cl, nu) (i)).1) ((rdS tx (0, lt, ib, rw, cl, nu) (i)).2.1) ((rdS tx (0, lt, ib, rw, cl, nu) (i)).2.2.2.2.2)) = true := bI_t c_35
      refine lv_iinc (v := nI (i + 1)) (lv' := [(1, .int (nI (i + 1))), (0, .ref (ad 0))]) hx hb dX4_readText_40 hl (k := 1) rfl (nI_add i 1) (by decide) rfl (fun ls hl => ?_)
      refine lv_goto (tgt := 9) hx hb dX4_readText_43 (by decide) ?_
      have hl := lv_sub hl (l' := _) [1, 0] rfl
      exact ih_9 (i + 1) ⟨by omega, ldN_next hi_9b c_35⟩ (by show _ < _; omega) _ _ _ G hl
    · skip
      have c_35 : (tkOk (tx i) ((rdS tx (0, lt, ib, rw, cl, nu) (i)).1) ((rdS tx (0, lt, ib, rw, cl, nu) (i)).2.1) ((rdS tx (0, lt, ib, rw, cl, nu) (i)).2.2.2.2.2)) = false := bI_f c_35
      refine lv_iload_n hx hb dX4_readText_38 rfl (lv_at hl 1 rfl) ?_
      exact g_iret C0 G ⟨by rw [ldN_at hi_9b c_35 (by omega)], by first | (rw [rdE_at hi_9b c_35 (by omega)]; done) | (rw [rdE_at hi_9b c_35 (by omega)]; rfl) | (rw [rdE_end hit hi_9b]; done)⟩ dX4_readText_39
