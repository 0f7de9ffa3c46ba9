/-! the public methods, in the law's words -/
def tK (c : Cd) : Int64 := (fa (sdW c.1 c.2.1) (onW c.1 c.2.1)).1
def tO (c : Cd) : Int64 := (fa (sdW c.1 c.2.1) (onW c.1 c.2.1)).2
def dgC (cs : Nat → Cd) : Int64 := dgH (fun k => (cs k).1) (fun k => (cs k).2.1) (fun k => (cs k).2.2) 3
def kdN (f b : Int64) (k : Nat) : Nat := if tb f k then (if tb b k then 3 else 1) else (if tb b k then 0 else 2)
theorem kd_n (f b : Int64) (k : Nat) : kdI f b k = nI (kdN f b k) := by unfold kdI kdN; cases tb f k <;> cases tb b k <;> rfl
theorem kdN_lt (f b : Int64) (k : Nat) : kdN f b k < 4 := by unfold kdN; cases tb f k <;> cases tb b k <;> decide
theorem kdN_sd (f b : Int64) (k : Nat) : decide (kdN f b k < 2) = tb (sdW f b) k := by unfold kdN sdW; rw [tb_xor]; cases tb f k <;> cases tb b k <;> decide
theorem va_up2 {α : Type} (g : Nat → α) (k : Nat) (a b : α) : va_up (va_up g k a) k b = va_up g k b := by
  funext j; unfold va_up; split <;> rfl
theorem sv_same {α : Type} {g : Nat → α} {kp k : Nat} (hk : k < 3) : saU g kp = va_up (saU g kp) k (g k) := by
  have h := va_up_s (saU g kp) k
  rw [saU_lo hk] at h
  exact h.symm
set_option maxHeartbeats 1000000 in
theorem l_view (l : Launch) (D : va_G) (cy : Nat → ClassId) (ad : Nat → Nat) (tv : Nat) (cs : Nat → Cd) (hs : List (Nat → Cd)) (k : Nat) (hk : k < 3) : GL l D cy ad tv yX4_view cX4_view 2 (some .int) 1 [.ref (ad 0), .int (nI k)] cs hs (.int (nI ((cs k).2.2))) cs hs := by
  intro fr bk vw kp tk to fk fo h
  have ek := h.at hk
  have h3 := c_X4_view l D cy (ad := ad) (fr := fr) (bk := bk) (vw := vw) (tk := tk) (to := to) (fk := fk) (fo := fo) (kp := kp) (sp := 0) (lt := 0) (ib := false) (rw := 0) (cl := 0) (nu := 0) (tv := tv) (tm := 16) (ta := fun _ => 0) (ml := 0) (tn := 0) (R := []) (k := k) hk
  exact h3.weak (fun r W2 h2 => ⟨h2.1.trans (by first | (simp only [ek, tK, tO]; done) | rfl), _, _, _, _, _, _, _, _, h, h2.2⟩)

set_option maxHeartbeats 1000000 in
theorem l_untold (l : Launch) (D : va_G) (cy : Nat → ClassId) (ad : Nat → Nat) (tv : Nat) (cs : Nat → Cd) (hs : List (Nat → Cd)) (k : Nat) (hk : k < 3) : GL l D cy ad tv yX4_untold cX4_untold 2 (some .int) 5 [.ref (ad 0), .int (nI k)] cs hs (.int (nI (pc ((tK (cs k)) ^^^ (-1))))) cs hs := by
  intro fr bk vw kp tk to fk fo h
  have ek := h.at hk
  have h3 := c_X4_untold l D cy (ad := ad) (fr := fr) (bk := bk) (vw := vw) (tk := tk) (to := to) (fk := fk) (fo := fo) (kp := kp) (sp := 0) (lt := 0) (ib := false) (rw := 0) (cl := 0) (nu := 0) (tv := tv) (tm := 16) (ta := fun _ => 0) (ml := 0) (tn := 0) (R := []) (k := k) hk
  exact h3.weak (fun r W2 h2 => ⟨h2.1.trans (by first | (simp only [ek, tK, tO]; done) | rfl), _, _, _, _, _, _, _, _, h, h2.2⟩)

set_option maxHeartbeats 1000000 in
theorem l_disagreements (l : Launch) (D : va_G) (cy : Nat → ClassId) (ad : Nat → Nat) (tv : Nat) (cs : Nat → Cd) (hs : List (Nat → Cd)) (k : Nat) (hk : k < 3) : GL l D cy ad tv yX4_disagreements cX4_disagreements 2 (some .int) 5 [.ref (ad 0), .int (nI k)] cs hs (.int (nI (cnt (dgB (tK (cs k)) (tO (cs k))) 16))) cs hs := by
  intro fr bk vw kp tk to fk fo h
  have ek := h.at hk
  have h3 := c_X4_disagreements l D cy (ad := ad) (fr := fr) (bk := bk) (vw := vw) (tk := tk) (to := to) (fk := fk) (fo := fo) (kp := kp) (sp := 0) (lt := 0) (ib := false) (rw := 0) (cl := 0) (nu := 0) (tv := tv) (tm := 16) (ta := fun _ => 0) (ml := 0) (tn := 0) (R := []) (k := k) hk
  exact h3.weak (fun r W2 h2 => ⟨h2.1.trans (by first | (simp only [ek, tK, tO]; done) | rfl), _, _, _, _, _, _, _, _, h, h2.2⟩)

set_option maxHeartbeats 1000000 in
theorem l_worst (l : Launch) (D : va_G) (cy : Nat → ClassId) (ad : Nat → Nat) (tv : Nat) (cs : Nat → Cd) (hs : List (Nat → Cd)) (k : Nat) (hk : k < 3) : GL l D cy ad tv yX4_worst cX4_worst 2 (some .int) 6 [.ref (ad 0), .int (nI k)] cs hs (.int ((wcS (cs k).1 (cs k).2.1 64).1)) cs hs := by
  intro fr bk vw kp tk to fk fo h
  have ek := h.at hk
  have h3 := c_X4_worst l D cy (ad := ad) (fr := fr) (bk := bk) (vw := vw) (tk := tk) (to := to) (fk := fk) (fo := fo) (kp := kp) (sp := 0) (lt := 0) (ib := false) (rw := 0) (cl := 0) (nu := 0) (tv := tv) (tm := 16) (ta := fun _ => 0) (ml := 0) (tn := 0) (R := []) (k := k) hk
  exact h3.weak (fun r W2 h2 => ⟨h2.1.trans (by first | (simp only [ek, tK, tO]; done) | rfl), _, _, _, _, _, _, _, _, h, h2.2⟩)

set_option maxHeartbeats 1000000 in
theorem l_sees (l : Launch) (D : va_G) (cy : Nat → ClassId) (ad : Nat → Nat) (tv : Nat) (cs : Nat → Cd) (hs : List (Nat → Cd)) (k i j : Nat) (hk : k < 3) (hi : i < 8) (hj : j < 8) (hv : (cs k).2.2 < 4) : GL l D cy ad tv yX4_sees cX4_sees 5 (some .boolean) 3 [.ref (ad 0), .int (nI k), .int (nI i), .int (nI j)] cs hs (.int (bI (shB1 (cs k).1 (cs k).2.1 (cs k).2.2 i j))) cs hs := by
  intro fr bk vw kp tk to fk fo h
  have ek := h.at hk
  have hv2 : vw k < 4 := by rw [ek] at hv; exact hv
  have h3 := c_X4_sees l D cy (ad := ad) (fr := fr) (bk := bk) (vw := vw) (tk := tk) (to := to) (fk := fk) (fo := fo) (kp := kp) (sp := 0) (lt := 0) (ib := false) (rw := 0) (cl := 0) (nu := 0) (tv := tv) (tm := 16) (ta := fun _ => 0) (ml := 0) (tn := 0) (R := []) (k := k) (i := i) (j := j) hk hi hj hv2
  exact h3.weak (fun r W2 h2 => ⟨h2.1.trans (by first | (simp only [ek, tK, tO]; done) | rfl), _, _, _, _, _, _, _, _, h, h2.2⟩)

set_option maxHeartbeats 1000000 in
theorem l_raw (l : Launch) (D : va_G) (cy : Nat → ClassId) (ad : Nat → Nat) (tv : Nat) (cs : Nat → Cd) (hs : List (Nat → Cd)) (k i : Nat) (hk : k < 3) (hi : i < 8) (hv : (cs k).2.2 < 4) : GL l D cy ad tv yX4_raw cX4_raw 4 (some .int) 4 [.ref (ad 0), .int (nI k), .int (nI i)] cs hs (.int (nI (rwN (cs k).1 (cs k).2.1 (cs k).2.2 i 8))) cs hs := by
  intro fr bk vw kp tk to fk fo h
  have ek := h.at hk
  have hv2 : vw k < 4 := by rw [ek] at hv; exact hv
  have h3 := c_X4_raw l D cy (ad := ad) (fr := fr) (bk := bk) (vw := vw) (tk := tk) (to := to) (fk := fk) (fo := fo) (kp := kp) (sp := 0) (lt := 0) (ib := false) (rw := 0) (cl := 0) (nu := 0) (tv := tv) (tm := 16) (ta := fun _ => 0) (ml := 0) (tn := 0) (R := []) (k := k) (i := i) hk hi hv2
  exact h3.weak (fun r W2 h2 => ⟨h2.1.trans (by first | (simp only [ek, tK, tO]; done) | rfl), _, _, _, _, _, _, _, _, h, h2.2⟩)

set_option maxHeartbeats 1000000 in
theorem l_kind (l : Launch) (D : va_G) (cy : Nat → ClassId) (ad : Nat → Nat) (tv : Nat) (cs : Nat → Cd) (hs : List (Nat → Cd)) (k i j : Nat) (hk : k < 3) (hi : i < 8) (hj : j < 8) : GL l D cy ad tv yX4_kind cX4_kind 5 (some .int) 2 [.ref (ad 0), .int (nI k), .int (nI i), .int (nI j)] cs hs (.int (nI (kdN (cs k).1 (cs k).2.1 (8 * i + j)))) cs hs := by
  intro fr bk vw kp tk to fk fo h
  have ek := h.at hk
  have h3 := c_X4_kind l D cy (ad := ad) (fr := fr) (bk := bk) (vw := vw) (tk := tk) (to := to) (fk := fk) (fo := fo) (kp := kp) (sp := 0) (lt := 0) (ib := false) (rw := 0) (cl := 0) (nu := 0) (tv := tv) (tm := 16) (ta := fun _ => 0) (ml := 0) (tn := 0) (R := []) (k := k) (i := i) (j := j) hk hi hj
  exact h3.weak (fun r W2 h2 => ⟨h2.1.trans (by first | (simp only [ek, tK, tO, kd_n]; done) | rfl), _, _, _, _, _, _, _, _, h, h2.2⟩)

set_option maxHeartbeats 1000000 in
theorem l_told (l : Launch) (D : va_G) (cy : Nat → ClassId) (ad : Nat → Nat) (tv : Nat) (cs : Nat → Cd) (hs : List (Nat → Cd)) (k i j : Nat) (hk : k < 3) (hi : i < 8) (hj : j < 8) : GL l D cy ad tv yX4_told cX4_told 5 (some .int) 5 [.ref (ad 0), .int (nI k), .int (nI i), .int (nI j)] cs hs (.int (biI (tK (cs k)) (tO (cs k)) (8 * i + j))) cs hs := by
  intro fr bk vw kp tk to fk fo h
  have ek := h.at hk
  have h3 := c_X4_told l D cy (ad := ad) (fr := fr) (bk := bk) (vw := vw) (tk := tk) (to := to) (fk := fk) (fo := fo) (kp := kp) (sp := 0) (lt := 0) (ib := false) (rw := 0) (cl := 0) (nu := 0) (tv := tv) (tm := 16) (ta := fun _ => 0) (ml := 0) (tn := 0) (R := []) (k := k) (i := i) (j := j) hk hi hj
  exact h3.weak (fun r W2 h2 => ⟨h2.1.trans (by first | (simp only [ek, tK, tO]; done) | rfl), _, _, _, _, _, _, _, _, h, h2.2⟩)

set_option maxHeartbeats 1000000 in
theorem l_count (l : Launch) (D : va_G) (cy : Nat → ClassId) (ad : Nat → Nat) (tv : Nat) (cs : Nat → Cd) (hs : List (Nat → Cd)) (k u : Nat) (hk : k < 3) (hu : u < 4) : GL l D cy ad tv yX4_count cX4_count 4 (some .int) 2 [.ref (ad 0), .int (nI k), .int (nI u)] cs hs (.int (nI (pc (kdW (cs k).1 (cs k).2.1 u)))) cs hs := by
  intro fr bk vw kp tk to fk fo h
  have ek := h.at hk
  have h3 := c_X4_count l D cy (ad := ad) (fr := fr) (bk := bk) (vw := vw) (tk := tk) (to := to) (fk := fk) (fo := fo) (kp := kp) (sp := 0) (lt := 0) (ib := false) (rw := 0) (cl := 0) (nu := 0) (tv := tv) (tm := 16) (ta := fun _ => 0) (ml := 0) (tn := 0) (R := []) (k := k) (u := u) hk hu
  exact h3.weak (fun r W2 h2 => ⟨h2.1.trans (by first | (simp only [ek, tK, tO]; done) | rfl), _, _, _, _, _, _, _, _, h, h2.2⟩)

set_option maxHeartbeats 1000000 in
theorem l_read (l : Launch) (D : va_G) (cy : Nat → ClassId) (ad : Nat → Nat) (tv : Nat) (cs : Nat → Cd) (hs : List (Nat → Cd)) (k i : Nat) (hk : k < 3) (hi : i < 7) : GL l D cy ad tv yX4_read cX4_read 4 (some .int) 2 [.ref (ad 0), .int (nI k), .int (nI i)] cs hs (.int (rvI (sdW (cs k).1 (cs k).2.1) (onW (cs k).1 (cs k).2.1) i)) cs hs := by
  intro fr bk vw kp tk to fk fo h
  have ek := h.at hk
  have h3 := c_X4_read l D cy (ad := ad) (fr := fr) (bk := bk) (vw := vw) (tk := tk) (to := to) (fk := fk) (fo := fo) (kp := kp) (sp := 0) (lt := 0) (ib := false) (rw := 0) (cl := 0) (nu := 0) (tv := tv) (tm := 16) (ta := fun _ => 0) (ml := 0) (tn := 0) (R := []) (k := k) (i := i) hk hi
  exact h3.weak (fun r W2 h2 => ⟨h2.1.trans (by first | (simp only [ek, tK, tO]; done) | rfl), _, _, _, _, _, _, _, _, h, h2.2⟩)

set_option maxHeartbeats 1000000 in
theorem l_value (l : Launch) (D : va_G) (cy : Nat → ClassId) (ad : Nat → Nat) (tv : Nat) (cs : Nat → Cd) (hs : List (Nat → Cd)) (k i : Nat) (hk : k < 3) (hi : i < 7) : GL l D cy ad tv yX4_value cX4_value 5 (some .int) 5 [.ref (ad 0), .int (nI k), .int (nI i)] cs hs (.int (rvI (tK (cs k)) (tO (cs k)) i)) cs hs := by
  intro fr bk vw kp tk to fk fo h
  have ek := h.at hk
  have h3 := c_X4_value l D cy (ad := ad) (fr := fr) (bk := bk) (vw := vw) (tk := tk) (to := to) (fk := fk) (fo := fo) (kp := kp) (sp := 0) (lt := 0) (ib := false) (rw := 0) (cl := 0) (nu := 0) (tv := tv) (tm := 16) (ta := fun _ => 0) (ml := 0) (tn := 0) (R := []) (k := k) (i := i) hk hi
  exact h3.weak (fun r W2 h2 => ⟨h2.1.trans (by first | (simp only [ek, tK, tO]; done) | rfl), _, _, _, _, _, _, _, _, h, h2.2⟩)

set_option maxHeartbeats 1000000 in
theorem l_disagreement (l : Launch) (D : va_G) (cy : Nat → ClassId) (ad : Nat → Nat) (tv : Nat) (cs : Nat → Cd) (hs : List (Nat → Cd)) (k i : Nat) (hk : k < 3) (hi : i < 2147483648) : GL l D cy ad tv yX4_disagreement cX4_disagreement 4 (some .int) 5 [.ref (ad 0), .int (nI k), .int (nI i)] cs hs (.int (dlI (dgB (tK (cs k)) (tO (cs k))) i)) cs hs := by
  intro fr bk vw kp tk to fk fo h
  have ek := h.at hk
  have h3 := c_X4_disagreement l D cy (ad := ad) (fr := fr) (bk := bk) (vw := vw) (tk := tk) (to := to) (fk := fk) (fo := fo) (kp := kp) (sp := 0) (lt := 0) (ib := false) (rw := 0) (cl := 0) (nu := 0) (tv := tv) (tm := 16) (ta := fun _ => 0) (ml := 0) (tn := 0) (R := []) (k := k) (i := i) hk hi
  exact h3.weak (fun r W2 h2 => ⟨h2.1.trans (by first | (simp only [ek, tK, tO]; done) | rfl), _, _, _, _, _, _, _, _, h, h2.2⟩)

set_option maxHeartbeats 1000000 in
theorem l_soundShare (l : Launch) (D : va_G) (cy : Nat → ClassId) (ad : Nat → Nat) (tv : Nat) (cs : Nat → Cd) (hs : List (Nat → Cd)) (k : Nat) (hk : k < 3) : GL l D cy ad tv yX4_soundShare cX4_soundShare 3 (some .double) 1 [.ref (ad 0), .int (nI k)] cs hs (.double (n64 (pc (sdW (cs k).1 (cs k).2.1)))) cs hs := by
  intro fr bk vw kp tk to fk fo h
  have ek := h.at hk
  have h3 := c_X4_soundShare l D cy (ad := ad) (fr := fr) (bk := bk) (vw := vw) (tk := tk) (to := to) (fk := fk) (fo := fo) (kp := kp) (sp := 0) (lt := 0) (ib := false) (rw := 0) (cl := 0) (nu := 0) (tv := tv) (tm := 16) (ta := fun _ => 0) (ml := 0) (tn := 0) (R := []) (k := k) hk
  exact h3.weak (fun r W2 h2 => ⟨h2.1.trans (by first | (simp only [ek, tK, tO]; done) | rfl), _, _, _, _, _, _, _, _, h, h2.2⟩)

set_option maxHeartbeats 1000000 in
theorem l_untoldIf (l : Launch) (D : va_G) (cy : Nat → ClassId) (ad : Nat → Nat) (tv : Nat) (cs : Nat → Cd) (hs : List (Nat → Cd)) (k i j : Nat) (hk : k < 3) (hi : i < 8) (hj : j < 8) : GL l D cy ad tv yX4_untoldIf cX4_untoldIf 5 (some .int) 5 [.ref (ad 0), .int (nI k), .int (nI i), .int (nI j)] cs hs (.int (uwI (cs k).1 (cs k).2.1 (8 * i + j))) cs hs := by
  intro fr bk vw kp tk to fk fo h
  have ek := h.at hk
  have h3 := c_X4_untoldIf l D cy (ad := ad) (fr := fr) (bk := bk) (vw := vw) (tk := tk) (to := to) (fk := fk) (fo := fo) (kp := kp) (sp := 0) (lt := 0) (ib := false) (rw := 0) (cl := 0) (nu := 0) (tv := tv) (tm := 16) (ta := fun _ => 0) (ml := 0) (tn := 0) (R := []) (k := k) (i := i) (j := j) hk hi hj
  exact h3.weak (fun r W2 h2 => ⟨h2.1.trans (by first | (simp only [ek, tK, tO]; done) | rfl), _, _, _, _, _, _, _, _, h, h2.2⟩)

set_option maxHeartbeats 1000000 in
theorem l_difference (l : Launch) (D : va_G) (cy : Nat → ClassId) (ad : Nat → Nat) (tv : Nat) (cs : Nat → Cd) (hs : List (Nat → Cd)) (k j : Nat) (hk : k < 3) (hj : j < 3) : GL l D cy ad tv yX4_difference cX4_difference 10 (some .int) 5 [.ref (ad 0), .int (nI k), .int (nI j)] cs hs (.int (nI (pc ((tK (cs k) &&& tK (cs j)) &&& (tO (cs k) ^^^ tO (cs j)))))) cs hs := by
  intro fr bk vw kp tk to fk fo h
  have ek := h.at hk
  have ej := h.at hj
  have h3 := c_X4_difference l D cy (ad := ad) (fr := fr) (bk := bk) (vw := vw) (tk := tk) (to := to) (fk := fk) (fo := fo) (kp := kp) (sp := 0) (lt := 0) (ib := false) (rw := 0) (cl := 0) (nu := 0) (tv := tv) (tm := 16) (ta := fun _ => 0) (ml := 0) (tn := 0) (R := []) (k := k) (j := j) hk hj
  exact h3.weak (fun r W2 h2 => ⟨h2.1.trans (by first | (simp only [ek, ej, tK, tO]; done) | rfl), _, _, _, _, _, _, _, _, h, h2.2⟩)

set_option maxHeartbeats 1000000 in
theorem l_turn (l : Launch) (D : va_G) (cy : Nat → ClassId) (ad : Nat → Nat) (tv : Nat) (cs : Nat → Cd) (hs : List (Nat → Cd)) (k v : Nat) (hk : k < 3) (hv : v < 4) : GL l D cy ad tv yX4_turn cX4_turn 5 (some .int) 3 [.ref (ad 0), .int (nI k), .int (nI v)] cs hs (.int (nI ((cs k).2.2))) (va_up cs k ((cs k).1, (cs k).2.1, v)) (ps cs hs) := by
  intro fr bk vw kp tk to fk fo h
  have ek := h.at hk
  have h3 := c_X4_turn l D cy (ad := ad) (fr := fr) (bk := bk) (vw := vw) (tk := tk) (to := to) (fk := fk) (fo := fo) (kp := kp) (sp := 0) (lt := 0) (ib := false) (rw := 0) (cl := 0) (nu := 0) (tv := tv) (tm := 16) (ta := fun _ => 0) (ml := 0) (tn := 0) (R := []) (k := k) (v := v) hk hv h.2.1
  simp only [saU_lo hk, va_up_e, va_up2] at h3
  exact h3.weak (fun r W2 h2 => ⟨h2.1.trans (by first | (simp only [ek, tK, tO]; done) | rfl), _, _, _, _, _, _, _, _, (by first | (simp only [ek, tK, tO]; exact h.save.up hk (sv_same hk) (sv_same hk) rfl) | exact h.save.up hk (sv_same hk) (sv_same hk) rfl), h2.2⟩)

set_option maxHeartbeats 1000000 in
theorem l_renew (l : Launch) (D : va_G) (cy : Nat → ClassId) (ad : Nat → Nat) (tv : Nat) (cs : Nat → Cd) (hs : List (Nat → Cd)) (k : Nat) (hk : k < 3) : GL l D cy ad tv yX4_renew cX4_renew 4 (some .int) 3 [.ref (ad 0), .int (nI k)] cs hs (.int (nI (pc (cs k).1 + pc (cs k).2.1))) (va_up cs k (0, 0, 0)) (ps cs hs) := by
  intro fr bk vw kp tk to fk fo h
  have ek := h.at hk
  have h3 := c_X4_renew l D cy (ad := ad) (fr := fr) (bk := bk) (vw := vw) (tk := tk) (to := to) (fk := fk) (fo := fo) (kp := kp) (sp := 0) (lt := 0) (ib := false) (rw := 0) (cl := 0) (nu := 0) (tv := tv) (tm := 16) (ta := fun _ => 0) (ml := 0) (tn := 0) (R := []) (k := k) hk h.2.1
  simp only [saU_lo hk, va_up_e, va_up2] at h3
  exact h3.weak (fun r W2 h2 => ⟨h2.1.trans (by first | (simp only [ek, tK, tO]; done) | rfl), _, _, _, _, _, _, _, _, (by first | (simp only [ek, tK, tO]; exact h.save.up hk rfl rfl rfl) | exact h.save.up hk rfl rfl rfl), h2.2⟩)

set_option maxHeartbeats 1000000 in
theorem l_punch (l : Launch) (D : va_G) (cy : Nat → ClassId) (ad : Nat → Nat) (tv : Nat) (cs : Nat → Cd) (hs : List (Nat → Cd)) (k row u : Nat) (hk : k < 3) (hrow : row < 7) (hu : u < 128) (hcp : cpB (cs k).1 (cs k).2.1 row = true) : GL l D cy ad tv yX4_punch cX4_punch 5 (some .int) 3 [.ref (ad 0), .int (nI k), .int (nI row), .int (nI u)] cs hs (.int (nI (pc7 u % 2))) (va_up cs k (pwF (cs k).1 row u, pwB (cs k).2.1 row u, (cs k).2.2)) (ps cs hs) := by
  intro fr bk vw kp tk to fk fo h
  have ek := h.at hk
  rw [ek] at hcp
  have h3 := c_X4_punch l D cy (ad := ad) (fr := fr) (bk := bk) (vw := vw) (tk := tk) (to := to) (fk := fk) (fo := fo) (kp := kp) (sp := 0) (lt := 0) (ib := false) (rw := 0) (cl := 0) (nu := 0) (tv := tv) (tm := 16) (ta := fun _ => 0) (ml := 0) (tn := 0) (R := []) (k := k) (row := row) (u := u) hk hrow hu h.2.1 hcp
  simp only [saU_lo hk, va_up_e, va_up2] at h3
  exact h3.weak (fun r W2 h2 => ⟨h2.1.trans (by first | (simp only [ek, tK, tO]; done) | rfl), _, _, _, _, _, _, _, _, (by first | (simp only [ek, tK, tO]; exact h.save.up hk rfl rfl (sv_same hk)) | exact h.save.up hk rfl rfl (sv_same hk)), h2.2⟩)

set_option maxHeartbeats 1000000 in
theorem l_close (l : Launch) (D : va_G) (cy : Nat → ClassId) (ad : Nat → Nat) (tv : Nat) (cs : Nat → Cd) (hs : List (Nat → Cd)) (k : Nat) (hk : k < 3) (hcc : ccB (cs k).1 (cs k).2.1 = true) : GL l D cy ad tv yX4_close cX4_close 3 (some .int) 3 [.ref (ad 0), .int (nI k)] cs hs (.int (nI (pc (onW (clF (cs k).1 (cs k).2.1) (clB (cs k).1 (cs k).2.1) &&& rowM 7)))) (va_up cs k (clF (cs k).1 (cs k).2.1, clB (cs k).1 (cs k).2.1, (cs k).2.2)) (ps cs hs) := by
  intro fr bk vw kp tk to fk fo h
  have ek := h.at hk
  rw [ek] at hcc
  have h3 := c_X4_close l D cy (ad := ad) (fr := fr) (bk := bk) (vw := vw) (tk := tk) (to := to) (fk := fk) (fo := fo) (kp := kp) (sp := 0) (lt := 0) (ib := false) (rw := 0) (cl := 0) (nu := 0) (tv := tv) (tm := 16) (ta := fun _ => 0) (ml := 0) (tn := 0) (R := []) (k := k) hk h.2.1 hcc
  simp only [saU_lo hk, va_up_e, va_up2] at h3
  exact h3.weak (fun r W2 h2 => ⟨h2.1.trans (by first | (simp only [ek, tK, tO]; done) | rfl), _, _, _, _, _, _, _, _, (by first | (simp only [ek, tK, tO]; exact h.save.up hk rfl rfl (sv_same hk)) | exact h.save.up hk rfl rfl (sv_same hk)), h2.2⟩)

set_option maxHeartbeats 1000000 in
theorem l_copy (l : Launch) (D : va_G) (cy : Nat → ClassId) (ad : Nat → Nat) (tv : Nat) (cs : Nat → Cd) (hs : List (Nat → Cd)) (k j : Nat) (hk : k < 3) (hj : j < 3) (hne : ¬ k = j) : GL l D cy ad tv yX4_copy cX4_copy 6 (some .int) 5 [.ref (ad 0), .int (nI k), .int (nI j)] cs hs (.int (nI (pc (blW (tO (cs k)) (tK (cs k) &&& (tO (cs k) ^^^ (-1))))))) (va_up cs j (tO (cs k), tK (cs k) &&& (tO (cs k) ^^^ (-1)), 0)) (ps cs hs) := by
  intro fr bk vw kp tk to fk fo h
  have ek := h.at hk
  have h3 := c_X4_copy l D cy (ad := ad) (fr := fr) (bk := bk) (vw := vw) (tk := tk) (to := to) (fk := fk) (fo := fo) (kp := kp) (sp := 0) (lt := 0) (ib := false) (rw := 0) (cl := 0) (nu := 0) (tv := tv) (tm := 16) (ta := fun _ => 0) (ml := 0) (tn := 0) (R := []) (k := k) (j := j) hk hj h.2.1 hne
  simp only [saU_lo hk, saU_lo hj, va_up_e, va_up2] at h3
  exact h3.weak (fun r W2 h2 => ⟨h2.1.trans (by first | (simp only [ek, tK, tO]; done) | rfl), _, _, _, _, _, _, _, _, (by first | (simp only [ek, tK, tO]; exact h.save.up hj rfl rfl rfl) | exact h.save.up hj rfl rfl rfl), h2.2⟩)

set_option maxHeartbeats 1000000 in
theorem l_wear (l : Launch) (D : va_G) (cy : Nat → ClassId) (ad : Nat → Nat) (tv : Nat) (cs : Nat → Cd) (hs : List (Nat → Cd)) (k i j : Nat) (hk : k < 3) (hi : i < 8) (hj : j < 8) (hv : (cs k).2.2 < 4) (hho : hoB (cs k).1 (cs k).2.1 (sbB (cs k).2.2) (scN (cs k).2.2 i j) = false) : GL l D cy ad tv yX4_wear cX4_wear 6 (some .int) 3 [.ref (ad 0), .int (nI k), .int (nI i), .int (nI j)] cs hs (.int (nI (kdN (shF (cs k).1 (sbB (cs k).2.2) (scN (cs k).2.2 i j) true) (shB (cs k).2.1 (sbB (cs k).2.2) (scN (cs k).2.2 i j) true) (scN (cs k).2.2 i j)))) (va_up cs k (shF (cs k).1 (sbB (cs k).2.2) (scN (cs k).2.2 i j) true, shB (cs k).2.1 (sbB (cs k).2.2) (scN (cs k).2.2 i j) true, (cs k).2.2)) (ps cs hs) := by
  intro fr bk vw kp tk to fk fo h
  have ek := h.at hk
  have hv2 : vw k < 4 := by rw [ek] at hv; exact hv
  rw [ek] at hho
  have h3 := c_X4_wear l D cy (ad := ad) (fr := fr) (bk := bk) (vw := vw) (tk := tk) (to := to) (fk := fk) (fo := fo) (kp := kp) (sp := 0) (lt := 0) (ib := false) (rw := 0) (cl := 0) (nu := 0) (tv := tv) (tm := 16) (ta := fun _ => 0) (ml := 0) (tn := 0) (R := []) (k := k) (i := i) (j := j) hk hi hj h.2.1 hv2 hho
  simp only [saU_lo hk, va_up_e, va_up2] at h3
  exact h3.weak (fun r W2 h2 => ⟨h2.1.trans (by first | (simp only [ek, tK, tO, kd_n]; done) | rfl), _, _, _, _, _, _, _, _, (by first | (simp only [ek, tK, tO, kd_n]; exact h.save.up hk rfl rfl (sv_same hk)) | exact h.save.up hk rfl rfl (sv_same hk)), h2.2⟩)

set_option maxHeartbeats 1000000 in
theorem l_lose (l : Launch) (D : va_G) (cy : Nat → ClassId) (ad : Nat → Nat) (tv : Nat) (cs : Nat → Cd) (hs : List (Nat → Cd)) (k i j : Nat) (hk : k < 3) (hi : i < 8) (hj : j < 8) (hv : (cs k).2.2 < 4) (hho : hoB (cs k).1 (cs k).2.1 (sbB (cs k).2.2) (scN (cs k).2.2 i j) = true) : GL l D cy ad tv yX4_lose cX4_lose 6 (some .int) 3 [.ref (ad 0), .int (nI k), .int (nI i), .int (nI j)] cs hs (.int (nI (kdN (shF (cs k).1 (sbB (cs k).2.2) (scN (cs k).2.2 i j) false) (shB (cs k).2.1 (sbB (cs k).2.2) (scN (cs k).2.2 i j) false) (scN (cs k).2.2 i j)))) (va_up cs k (shF (cs k).1 (sbB (cs k).2.2) (scN (cs k).2.2 i j) false, shB (cs k).2.1 (sbB (cs k).2.2) (scN (cs k).2.2 i j) false, (cs k).2.2)) (ps cs hs) := by
  intro fr bk vw kp tk to fk fo h
  have ek := h.at hk
  have hv2 : vw k < 4 := by rw [ek] at hv; exact hv
  rw [ek] at hho
  have h3 := c_X4_lose l D cy (ad := ad) (fr := fr) (bk := bk) (vw := vw) (tk := tk) (to := to) (fk := fk) (fo := fo) (kp := kp) (sp := 0) (lt := 0) (ib := false) (rw := 0) (cl := 0) (nu := 0) (tv := tv) (tm := 16) (ta := fun _ => 0) (ml := 0) (tn := 0) (R := []) (k := k) (i := i) (j := j) hk hi hj h.2.1 hv2 hho
  simp only [saU_lo hk, va_up_e, va_up2] at h3
  exact h3.weak (fun r W2 h2 => ⟨h2.1.trans (by first | (simp only [ek, tK, tO, kd_n]; done) | rfl), _, _, _, _, _, _, _, _, (by first | (simp only [ek, tK, tO, kd_n]; exact h.save.up hk rfl rfl (sv_same hk)) | exact h.save.up hk rfl rfl (sv_same hk)), h2.2⟩)
theorem l_savedStates (l : Launch) (D : va_G) (cy : Nat → ClassId) (ad : Nat → Nat) (tv : Nat) (cs : Nat → Cd) (hs : List (Nat → Cd)) : GL l D cy ad tv yX4_savedStates cX4_savedStates 1 (some .int) 0 [.ref (ad 0)] cs hs (.int (nI hs.length)) cs hs := by
  intro fr bk vw kp tk to fk fo h
  have h3 := c_X4_savedStates l D cy (ad := ad) (fr := fr) (bk := bk) (vw := vw) (tk := tk) (to := to) (fk := fk) (fo := fo) (kp := kp) (sp := 0) (lt := 0) (ib := false) (rw := 0) (cl := 0) (nu := 0) (tv := tv) (tm := 16) (ta := fun _ => 0) (ml := 0) (tn := 0) (R := [])
  exact h3.weak (fun r W2 h2 => ⟨h2.1.trans (by rw [h.1]), _, _, _, _, _, _, _, _, h, h2.2⟩)
theorem l_undo (l : Launch) (D : va_G) (cy : Nat → ClassId) (ad : Nat → Nat) (tv : Nat) (cs : Nat → Cd) (hs : List (Nat → Cd)) (c : Nat → Cd) : GL l D cy ad tv yX4_undo cX4_undo 1 (some .int) 2 [.ref (ad 0)] cs (c :: hs) (.int (nI hs.length)) c hs := by
  intro fr bk vw kp tk to fk fo h
  have e := h.1
  rw [List.length_cons] at e
  have h3 := c_X4_undo l D cy (ad := ad) (fr := fr) (bk := bk) (vw := vw) (tk := tk) (to := to) (fk := fk) (fo := fo) (kp := kp) (sp := 0) (lt := 0) (ib := false) (rw := 0) (cl := 0) (nu := 0) (tv := tv) (tm := 16) (ta := fun _ => 0) (ml := 0) (tn := 0) (R := []) h.2.1 (by omega)
  exact h3.weak (fun r W2 h2 => ⟨h2.1.trans (by rw [show kp - 1 = hs.length by omega]), _, _, _, _, _, _, _, _, h.undo, h2.2⟩)
theorem l_digest (l : Launch) (D : va_G) (cy : Nat → ClassId) (ad : Nat → Nat) (tv : Nat) (cs : Nat → Cd) (hs : List (Nat → Cd)) (hv : Vk cs) : GL l D cy ad tv yX4_digest cX4_digest 6 (some .long) 6 [.ref (ad 0)] cs hs (.long (dgC cs)) cs hs := by
  intro fr bk vw kp tk to fk fo h
  have h3 := c_X4_digest l D cy (ad := ad) (fr := fr) (bk := bk) (vw := vw) (tk := tk) (to := to) (fk := fk) (fo := fo) (kp := kp) (sp := 0) (lt := 0) (ib := false) (rw := 0) (cl := 0) (nu := 0) (tv := tv) (tm := 16) (ta := fun _ => 0) (ml := 0) (tn := 0) (R := []) (fun k hk => by have hh := hv k hk; rw [h.at hk] at hh; exact hh)
  exact h3.weak (fun r W2 h2 => ⟨h2.1.trans (by unfold dgC; simp only [dgH, h.at (show 0 < 3 by decide), h.at (show 1 < 3 by decide), h.at (show 2 < 3 by decide)]), _, _, _, _, _, _, _, _, h, h2.2⟩)
