/-! ties between the two sides' numbers -/
theorem cnt_or {p q r : Nat → Bool} : ∀ {n : Nat}, (∀ k, k < n → (p k = true → q k = true → False) ∧ r k = (p k || q k)) → cnt p n + cnt q n = cnt r n
  | 0, _ => rfl
  | n + 1, h => by
    have ih := cnt_or (p := p) (q := q) (r := r) (n := n) (fun k hk => h k (Nat.lt_succ_of_lt hk))
    obtain ⟨h1, h2⟩ := h n (Nat.lt_succ_self n)
    show cnt p n + (if p n = true then 1 else 0) + (cnt q n + (if q n = true then 1 else 0)) = cnt r n + (if r n = true then 1 else 0)
    rw [h2]
    cases hp : p n <;> cases hq : q n
    · simp; omega
    · simp; omega
    · simp; omega
    · exact (h1 hp hq).elim
theorem sd_kd {f b : Int64} (k : Nat) : tb (sdW f b) k = (decide (kdI f b k = 0) || decide (kdI f b k = 1)) := by
  unfold sdW kdI; rw [tb_xor]; cases tb f k <;> cases tb b k <;> decide
theorem cu_sd (f b : Int64) : cuN f b 0 + cuN f b 1 = pc (sdW f b) := cnt_or (fun k _ => ⟨fun h1 h2 => by
  rw [of_decide_eq_true h1] at h2
  exact absurd (of_decide_eq_true h2) (by decide), sd_kd k⟩)
