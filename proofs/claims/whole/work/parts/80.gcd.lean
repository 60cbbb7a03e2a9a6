theorem lN_ne {b : Nat} (hb : b < 2 ^ 63) (h0 : 0 < b) : ¬ lN b = 0 := fun z => by
  have := (pk_lEQ (a := b) (b := 0) hb (by omega)).mp z
  omega
theorem gd_stop : ∀ (k a b : Nat), a < 2 ^ 63 → b < 2 ^ 63 → b < 2 ^ k → gdZ (2 * k) (lN a) (lN b) ∧ gdF (2 * k) (lN a) (lN b) = lN (Nat.gcd a b)
  | 0, a, b, ha, hb, h => by
    obtain rfl : b = 0 := by simp at h; exact h
    exact ⟨rfl, by rw [Nat.gcd_zero_right]; rfl⟩
  | k + 1, a, b, ha, hb, h => by
    rw [show 2 * (k + 1) = 2 * k + 1 + 1 from rfl, gdZ, gdF]
    by_cases e : b = 0
    · subst e
      exact ⟨Or.inl rfl, by rw [if_pos (show lN 0 = 0 from rfl), Nat.gcd_zero_right]⟩
    · have hne := lN_ne hb (by omega)
      rw [if_neg hne, pk_lRem ha (by omega) hb, gdZ, gdF]
      have hr : a % b < b := Nat.mod_lt _ (by omega)
      by_cases e2 : a % b = 0
      · rw [e2]
        refine ⟨Or.inr (Or.inl rfl), ?_⟩
        rw [if_pos (show lN 0 = 0 from rfl), Nat.gcd_comm, Nat.gcd_rec, e2, Nat.gcd_zero_left]
      · have hne2 := lN_ne (b := a % b) (by omega) (by omega)
        rw [if_neg hne2, pk_lRem hb (by omega) (by omega)]
        have hr2 : b % (a % b) < a % b := Nat.mod_lt _ (by omega)
        have hr3 : b % (a % b) + a % b ≤ b := by
          have h1 := Nat.div_add_mod b (a % b)
          have h2 : 1 ≤ b / (a % b) := (Nat.one_le_div_iff (by omega)).mpr (by omega)
          have h3 : a % b * 1 ≤ a % b * (b / (a % b)) := Nat.mul_le_mul_left _ h2
          omega
        rw [Nat.pow_succ] at h
        obtain ⟨i1, i2⟩ := gd_stop k (a % b) (b % (a % b)) (by omega) (by omega) (by omega)
        refine ⟨Or.inr (Or.inr i1), ?_⟩
        rw [i2, Nat.gcd_comm, ← Nat.gcd_rec, ← Nat.gcd_rec, Nat.gcd_comm]
theorem gdZ_mono : ∀ (n m : Nat) (a b : Int64), gdZ n a b → gdZ (n + m) a b ∧ gdF (n + m) a b = gdF n a b
  | 0, m, a, b, h => by
    rw [gdZ] at h
    subst h
    cases m with
    | zero => exact ⟨rfl, rfl⟩
    | succ m => rw [Nat.zero_add, gdZ, gdF, gdF, if_pos rfl]; exact ⟨Or.inl rfl, rfl⟩
  | n + 1, m, a, b, h => by
    rw [show n + 1 + m = n + m + 1 by omega, gdZ, gdF, gdF]
    rw [gdZ] at h
    by_cases e : b = 0
    · rw [if_pos e, if_pos e]; exact ⟨Or.inl e, rfl⟩
    · rw [if_neg e, if_neg e]
      obtain ⟨i1, i2⟩ := gdZ_mono n m b _ (h.resolve_left e)
      exact ⟨Or.inr i1, i2⟩
/-- two hundred rounds are enough -/
theorem gd_200 {a b : Nat} (ha : a < 2 ^ 63) (hb : b < 2 ^ 63) : gdZ 200 (lN a) (lN b) ∧ gdF 200 (lN a) (lN b) = lN (Nat.gcd a b) := by
  obtain ⟨h1, h2⟩ := gd_stop 63 a b ha hb hb
  obtain ⟨h3, h4⟩ := gdZ_mono (2 * 63) 74 _ _ h1
  exact ⟨h3, h4.trans h2⟩
theorem ctQ_eq {a b : Nat} (hb : 0 < b) (hb2 : 10 * b < 2 ^ 63) : ∀ i, a * 10 ^ i < 2 ^ 63 → ctQ (lN a) (lN b) i = (lN (a * 10 ^ i / b), lN (a * 10 ^ i % b))
  | 0, h => by
    rw [Nat.pow_zero, Nat.mul_one] at h ⊢
    rw [ctQ, pk_lRem h hb (by omega), pk_lDiv h hb (by omega)]
  | i + 1, h => by
    have e : a * 10 ^ (i + 1) = a * 10 ^ i * 10 := by rw [Nat.pow_succ, Nat.mul_assoc]
    have ih := ctQ_eq (a := a) hb hb2 i (by omega)
    have hm : a * 10 ^ i % b < b := Nat.mod_lt _ hb
    have hx := Nat.div_add_mod (a * 10 ^ i) b
    rw [ctQ, ih, fa_litL 10]
    simp only
    rw [lN_mul, lN_mul, pk_lDiv (by omega) hb (by omega), lN_add, lN_mul, lN_sub (Nat.div_mul_le_self _ _), e]
    have h1 : a * 10 ^ i * 10 = b * (10 * (a * 10 ^ i / b)) + a * 10 ^ i % b * 10 := by
      have h0 : b * (10 * (a * 10 ^ i / b)) = 10 * (b * (a * 10 ^ i / b)) := Nat.mul_left_comm _ _ _
      rw [h0]
      generalize a * 10 ^ i = X at hx ⊢
      generalize b * (X / b) = Y at hx ⊢
      omega
    have h2 : a * 10 ^ i * 10 / b = 10 * (a * 10 ^ i / b) + a * 10 ^ i % b * 10 / b := by rw [h1, Nat.mul_add_div hb]
    have h3 : a * 10 ^ i * 10 % b = a * 10 ^ i % b * 10 % b := by rw [h1, Nat.mul_add_mod]
    rw [h2, h3]
    have h4 := Nat.div_add_mod (a * 10 ^ i % b * 10) b
    rw [Nat.mul_comm] at h4
    rw [show a * 10 ^ i % b * 10 - a * 10 ^ i % b * 10 / b * b = a * 10 ^ i % b * 10 % b by omega]
