/-- a flow of the reference as a reduced fraction -/
theorem frac_ok {f : Nat → Int32} {d N q a b : Nat} (ha : a < 2 ^ 63) (hb : b < 2 ^ 63) (h0 : 0 < b) (h1 : fuM f d N q = lN a) (h2 : flM f d N q = lN b) : fOk f d N q ∧ uqM f d N q = lN (a / Nat.gcd a b) ∧ lqM f d N q = lN (b / Nat.gcd a b) ∧ 0 < b / Nat.gcd a b := by
  obtain ⟨g1, g2⟩ := gd_200 ha hb
  have hg : fgM f d N q = lN (Nat.gcd a b) := by unfold fgM; rw [h1, h2]; exact g2
  have hp : 0 < Nat.gcd a b := Nat.gcd_pos_of_pos_right _ h0
  have hl : Nat.gcd a b ≤ b := Nat.gcd_le_right _ h0
  refine ⟨⟨by rw [h1, h2]; exact g1, by rw [hg]; exact lN_ne (by omega) hp⟩, ?_, ?_, Nat.div_pos hl hp⟩
  · unfold uqM; rw [hg, h1, pk_lDiv ha hp (by omega)]
  · unfold lqM; rw [hg, h2, pk_lDiv hb hp (by omega)]
