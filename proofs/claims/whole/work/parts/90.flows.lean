/-! flows, recovery, grade: class and reference alike -/
theorem ctQ_eq2 {a b : Nat} (hb : 0 < b) (hb2 : 10 * b < 2 ^ 63) (ha : a < 2 ^ 63) : ∀ i, ctQ (lN a) (lN b) i = (lN (a * 10 ^ i / b), lN (a * 10 ^ i % b))
  | 0 => by
    rw [Nat.pow_zero, Nat.mul_one]
    rw [ctQ, pk_lRem ha hb (by omega), pk_lDiv ha hb (by omega)]
  | i + 1 => by
    have e : a * 10 ^ (i + 1) = a * 10 ^ i * 10 := by rw [Nat.pow_succ, Nat.mul_assoc]
    have ih := ctQ_eq2 (a := a) hb hb2 ha i
    have hm : a * 10 ^ i % b < b := Nat.mod_lt _ hb
    have hx := Nat.div_add_mod (a * 10 ^ i) b
    rw [ctQ, ih, fa_litL 10]
    simp only
    rw [lN_mul, lN_mul, pk_lDiv (by omega) hb (by omega), lN_add, lN_mul, lN_sub (Nat.div_mul_le_self _ _), e]
    have h1 : a * 10 ^ i * 10 = b * (10 * (a * 10 ^ i / b)) + a * 10 ^ i % b * 10 := by
      have h0 : b * (10 * (a * 10 ^ i / b)) = 10 * (b * (a * 10 ^ i / b)) := Nat.mul_left_comm _ _ _
      rw [h0]
      generalize a * 10 ^ i = X at hx ⊢
      generalize b * (X / b) = Y at hx ⊢
      omega
    have h2 : a * 10 ^ i * 10 / b = 10 * (a * 10 ^ i / b) + a * 10 ^ i % b * 10 / b := by rw [h1, Nat.mul_add_div hb]
    have h3 : a * 10 ^ i * 10 % b = a * 10 ^ i % b * 10 % b := by rw [h1, Nat.mul_add_mod]
    rw [h2, h3]
    have h4 := Nat.div_add_mod (a * 10 ^ i % b * 10) b
    rw [Nat.mul_comm] at h4
    rw [show a * 10 ^ i % b * 10 - a * 10 ^ i % b * 10 / b * b = a * 10 ^ i % b * 10 % b by omega]
/-- a cut fraction doesn't know its common divisor -/
theorem cut_red {a b k : Nat} (hb : 0 < b) (p : Nat) (hp : 0 < p) : a / Nat.gcd a b * k / (b / Nat.gcd a b * p) = a * k / (b * p) := by
  have hg : 0 < Nat.gcd a b := Nat.gcd_pos_of_pos_right _ hb
  obtain ⟨x, hx⟩ := Nat.gcd_dvd_left a b
  obtain ⟨y, hy⟩ := Nat.gcd_dvd_right a b
  generalize hgg : Nat.gcd a b = G at hg hx hy
  rw [hx, hy, Nat.mul_div_cancel_left _ hg, Nat.mul_div_cancel_left _ hg, Nat.mul_assoc, Nat.mul_assoc, Nat.mul_div_mul_left _ _ hg]
theorem red_100 (a b : Nat) : 100 * a / Nat.gcd (100 * a) (100 * b) = a / Nat.gcd a b ∧ 100 * b / Nat.gcd (100 * a) (100 * b) = b / Nat.gcd a b := by
  rw [Nat.gcd_mul_left]
  exact ⟨Nat.mul_div_mul_left _ _ (by decide), Nat.mul_div_mul_left _ _ (by decide)⟩
section
variable {f g : Nat → Int32} {N fc : Nat} {w r t : Nat → Nat}
theorem RS.natD (h : RS f g N fc w r t) {d : Nat} (hd : d < 2) : ∃ D : Nat, D ≤ 1000000000000 ∧ XX 7 8 (qD N r t d) = (D : Int) ∧ DD f d N (fun k => tq N (t k)) = lN D := by
  obtain ⟨h1, h2⟩ := h.den_ok hd
  obtain ⟨D, hD⟩ := Int.eq_ofNat_of_zero_le h1
  exact ⟨D, by omega, hD, by rw [h.den hd, hD, oi_n]⟩
theorem RS.pos (h : RS f g N fc w r t) {d : Nat} (hd : d < 2) : 0 < DD f d N (fun k => tq N (t k)) ↔ SM g N d := by
  obtain ⟨D, h1, h2, h3⟩ := h.natD hd
  rw [h.steady hd, h2, h3]
  have := pk_lLT (a := 0) (b := D) (by omega) (by omega)
  exact this.trans (by omega)
theorem RS.flow (h : RS f g N fc w r t) {d to : Nat} (hd : d < 2) (hto : to < N ∨ to = 8 ∨ to = 9) (hs : SM g N d) : fOk g d N to ∧ rnF (f (2 + d)).toInt64 (NN f d to (tq N fc) N (fun k => tq N (t k))) (DD f d N (fun k => tq N (t k))) = uqM g d N to ∧ rdenF (f (2 + d)).toInt64 (NN f d to (tq N fc) N (fun k => tq N (t k))) (DD f d N (fun k => tq N (t k))) = lqM g d N to := by
  obtain ⟨D, h1, h2, h3⟩ := h.natD hd
  obtain ⟨w1, w2, w3⟩ := h.2.2.2.2.1 d hd
  have hp : 0 < D := by have := (h.steady hd).mp hs; omega
  have hU : 0 ≤ nuI N fc r t d to ∧ nuI N fc r t d to ≤ 100000000000000 := by
    rcases hto with z | z
    · exact h.num_c hd z
    · have := h.num_p hd z; omega
  obtain ⟨U, hU2⟩ := Int.eq_ofNat_of_zero_le hU.1
  have hU3 : U ≤ 100000000000000 := by omega
  have hwU : w d * U ≤ 999 * 100000000000000 := Nat.mul_le_mul w1 hU3
  rw [w2, nI_l (by omega), h.num hd hto, h3, hU2, oi_n]
  have key : fOk g d N to ∧ uqM g d N to = lN (w d * U / Nat.gcd (w d * U) D) ∧ lqM g d N to = lN (D / Nat.gcd (w d * U) D) := by
    by_cases z : to < N
    · obtain ⟨u1, u2⟩ := h.up_c hd z
      rw [hU2, ← Int.natCast_mul, oi_n] at u1
      rw [h2, oi_n] at u2
      obtain ⟨k1, k2, k3, k4⟩ := frac_ok (by omega) (by omega) hp u1 u2
      exact ⟨k1, k2, k3⟩
    · have z2 : to = 8 ∨ to = 9 := by omega
      have hU4 := (h.num_p hd z2).2
      have hUD : w d * U ≤ 999 * 1000000000000 := Nat.mul_le_mul w1 (by omega)
      obtain ⟨u1, u2⟩ := h.up_p hd z2
      rw [hU2, show (100 : Int) * (w d : Int) * (U : Int) = ((100 * (w d * U) : Nat) : Int) by rw [Int.natCast_mul, Int.natCast_mul, Int.mul_assoc]; rfl, oi_n] at u1
      rw [h2, show (D : Int) * 100 = ((100 * D : Nat) : Int) by omega, oi_n] at u2
      obtain ⟨k1, k2, k3, k4⟩ := frac_ok (by omega) (by omega) (by omega) u1 u2
      obtain ⟨r1, r2⟩ := red_100 (w d * U) D
      rw [r1] at k2
      rw [r2] at k3
      exact ⟨k1, k2, k3⟩
  obtain ⟨g1, g2⟩ := gd_200 (a := w d * U) (b := D) (by omega) (by omega)
  have hg : 0 < Nat.gcd (w d * U) D := Nat.gcd_pos_of_pos_right _ hp
  have hg2 : Nat.gcd (w d * U) D ≤ D := Nat.gcd_le_right _ hp
  have hg3 : (0 : Int64) < lN (Nat.gcd (w d * U) D) := (pk_lLT (a := 0) (by omega) (by omega)).mpr hg
  refine ⟨key.1, ?_, ?_⟩
  · unfold rnF
    rw [key.2.1, lN_mul, g2, if_pos hg3, pk_lDiv (by omega) hg (by omega)]
  · unfold rdenF
    rw [key.2.2, lN_mul, g2, if_pos hg3, pk_lDiv (by omega) hg (by omega)]
/-- the flow to the concentrate, in naturals -/
theorem RS.conc (h : RS f g N fc w r t) {d : Nat} (hd : d < 2) (hs : SM g N d) : ∃ U D : Nat, 0 < D ∧ D ≤ 1000000000000 ∧ U ≤ D ∧ w d ≤ 999 ∧ DD f d N (fun k => tq N (t k)) = lN D ∧ NN f d 8 (tq N fc) N (fun k => tq N (t k)) = lN U ∧ fOk g d N 8 ∧ uqM g d N 8 = lN (w d * U / Nat.gcd (w d * U) D) ∧ lqM g d N 8 = lN (D / Nat.gcd (w d * U) D) := by
  obtain ⟨D, h1, h2, h3⟩ := h.natD hd
  obtain ⟨w1, w2, w3⟩ := h.2.2.2.2.1 d hd
  have hp : 0 < D := by have := (h.steady hd).mp hs; omega
  have hU := h.num_p (to := 8) hd (Or.inl rfl)
  obtain ⟨U, hU2⟩ := Int.eq_ofNat_of_zero_le hU.1
  have hU3 : U ≤ D := by omega
  have hwU : w d * U ≤ 999 * 1000000000000 := Nat.mul_le_mul w1 (by omega)
  refine ⟨U, D, hp, h1, hU3, w1, h3, by rw [h.num hd (Or.inr (Or.inl rfl)), hU2, oi_n], ?_⟩
  obtain ⟨u1, u2⟩ := h.up_p (to := 8) hd (Or.inl rfl)
  rw [hU2, show (100 : Int) * (w d : Int) * (U : Int) = ((100 * (w d * U) : Nat) : Int) by rw [Int.natCast_mul, Int.natCast_mul, Int.mul_assoc]; rfl, oi_n] at u1
  rw [h2, show (D : Int) * 100 = ((100 * D : Nat) : Int) by omega, oi_n] at u2
  obtain ⟨k1, k2, k3, k4⟩ := frac_ok (by omega) (by omega) (by omega) u1 u2
  obtain ⟨r1, r2⟩ := red_100 (w d * U) D
  rw [r1] at k2
  rw [r2] at k3
  exact ⟨k1, k2, k3⟩
theorem RS.rec (h : RS f g N fc w r t) (hs : SM g N 0) : rOk g N ∧ recF (f 2) (NN f 0 8 (tq N fc) N (fun k => tq N (t k))) (DD f 0 N (fun k => tq N (t k))) = recM g N := by
  obtain ⟨U, D, hp, hD, hU, hw, e1, e2, e3, e4, e5⟩ := h.conc (d := 0) (by decide) hs
  obtain ⟨w1, w2, w3⟩ := h.2.2.2.2.1 0 (by decide)
  rw [Nat.add_zero] at w2 w3
  have hwU : w 0 * U ≤ 999 * 1000000000000 := Nat.mul_le_mul w1 (by omega)
  have hg : 0 < Nat.gcd (w 0 * U) D := Nat.gcd_pos_of_pos_right _ hp
  have hq : D / Nat.gcd (w 0 * U) D ≤ D := Nat.div_le_self _ _
  have hq2 : 0 < D / Nat.gcd (w 0 * U) D := Nat.div_pos (Nat.gcd_le_right _ hp) hg
  have hqw : D / Nat.gcd (w 0 * U) D * w 0 ≤ 1000000000000 * 999 := Nat.mul_le_mul (by omega) w1
  unfold rOk recF recM
  rw [w2, w3, e1, e2, e4, e5]
  have hD0 : (0 : Int64) < lN D := (pk_lLT (a := 0) (by omega) (by omega)).mpr hp
  by_cases z : w 0 = 0
  · rw [z]
    refine ⟨fun y => absurd rfl y, ?_⟩
    rw [if_neg (fun y => absurd y.1 (by decide)), if_pos (show nI 0 = 0 from nI_0)]
  · have hw0 : ¬ nI (w 0) = 0 := nI_ne0 (by omega) (by omega)
    have hw1 : (0 : Int32) < nI (w 0) := (nI_ltI (a := 0) (by omega) (by omega)).mpr (by omega)
    have hpw : 0 < D / Nat.gcd (w 0 * U) D * w 0 := Nat.mul_pos hq2 (by omega)
    refine ⟨fun _ => ⟨e3, ?_⟩, ?_⟩
    · rw [nI_l (by omega), lN_mul]
      exact lN_ne (by omega) hpw
    · rw [if_pos ⟨hw1, hD0⟩, if_neg hw0, nI_l (by omega), lN_mul, ctQ_eq2 hpw (by omega) (by have := Nat.div_le_self (w 0 * U) (Nat.gcd (w 0 * U) D); omega), show (1000 : Int64) = lN 1000 from rfl, lN_mul, pk_lDiv (by omega) hp (by omega), lN_i, lN_i]
      rw [cut_red hp (w 0) (by omega)]
      rw [show w 0 * U * 10 ^ 3 = w 0 * (1000 * U) by rw [Nat.mul_assoc, Nat.mul_comm U], Nat.mul_comm D, Nat.mul_div_mul_left _ _ (by omega)]
theorem RS.mil (h : RS f g N fc w r t) {d : Nat} (hd : d < 2) (hs : SM g N d) : ∃ m : Nat, m ≤ 999000000 ∧ milF (f (2 + d)) (NN f d 8 (tq N fc) N (fun k => tq N (t k))) (DD f d N (fun k => tq N (t k))) = lN m ∧ gAM g d N = lN m ∧ fOk g d N 8 ∧ ¬ lqM g d N 8 = 0 := by
  obtain ⟨U, D, hp, hD, hU, hw, e1, e2, e3, e4, e5⟩ := h.conc hd hs
  obtain ⟨w1, w2, w3⟩ := h.2.2.2.2.1 d hd
  have hwU : w d * U ≤ 999 * 1000000000000 := Nat.mul_le_mul w1 (by omega)
  have hwD : w d * U ≤ 999 * D := Nat.mul_le_mul w1 hU
  have hg : 0 < Nat.gcd (w d * U) D := Nat.gcd_pos_of_pos_right _ hp
  have hq : D / Nat.gcd (w d * U) D ≤ D := Nat.div_le_self _ _
  have hq2 : 0 < D / Nat.gcd (w d * U) D := Nat.div_pos (Nat.gcd_le_right _ hp) hg
  have hb : w d * U * 10 ^ 6 / D ≤ 999000000 := by
    have h1 : w d * U * 10 ^ 6 ≤ 999000000 * D := by
      have : w d * U * 10 ^ 6 ≤ 999 * D * 10 ^ 6 := Nat.mul_le_mul_right _ hwD
      rw [show (10 : Nat) ^ 6 = 1000000 from rfl] at this ⊢
      omega
    have h2 := Nat.div_le_div_right (c := D) h1
    rw [Nat.mul_div_cancel _ hp] at h2
    exact h2
  refine ⟨w d * U * 10 ^ 6 / D, hb, ?_, ?_, e3, ?_⟩
  · unfold milF
    have hD0 : (0 : Int64) < lN D := (pk_lLT (a := 0) (by omega) (by omega)).mpr hp
    have hm : w d * U % D < D := Nat.mod_lt _ hp
    rw [w2, e1, e2, if_pos hD0, nI_l (by omega), lN_mul, pk_lRem (by omega) hp (by omega), pk_lDiv (by omega) hp (by omega), show (1000000 : Int64) = lN 1000000 from rfl, lN_mul, lN_mul, pk_lDiv (by omega) hp (by omega), lN_add]
    refine congrArg lN ?_
    have hx := Nat.div_add_mod (w d * U) D
    have e : w d * U * 10 ^ 6 = D * (1000000 * (w d * U / D)) + 1000000 * (w d * U % D) := by
      have h0 : D * (1000000 * (w d * U / D)) = 1000000 * (D * (w d * U / D)) := Nat.mul_left_comm _ _ _
      rw [h0]
      generalize w d * U = X at hx ⊢
      generalize D * (X / D) = Y at hx ⊢
      omega
    rw [e, Nat.mul_add_div hp]
  · unfold gAM
    rw [e4, e5, ctQ_eq2 hq2 (by omega) (by have := Nat.div_le_self (w d * U) (Nat.gcd (w d * U) D); omega)]
    have := cut_red (a := w d * U) (k := 10 ^ 6) hp 1 (by decide)
    rw [Nat.mul_one, Nat.mul_one] at this
    rw [this]
  · rw [e5]; exact lN_ne (by omega) hq2
theorem RS.gra (h : RS f g N fc w r t) (hs0 : SM g N 0) (hs1 : SM g N 1) : gOk g N ∧ graF (f 2) (f 3) (NN f 0 8 (tq N fc) N (fun k => tq N (t k))) (DD f 0 N (fun k => tq N (t k))) (NN f 1 8 (tq N fc) N (fun k => tq N (t k))) (DD f 1 N (fun k => tq N (t k))) = graM g N := by
  obtain ⟨m, m1, m2, m3, m4, m5⟩ := h.mil (d := 0) (by decide) hs0
  obtain ⟨n, n1, n2, n3, n4, n5⟩ := h.mil (d := 1) (by decide) hs1
  rw [Nat.add_zero] at m2
  refine ⟨⟨⟨m4, m5⟩, n4, n5⟩, ?_⟩
  unfold graF graM
  rw [show f 3 = f (2 + 1) from rfl, m2, n2, m3, n3, lN_add]
  by_cases z : m + n = 0
  · rw [z, if_neg (by decide), if_pos (by decide)]
  · have hz : (0 : Int64) < lN (m + n) := (pk_lLT (a := 0) (b := m + n) (by omega) (by omega)).mpr (by omega)
    rw [if_pos hz, if_neg (lN_ne (by omega) (by omega))]
end
