/-! the whole row; a step of the simulation -/
def RC (f g : Nat → Int32) (N : Nat) : Prop := (∀ k, k < 2 * N → f (28 + k) = g (28 + k)) ∧ (∀ k, 2 * N ≤ k → k < 12 → g (28 + k) = 0) ∧ (∀ k, k < 4 → f (40 + k) = g (40 + k))
def RR (f g : Nat → Int32) (N fc : Nat) (w r t : Nat → Nat) : Prop := RS f g N fc w r t ∧ RC f g N
/-- what arrives at a place, after i cells -/
def cA (hl lf : Nat → Int32) (tg : Nat → Nat) : Nat → Nat → Int32
  | 0, _ => 0
  | i + 1, j => cA hl lf tg i j + (if tg (2 * i) = j then lf i else 0) + (if tg (2 * i + 1) = j then hl i - lf i else 0)
theorem cA_congr {hl lf hl2 lf2 : Nat → Int32} {tg : Nat → Nat} : ∀ i, (∀ c, c < i → hl c = hl2 c ∧ lf c = lf2 c) → ∀ j, cA hl lf tg i j = cA hl2 lf2 tg i j := by
  intro i
  induction i with
  | zero => intro _ j; rfl
  | succ i ih =>
    intro h j
    rw [cA, cA, ih (fun c hc => h c (by omega)) j, (h i (by omega)).1, (h i (by omega)).2]
theorem cA_0 {hl lf : Nat → Int32} {tg : Nat → Nat} {j : Nat} : ∀ i, (∀ k, k < 2 * i → ¬ tg k = j) → cA hl lf tg i j = 0 := by
  intro i
  induction i with
  | zero => intro _; rfl
  | succ i ih =>
    intro h
    rw [cA, ih (fun k hk => h k (by omega)), if_neg (h _ (by omega)), if_neg (h _ (by omega))]
    rfl
theorem upd_self (f : Nat → Int32) (k : Nat) (x : Int32) : upd f k x k = x := by simp only [upd, if_pos]
theorem mvA_at {f : Nat → Int32} {d ft : Nat} {tg : Nat → Nat} (hft : ft < 10) : ∀ i, (∀ k, k < 2 * i → tg k < 10) → ∀ j, j < 10 → mvA f z0 d ft tg i j = (if ft = j then f (2 + d) else 0) + cA (fun c => f (28 + 2 * c + d)) (fun c => lifF (f (28 + 2 * c + d)) (f (4 + 2 * c + d))) tg i j := by
  intro i
  induction i with
  | zero =>
    intro _ j hj
    rw [mvA, mv0, cA, Int32.add_zero]
    have e : ∀ k, k < 10 → filF z0 0 10 k = 0 := fun k hk => by unfold filF; rw [if_pos hk]
    by_cases z : ft = j
    · rw [if_pos z, ← z, upd_self, e ft hft, Int32.zero_add]
    · rw [if_neg z, pk_un (fun y => z y.symm), e j hj]
  | succ i ih =>
    intro ht j hj
    have ih2 := ih (fun k hk => ht k (by omega))
    rw [mvA, mv1, cA]
    have e0 := ih2 (tg (2 * i)) (ht _ (by omega))
    have e1 := ih2 (tg (2 * i + 1)) (ht _ (by omega))
    have ej := ih2 j hj
    generalize mvA f z0 d ft tg i = A at *
    by_cases z1 : tg (2 * i + 1) = j
    · rw [if_pos z1, z1, upd_self]
      by_cases z0' : tg (2 * i) = j
      · rw [if_pos z0', z0', upd_self, ej]
        simp only [Int32.add_assoc]
      · rw [if_neg z0', pk_un (fun y => z0' y.symm), ej, Int32.add_zero]
        simp only [Int32.add_assoc]
    · rw [if_neg z1, pk_un (fun y => z1 y.symm), Int32.add_zero]
      by_cases z0' : tg (2 * i) = j
      · rw [if_pos z0', z0', upd_self, ej]
        simp only [Int32.add_assoc]
      · rw [if_neg z0', pk_un (fun y => z0' y.symm), ej, Int32.add_zero]
theorem mvH_at (f a : Nat → Int32) (d : Nat) (hd : d < 2) : ∀ i c, c < i → mvH f a d i (28 + 2 * c + d) = a c := by
  intro i
  induction i with
  | zero => intro c hc; omega
  | succ i ih =>
    intro c hc
    rw [mvH]
    by_cases z : c = i
    · rw [z, upd_self]
    · rw [pk_un (by omega)]; exact ih c (by omega)
theorem mvH_ne (f a : Nat → Int32) (d : Nat) {j : Nat} : ∀ i, (∀ c, c < i → ¬ j = 28 + 2 * c + d) → mvH f a d i j = f j := by
  intro i
  induction i with
  | zero => intro _; rfl
  | succ i ih =>
    intro h
    rw [mvH, pk_un (h i (by omega))]
    exact ih (fun c hc => h c (by omega))
theorem mvF_h {f ar : Nat → Int32} {d ft n : Nat} {tg : Nat → Nat} (hd : d < 2) (hn : n ≤ 6) {c : Nat} (hc : c < n) : mvF f ar d ft n tg (28 + 2 * c + d) = mvA f ar d ft tg n c := by
  unfold mvF mvC
  rw [pk_un (by omega), pk_un (by omega), mvH_at _ _ _ hd _ _ hc]
theorem mvF_8 {f ar : Nat → Int32} {d ft n : Nat} {tg : Nat → Nat} (hd : d < 2) (hn : n ≤ 6) : mvF f ar d ft n tg (40 + d) = f (40 + d) + mvA f ar d ft tg n 8 := by
  unfold mvF mvC
  rw [pk_un (by omega), show 40 + 2 * (8 - 8) + d = 40 + d by omega, upd_self, mvH_ne _ _ _ _ (fun c hc => by omega)]
theorem mvF_9 {f ar : Nat → Int32} {d ft n : Nat} {tg : Nat → Nat} (hd : d < 2) (hn : n ≤ 6) : mvF f ar d ft n tg (42 + d) = f (42 + d) + mvA f ar d ft tg n 9 := by
  unfold mvF mvC
  rw [show 42 + d = 40 + 2 * (9 - 8) + d by omega, upd_self, pk_un (by omega), mvH_ne _ _ _ _ (fun c hc => by omega)]
theorem mvF_o {f ar : Nat → Int32} {d ft n : Nat} {tg : Nat → Nat} {j : Nat} (h : ∀ c, c < n → ¬ j = 28 + 2 * c + d) (h8 : ¬ j = 40 + d) (h9 : ¬ j = 42 + d) : mvF f ar d ft n tg j = f j := by
  unfold mvF mvC
  rw [pk_un (by omega), pk_un (by omega), mvH_ne _ _ _ _ h]
theorem ixB_inj {j k d e : Nat} (hj : okG j) (hk : okG k) (hd : d < 2) (he : e < 2) (h : ixB j + d = ixB k + e) : j = k ∧ d = e := by
  unfold okG at hj hk
  unfold ixB at h
  split at h <;> split at h <;> omega
theorem brF_at {a : Nat → Int32} {t d j e : Nat} {x : Int32} (ht : okG t) (hj : okG j) (hd : d < 2) (he : e < 2) : brF a t d x (ixB j + e) = a (ixB j + e) + (if t = j ∧ d = e then x else 0) := by
  unfold brF
  by_cases z : t = j ∧ d = e
  · rw [if_pos z, z.1, z.2, upd_self]
  · rw [if_neg z, pk_un (fun y => z (by have := ixB_inj hj ht he hd y; exact ⟨this.1.symm, this.2.symm⟩)), Int32.add_zero]
theorem brF_lw {a : Nat → Int32} {t d j : Nat} {x : Int32} (ht : okG t) (hj : j < 28) : brF a t d x j = a j := by
  unfold brF
  rw [pk_un (by unfold okG at ht; unfold ixB; split <;> omega)]
theorem gsA_at {f a : Nat → Int32} {d : Nat} {tg : Nat → Nat} (hd : d < 2) : ∀ i, (∀ k, k < 2 * i → okG (tg k)) → ∀ j, okG j → gsA f a d tg i (ixB j + d) = a (ixB j + d) + cA (fun c => f (28 + 2 * c + d)) (fun c => lifF (f (28 + 2 * c + d)) (f (1 + 2 * c + d))) tg i j := by
  intro i
  induction i with
  | zero => intro _ j _; rw [gsA, cA, Int32.add_zero]
  | succ i ih =>
    intro ht j hj
    rw [gsA, brF_at (ht _ (by omega)) hj hd hd, brF_at (ht _ (by omega)) hj hd hd, ih (fun k hk => ht k (by omega)) j hj, cA]
    have e : ∀ (n : Nat) (x : Int32), (if n = j ∧ d = d then x else 0) = if n = j then x else 0 := fun n x => by
      by_cases z : n = j
      · rw [if_pos z, if_pos ⟨z, rfl⟩]
      · rw [if_neg z, if_neg (fun y => z y.1)]
    rw [e, e]
    simp only [Int32.add_assoc]
theorem gsA_ne {f a : Nat → Int32} {d e : Nat} {tg : Nat → Nat} (hd : d < 2) (he : e < 2) (hn : ¬ d = e) : ∀ i, (∀ k, k < 2 * i → okG (tg k)) → ∀ j, okG j → gsA f a d tg i (ixB j + e) = a (ixB j + e) := by
  intro i
  induction i with
  | zero => intro _ j _; rw [gsA]
  | succ i ih =>
    intro ht j hj
    rw [gsA, brF_at (ht _ (by omega)) hj hd he, brF_at (ht _ (by omega)) hj hd he, ih (fun k hk => ht k (by omega)) j hj, if_neg (fun y => hn y.2), if_neg (fun y => hn y.2), Int32.add_zero, Int32.add_zero]
theorem gsA_lw {f a : Nat → Int32} {d : Nat} {tg : Nat → Nat} {j : Nat} (hj : j < 28) : ∀ i, (∀ k, k < 2 * i → okG (tg k)) → gsA f a d tg i j = a j := by
  intro i
  induction i with
  | zero => intro _; rw [gsA]
  | succ i ih =>
    intro ht
    rw [gsA, brF_lw (ht _ (by omega)) hj, brF_lw (ht _ (by omega)) hj, ih (fun k hk => ht k (by omega))]
/-- a place of the reference after a step -/
theorem gsF_at {f : Nat → Int32} {ft N d j : Nat} {tg : Nat → Nat} (hft : okG ft) (ht : ∀ k, k < 2 * N → okG (tg k)) (hd : d < 2) (hj : okG j) : gsF f ft N tg (ixB j + d) = (if j < 8 then 0 else f (ixB j + d)) + cA (fun c => f (28 + 2 * c + d)) (fun c => lifF (f (28 + 2 * c + d)) (f (1 + 2 * c + d))) tg N j + (if ft = j then f (26 + d) else 0) := by
  have hl := ixB_lt hj hd
  have hb : zerF (va_cpy f f 0 0 44) 40 (ixB j + d) = if j < 8 then 0 else f (ixB j + d) := by
    unfold zerF
    unfold ixB at hl ⊢
    by_cases z : j < 8
    · rw [if_pos z, if_pos z]
      unfold okG at hj
      rw [if_pos (by omega)]
    · rw [if_neg z, if_neg z]
      rw [if_neg z] at hl
      rw [if_neg (by omega), cpy_at (by omega)]
  have e : ∀ (n a b : Nat) (x : Int32), a = b → (if n = j ∧ a = b then x else 0) = if n = j then x else 0 := fun n a b x hab => by
    by_cases z : n = j
    · rw [if_pos z, if_pos ⟨z, hab⟩]
    · rw [if_neg z, if_neg (fun y => z y.1)]
  unfold gsF
  rw [cpy_at hl.2]
  unfold gs2 gs1
  match d, hd with
  | 0, _ =>
    rw [brF_at hft hj (by decide) (by decide), if_neg (by omega), Int32.add_zero, gsA_ne (by decide) (by decide) (by decide) N ht j hj, brF_at hft hj (by decide) (by decide), e _ _ _ _ rfl, gsA_at (by decide) N ht j hj, hb]
  | 1, _ =>
    rw [brF_at hft hj (by decide) (by decide), e _ _ _ _ rfl, gsA_at (by decide) N ht j hj, brF_at hft hj (by decide) (by decide), if_neg (by omega), Int32.add_zero, gsA_ne (by decide) (by decide) (by decide) N ht j hj, hb]
theorem gsF_lw {f : Nat → Int32} {ft N j : Nat} {tg : Nat → Nat} (hft : okG ft) (ht : ∀ k, k < 2 * N → okG (tg k)) (hj : j < 28) : gsF f ft N tg j = f j := by
  unfold gsF
  rw [cpy_at (by omega)]
  unfold gs2 gs1
  rw [brF_lw hft hj, gsA_lw hj N ht, brF_lw hft hj, gsA_lw hj N ht]
  unfold zerF
  rw [if_neg (by omega), cpy_at (by omega)]
section
variable {f g : Nat → Int32} {N fc : Nat} {w r t : Nat → Nat}
theorem RS.congr {f2 g2 : Nat → Int32} (h : RS f g N fc w r t) (hf : ∀ j, j < 28 → f2 j = f j) (hg : ∀ j, j < 28 → g2 j = g j) : RS f2 g2 N fc w r t := by
  obtain ⟨h1, h2, h3, h4, h5, h6, h7⟩ := h
  refine ⟨h1, h2, ⟨?_, ?_⟩, ⟨?_, ?_⟩, fun d hd => ?_, fun k hk => ?_, fun k hk => ?_⟩
  · rw [hf _ (by omega)]; exact h3.1
  · rw [hg _ (by omega)]; exact h3.2
  · rw [hf _ (by omega)]; exact h4.1
  · rw [hg _ (by omega)]; exact h4.2
  · rw [hf _ (by omega), hg _ (by omega)]; exact h5 d hd
  · rw [hf _ (by omega), hg _ (by omega)]; exact h6 k hk
  · rw [hf _ (by omega), hg _ (by omega)]; exact h7 k hk
theorem adv_h {ft : Nat} {tg : Nat → Nat} (hN : N ≤ 6) (hft : ft < 10) (ht : ∀ k, k < 2 * N → tg k < 10) {d c : Nat} (hd : d < 2) (hc : c < N) : advF f ft N tg (28 + 2 * c + d) = (if ft = c then f (2 + d) else 0) + cA (fun c => f (28 + 2 * c + d)) (fun c => lifF (f (28 + 2 * c + d)) (f (4 + 2 * c + d))) tg N c := by
  unfold advF
  match d, hd with
  | 0, _ => rw [mvF_o (d := 1) (fun i _ => by omega) (by omega) (by omega), mvF_h (by decide) hN hc, mvA_at hft N ht c (by omega)]
  | 1, _ =>
    rw [mvF_h (by decide) hN hc, mvA_at hft N ht c (by omega), mvF_o (d := 0) (j := 2 + 1) (fun i _ => by omega) (by omega) (by omega)]
    rw [cA_congr N (fun i hi => ⟨mvF_o (fun k _ => by omega) (by omega) (by omega), by
      show lifF (mvF f z0 0 ft N tg (28 + 2 * i + 1)) (mvF f z0 0 ft N tg (4 + 2 * i + 1)) = lifF (f (28 + 2 * i + 1)) (f (4 + 2 * i + 1))
      rw [mvF_o (fun k _ => by omega) (by omega) (by omega), mvF_o (fun k _ => by omega) (by omega) (by omega)]⟩) c]
theorem adv_p {ft : Nat} {tg : Nat → Nat} (hN : N ≤ 6) (hft : ft < 10) (ht : ∀ k, k < 2 * N → tg k < 10) {d p : Nat} (hd : d < 2) (hp : p < 2) : advF f ft N tg (40 + 2 * p + d) = f (40 + 2 * p + d) + ((if ft = 8 + p then f (2 + d) else 0) + cA (fun c => f (28 + 2 * c + d)) (fun c => lifF (f (28 + 2 * c + d)) (f (4 + 2 * c + d))) tg N (8 + p)) := by
  unfold advF
  have e1 : ∀ j, cA (fun c => mvF f z0 0 ft N tg (28 + 2 * c + 1)) (fun c => lifF (mvF f z0 0 ft N tg (28 + 2 * c + 1)) (mvF f z0 0 ft N tg (4 + 2 * c + 1))) tg N j = cA (fun c => f (28 + 2 * c + 1)) (fun c => lifF (f (28 + 2 * c + 1)) (f (4 + 2 * c + 1))) tg N j := fun j => cA_congr N (fun i hi => ⟨mvF_o (fun k _ => by omega) (by omega) (by omega), by
      show lifF (mvF f z0 0 ft N tg (28 + 2 * i + 1)) (mvF f z0 0 ft N tg (4 + 2 * i + 1)) = lifF (f (28 + 2 * i + 1)) (f (4 + 2 * i + 1))
      rw [mvF_o (fun k _ => by omega) (by omega) (by omega), mvF_o (fun k _ => by omega) (by omega) (by omega)]⟩) j
  match d, hd, p, hp with
  | 0, _, 0, _ => rw [mvF_o (d := 1) (fun i _ => by omega) (by omega) (by omega)]; exact (mvF_8 (d := 0) (by decide) hN).trans (by rw [mvA_at hft N ht 8 (by omega)])
  | 0, _, 1, _ => rw [mvF_o (d := 1) (fun i _ => by omega) (by omega) (by omega)]; exact (mvF_9 (d := 0) (by decide) hN).trans (by rw [mvA_at hft N ht 9 (by omega)])
  | 1, _, 0, _ =>
    refine (mvF_8 (d := 1) (by decide) hN).trans ?_
    rw [mvA_at hft N ht 8 (by omega), e1, mvF_o (d := 0) (j := 2 + 1) (fun i _ => by omega) (by omega) (by omega), mvF_o (d := 0) (j := 40 + 1) (fun i _ => by omega) (by omega) (by omega)]
  | 1, _, 1, _ =>
    refine (mvF_9 (d := 1) (by decide) hN).trans ?_
    rw [mvA_at hft N ht 9 (by omega), e1, mvF_o (d := 0) (j := 2 + 1) (fun i _ => by omega) (by omega) (by omega), mvF_o (d := 0) (j := 42 + 1) (fun i _ => by omega) (by omega) (by omega)]
theorem adv_lo {ft : Nat} {tg : Nat → Nat} {j : Nat} (hj : j < 28) : advF f ft N tg j = f j := by
  unfold advF
  rw [mvF_o (fun i _ => by omega) (by omega) (by omega), mvF_o (fun i _ => by omega) (by omega) (by omega)]
/-- a step -/
theorem RR.adv (h : RR f g N fc w r t) : RR (advF f (tq N fc) N (fun k => tq N (t k))) (gsF g (tq N fc) N (fun k => tq N (t k))) N fc w r t := by
  obtain ⟨hs, c1, c2, c3⟩ := h
  have hN := hs.1
  have hft := @tq_ok N fc hN
  have ht : ∀ k, k < 2 * N → okG ((fun k => tq N (t k)) k) := fun k _ => @tq_ok N (t k) hN
  have hft10 := @tq_lt N fc hN
  have ht10 : ∀ k, k < 2 * N → (fun k => tq N (t k)) k < 10 := fun k _ => @tq_lt N (t k) hN
  have ecA : ∀ d, d < 2 → ∀ j, cA (fun c => f (28 + 2 * c + d)) (fun c => lifF (f (28 + 2 * c + d)) (f (4 + 2 * c + d))) (fun k => tq N (t k)) N j = cA (fun c => g (28 + 2 * c + d)) (fun c => lifF (g (28 + 2 * c + d)) (g (1 + 2 * c + d))) (fun k => tq N (t k)) N j := fun d hd j => cA_congr N (fun i hi => by
    have e1 : f (28 + 2 * i + d) = g (28 + 2 * i + d) := by
      have := c1 (2 * i + d) (by omega)
      rw [← Nat.add_assoc] at this
      exact this
    have e2 : f (4 + 2 * i + d) = g (1 + 2 * i + d) := by
      have := hs.2.2.2.2.2.1 (2 * i + d) (by omega)
      rw [← Nat.add_assoc, ← Nat.add_assoc] at this
      rw [this.2.1, this.2.2]
    exact ⟨e1, by show lifF (f (28 + 2 * i + d)) (f (4 + 2 * i + d)) = lifF (g (28 + 2 * i + d)) (g (1 + 2 * i + d)); rw [e1, e2]⟩) j
  have efd : ∀ d, d < 2 → f (2 + d) = g (26 + d) := fun d hd => by
    have := hs.2.2.2.2.1 d hd
    rw [this.2.1, this.2.2]
  have cell : ∀ c d, c < 6 → d < 2 → gsF g (tq N fc) N (fun k => tq N (t k)) (28 + 2 * c + d) = cA (fun c => g (28 + 2 * c + d)) (fun c => lifF (g (28 + 2 * c + d)) (g (1 + 2 * c + d))) (fun k => tq N (t k)) N c + (if tq N fc = c then g (26 + d) else 0) := fun c d hc hd => by
    have := gsF_at (f := g) (j := c) (d := d) hft ht hd (Or.inl hc)
    rw [show ixB c = 28 + 2 * c by unfold ixB; rw [if_pos (by omega)]] at this
    rw [this, if_pos (by omega), Int32.zero_add]
  refine ⟨hs.congr (fun j hj => adv_lo hj) (fun j hj => gsF_lw hft ht hj), fun k hk => ?_, fun k hk hk2 => ?_, fun k hk => ?_⟩
  · obtain ⟨c, d, hd, rfl⟩ : ∃ c d, d < 2 ∧ k = 2 * c + d := ⟨k / 2, k % 2, by omega, by omega⟩
    rw [← Nat.add_assoc, adv_h hN hft10 ht10 hd (by omega), cell c d (by omega) hd, ecA d hd, efd d hd, Int32.add_comm]
  · obtain ⟨c, d, hd, rfl⟩ : ∃ c d, d < 2 ∧ k = 2 * c + d := ⟨k / 2, k % 2, by omega, by omega⟩
    have nc : ∀ x, ¬ tq N x = c := fun x => by have := @tq_c N x; omega
    rw [← Nat.add_assoc, cell c d (by omega) hd, if_neg (nc _), cA_0 N (fun k _ => nc _)]
    rfl
  · obtain ⟨p, d, hd, hp, rfl⟩ : ∃ p d, d < 2 ∧ p < 2 ∧ k = 2 * p + d := ⟨k / 2, k % 2, by omega, by omega, by omega⟩
    have e := gsF_at (f := g) (j := 8 + p) (d := d) hft ht hd (by unfold okG; omega)
    rw [show ixB (8 + p) = 40 + 2 * p by unfold ixB; rw [if_neg (by omega)]; omega, if_neg (by omega)] at e
    have e3 := c3 (2 * p + d) (by omega)
    rw [← Nat.add_assoc] at e3
    rw [← Nat.add_assoc, adv_p hN hft10 ht10 hd hp, e, ecA d hd, efd d hd, e3, Int32.add_comm (if tq N fc = 8 + p then g (26 + d) else 0), Int32.add_assoc]
theorem RR.it (h : RR f g N fc w r t) : ∀ i, RR (itF f (tq N fc) N (fun k => tq N (t k)) i) (itM g (tq N fc) N (fun k => tq N (t k)) i) N fc w r t := by
  intro i
  induction i with
  | zero => exact h
  | succ i ih => exact ih.adv
theorem RR.setr (h : RR f g N fc w r t) {k x : Nat} (hk : k < 2 * N) (hx : x ≤ 100) : RR (upd f (4 + k) (nI x)) (upd g (1 + k) (nI x)) N fc w (un r k x) t := by
  have hN := h.1.1
  refine ⟨h.1.setr hk hx, fun j hj => ?_, fun j hj hj2 => ?_, fun j hj => ?_⟩
  · rw [pk_un (by omega), pk_un (by omega)]; exact h.2.1 j hj
  · rw [pk_un (by omega)]; exact h.2.2.1 j hj hj2
  · rw [pk_un (by omega), pk_un (by omega)]; exact h.2.2.2 j hj
theorem RR.dt (h : RR f g N fc w r t) (x : Nat) : ∃ r', RR (dtF f N x) (dtM g N x) N fc w r' t := by
  unfold dtF dtM
  by_cases z : 0 < N ∧ x % 3 = 0
  · rw [if_pos z, if_pos z]
    have h1 := Nat.mod_lt (x / 3) z.1
    have := h.setr (k := 2 * (x / 3 % N) + x / 64 % 2) (x := x / 128 % 101) (by omega) (by omega)
    rw [← Nat.add_assoc, ← Nat.add_assoc] at this
    exact ⟨_, this⟩
  · rw [if_neg z, if_neg z]
    exact ⟨r, h⟩
theorem RR.di {nx : Int64 → Int64} {rn : Int64 → Nat} : ∀ (n : Nat) (f g : Nat → Int32) (r : Nat → Nat) (x : Int64), RR f g N fc w r t → ∃ r', RR (diF nx rn (tq N fc) N (fun k => tq N (t k)) n f x) (diM nx rn (tq N fc) N (fun k => tq N (t k)) n g x) N fc w r' t := by
  intro n
  induction n with
  | zero => intro f g r x h; exact ⟨r, h⟩
  | succ n ih =>
    intro f g r x h
    obtain ⟨r', h'⟩ := h.dt (rn (nx x))
    rw [diF_s, diM_s]
    exact ih _ _ _ _ h'.adv
theorem RR.am (h : RR f g N fc w r t) : f 40 = g 40 := h.2.2.2 0 (by decide)
end
