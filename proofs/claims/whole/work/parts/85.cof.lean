def bM (M : Nat → Nat → Int) (s g : Nat) : Nat → Nat → Int := fun i j => if i = g then (if j = s then 1 else 0) else if j = s then 0 else M i j
theorem dt_col {s g : Nat} (hs : s < 6) (hg : g < 6) (M : Nat → Nat → Int) : dt6 (fun i j => if j = s then (if i = g then 1 else 0) else M i j) = dt6 (bM M s g) := by
  rw [dt_row hg (fun i j => if j = s then (if i = g then 1 else 0) else M i j) (fun j => if j = s then 1 else 0) (fun j => if j = s then 0 else M g j) 1 1 (fun j _ => by
    by_cases z : j = s
    · rw [if_pos z, if_pos z, if_pos z, if_pos rfl]; rfl
    · rw [if_neg z, if_neg z, if_neg z]; omega)]
  rw [dt_c0 hs (ro (fun i j => if j = s then (if i = g then 1 else 0) else M i j) g (fun j => if j = s then 0 else M g j)) (fun i _ => by
    by_cases z : i = g
    · rw [z, ro_self, if_pos rfl]
    · rw [ro_ne _ _ z, if_pos rfl, if_neg z])]
  rw [show (1 : Int) * 0 = 0 from rfl, Int.add_zero, Int.one_mul]
  refine dt_congr (fun i _ j _ => ?_)
  unfold bM
  by_cases z : i = g
  · rw [z, ro_self, if_pos rfl]
  · rw [ro_ne _ _ z, if_neg z, if_neg z]
/-- a cofactor, by its row and by its column -/
theorem dt_cof {s g : Nat} (hs : s < 6) (hg : g < 6) (M : Nat → Nat → Int) : dt6 (ro M g (fun j => if j = s then 1 else 0)) = dt6 (fun i j => if j = s then (if i = g then 1 else 0) else M i j) := by
  rw [dt_col hs hg M, ← dt_tr (ro M g (fun j => if j = s then 1 else 0)), ← dt_tr (bM M s g)]
  have e : dt6 (fun i j => ro M g (fun j => if j = s then 1 else 0) j i) = dt6 (fun i j => if j = g then (if i = s then 1 else 0) else (fun a b => M b a) i j) := by
    refine dt_congr (fun i _ j _ => ?_)
    by_cases z : j = g
    · rw [z, ro_self, if_pos rfl]
    · rw [ro_ne _ _ z, if_neg z]
  rw [e, dt_col hg hs (fun a b => M b a)]
  refine dt_congr (fun i _ j _ => ?_)
  unfold bM
  by_cases z : j = g
  · by_cases y : i = s
    · simp only [if_pos z, if_pos y]
    · simp only [if_pos z, if_neg y]
  · by_cases y : i = s
    · simp only [if_neg z, if_pos y]
    · simp only [if_neg z, if_neg y]
def smI (φ : Nat → Int) : Nat → Int
  | 0 => 0
  | k + 1 => smI φ k + φ k
theorem smI_congr {φ ψ : Nat → Int} : ∀ k, (∀ c, c < k → φ c = ψ c) → smI φ k = smI ψ k := by
  intro k
  induction k with
  | zero => intro _; rfl
  | succ k ih => intro h; rw [smI, smI, ih (fun c hc => h c (by omega)), h k (by omega)]
theorem smI_mul (R : Int) (φ : Nat → Int) : ∀ k, smI (fun c => R * φ c) k = R * smI φ k := by
  intro k
  induction k with
  | zero => rw [smI, smI, Int.mul_zero]
  | succ k ih => rw [smI, smI, ih, Int.mul_add]
theorem dt_sum {s : Nat} (hs : s < 6) (M : Nat → Nat → Int) (x : Nat → Int) : dt6 (ro M s x) = smI (fun c => x c * dt6 (ro M s (fun j => if j = c then 1 else 0))) 6 := by
  have st : ∀ k, k ≤ 6 → dt6 (ro M s (fun j => if j < k then x j else 0)) = smI (fun c => x c * dt6 (ro M s (fun j => if j = c then 1 else 0))) k := by
    intro k
    induction k with
    | zero => intro _; exact dt_r0 hs _ (fun j _ => by rw [ro_self, if_neg (by omega)])
    | succ k ih =>
      intro hk
      rw [smI, ← ih (by omega)]
      have e := dt_lin hs M (fun j => if j < k then x j else 0) (fun j => if j = k then 1 else 0) 1 (x k)
      rw [Int.one_mul] at e
      rw [← e]
      refine dt_congr (fun i _ j _ => ?_)
      by_cases z : i = s
      · rw [z, ro_self, ro_self]
        by_cases y : j = k
        · rw [if_pos (by omega), if_neg (by omega), if_pos y, y]; omega
        · by_cases w : j < k
          · rw [if_pos (by omega), if_pos w, if_neg y]; omega
          · rw [if_neg (by omega), if_neg w, if_neg y]; omega
      · rw [ro_ne _ _ z, ro_ne _ _ z]
  rw [← st 6 (Nat.le_refl 6)]
  refine dt_congr (fun i _ j hj => ?_)
  by_cases z : i = s
  · rw [z, ro_self, ro_self, if_pos hj]
  · rw [ro_ne _ _ z, ro_ne _ _ z]
theorem dt_csum {s : Nat} (hs : s < 6) (M : Nat → Nat → Int) (x : Nat → Int) : dt6 (fun i j => if j = s then x i else M i j) = smI (fun c => x c * dt6 (fun i j => if j = s then (if i = c then 1 else 0) else M i j)) 6 := by
  have e : ∀ x : Nat → Int, dt6 (fun i j => if j = s then x i else M i j) = dt6 (ro (fun i j => M j i) s x) := fun x => by
    rw [← dt_tr]
    refine dt_congr (fun i _ j _ => ?_)
    by_cases z : i = s
    · rw [z, ro_self, if_pos rfl]
    · rw [ro_ne _ _ z, if_neg z]
  rw [e x, dt_sum hs]
  exact smI_congr 6 (fun c _ => by rw [e (fun i => if i = c then 1 else 0)])
theorem dt_csc {s : Nat} (hs : s < 6) (M : Nat → Nat → Int) (x : Nat → Int) (R : Int) : dt6 (fun i j => if j = s then R * x i else M i j) = R * dt6 (fun i j => if j = s then x i else M i j) := by
  rw [dt_csum hs M (fun i => R * x i), dt_csum hs M x, ← smI_mul]
  exact smI_congr 6 (fun c _ => by rw [Int.mul_assoc])
/-- the flow into a cell -/
def NCq (s go : Nat) (q : QD) : Int := dt6 (fun i j => if j = s then (if i = go then 100 else 0) else xR 7 8 i (q i) j)
theorem NCq_eq {s : Nat} (hs : s < 6) (go : Nat) (q : QD) : NCq s go q = 100 * dt6 (fun i j => if j = s then (if i = go then 1 else 0) else xR 7 8 i (q i) j) := by
  unfold NCq
  rw [← dt_csc hs (fun i => xR 7 8 i (q i)) (fun i => if i = go then 1 else 0) 100]
  refine dt_congr (fun i _ j _ => ?_)
  by_cases z : j = s
  · rw [if_pos z, if_pos z]
    by_cases y : i = go
    · rw [if_pos y, if_pos y]; rfl
    · rw [if_neg y, if_neg y]; rfl
  · rw [if_neg z, if_neg z]
def r9 (t : Nat) : Nat := if t = 8 then 9 else t
def qC (q : QD) (go : Nat) : QD := fun c => if c = go then pu 8 else ((q c).1, r9 (q c).2.1, (q c).2.2.1, r9 (q c).2.2.2)
theorem r9_ne (t : Nat) : ¬ r9 t = 8 := by unfold r9; split <;> omega
theorem r9_j {t j : Nat} (h : j < 6) : (j = r9 t) = (j = t) := by
  unfold r9
  apply propext
  split <;> omega
theorem NCq_ok {s go : Nat} (hs : s < 6) (hgo : go < 6) {q : QD} (hw : wOk q) : 0 ≤ NCq s go q ∧ NCq s go q ≤ 100000000000000 := by
  have hw2 : wOk (qC q go) := fun c hc => by
    unfold qC
    by_cases z : c = go
    · rw [if_pos z]; unfold pu; simp only; omega
    · rw [if_neg z]; exact hw c hc
  have e : XX s 8 (qC q go) = dt6 (fun i j => if j = s then (if i = go then 1 else 0) else xR 7 8 i (q i) j) := by
    rw [dt_col hs hgo]
    have e2 : XX s 8 (qC q go) = dt6 (fun i j => if j = s then (if i = go then 1 else 0) else xR s 8 i (qC q go i) j) := by
      refine dt_congr (fun i _ j _ => ?_)
      by_cases z : j = s
      · rw [if_pos z]
        unfold qC
        by_cases y : i = go
        · rw [if_pos y, if_pos y, xR_pu]; unfold vR; rw [if_pos z, if_pos rfl]
        · rw [if_neg y, if_neg y]
          unfold xR vR
          simp only [if_pos z, if_neg (r9_ne _)]
          omega
      · rw [if_neg z]
    rw [e2, dt_col hs hgo]
    refine dt_congr (fun i _ j hj => ?_)
    unfold bM
    by_cases y : i = go
    · rw [if_pos y, if_pos y]
    · rw [if_neg y, if_neg y]
      by_cases z : j = s
      · rw [if_pos z, if_pos z]
      · rw [if_neg z, if_neg z]
        show xR s 8 i (qC q go i) j = xR 7 8 i (q i) j
        unfold qC
        rw [if_neg y]
        unfold xR vR
        simp only [if_neg z, r9_j hj, if_neg (show ¬ j = 7 by omega)]
  obtain ⟨a1, a2, a3⟩ := XX_all (s := s) (go := 8) hs (by decide) hw2
  rw [NCq_eq hs, ← e]
  omega
theorem uq_uq (q : QD) (c : Nat) (y z : Int × Nat × Int × Nat) : uq (uq q c y) c z = uq q c z := by
  funext i
  by_cases h : i = c
  · rw [h, uq_self, uq_self]
  · rw [uq_ne _ _ h, uq_ne _ _ h, uq_ne _ _ h]
theorem XX_aff {s go : Nat} (q : QD) {c : Nat} (hc : c < 6) (t u : Nat) (r : Int) : XX s go (uq q c (r, t, 100 - r, u)) = XX s go (uq q c (0, t, 100 - 0, u)) + r * (XX s go (uq q c (1, t, 100 - 1, u)) - XX s go (uq q c (0, t, 100 - 0, u))) := by
  rw [XX_split (uq q c (r, t, 100 - r, u)) hc, XX_split (uq q c (0, t, 100 - 0, u)) hc, XX_split (uq q c (1, t, 100 - 1, u)) hc]
  simp only [uq_self, uq_uq]
  grind
theorem XX_aff0 {s go : Nat} (q : QD) {c : Nat} (hc : ¬ c < 6) (y z : Int × Nat × Int × Nat) : XX s go (uq q c y) = XX s go (uq q c z) := XX_congr (fun i hi => by rw [uq_ne _ _ (by omega), uq_ne _ _ (by omega)])
