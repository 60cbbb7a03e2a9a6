def pN (N : Nat) (r t : Nat → Nat) (d c to : Nat) : Nat := (if tq N (t (2 * c)) = to then r (2 * c + d) else 0) + (if tq N (t (2 * c + 1)) = to then 100 - r (2 * c + d) else 0)
section
variable {f g : Nat → Int32} {N fc : Nat} {w r t : Nat → Nat}
theorem RS.go (h : RS f g N fc w r t) {k : Nat} (hk : k < 2 * N) : goM g k = nI (tq N (t k)) := by
  unfold goM
  exact (h.tgtM.2.2.2.2 k hk).1
theorem RS.hr (h : RS f g N fc w r t) : ∀ k, k < 2 * N → r k ≤ 100 ∧ f (4 + k) = nI (r k) := fun k hk => ⟨(h.2.2.2.2.2.1 k hk).1, (h.2.2.2.2.2.1 k hk).2.1⟩
theorem RS.hw (h : RS f g N fc w r t) {d : Nat} (hd : d < 2) : wOk (qD N r t d) := qD_w hd (fun k hk => (h.hr k hk).1)
theorem RS.sh0 (h : RS f g N fc w r t) {c d : Nat} (hc : c < N) (hd : d < 2) : shM g c 0 d = nI (r (2 * c + d)) := by
  unfold shM
  rw [if_pos rfl, show 1 + 2 * c + d = 1 + (2 * c + d) by omega]
  exact (h.2.2.2.2.2.1 (2 * c + d) (by omega)).2.2
theorem RS.sh1 (h : RS f g N fc w r t) {c d : Nat} (hc : c < N) (hd : d < 2) : shM g c 1 d = nI (100 - r (2 * c + d)) := by
  have h1 := h.2.2.2.2.2.1 (2 * c + d) (by omega)
  unfold shM
  rw [if_neg (by decide), show 1 + 2 * c + d = 1 + (2 * c + d) by omega, h1.2.2, nI_s100 h1.1]
theorem RS.pr (h : RS f g N fc w r t) {c d to : Nat} (hc : c < N) (hd : d < 2) (hto : to < 10) : prM g c (nI to) d = nI (pN N r t d c to) := by
  unfold prM pN
  rw [h.go (by omega), h.go (by omega), h.sh0 hc hd, h.sh1 hc hd]
  have hN := h.1
  have e1 : (nI (tq N (t (2 * c))) = nI to) ↔ tq N (t (2 * c)) = to := nI_eq (by have := @tq_lt N (t (2 * c)) hN; omega) (by omega)
  have e2 : (nI (tq N (t (2 * c + 1))) = nI to) ↔ tq N (t (2 * c + 1)) = to := nI_eq (by have := @tq_lt N (t (2 * c + 1)) hN; omega) (by omega)
  simp only [e1, e2]
  rw [← nI_add]
  have e3 : ∀ (P : Prop) [Decidable P] (x : Nat), (if P then nI x else 0) = nI (if P then x else 0) := fun P _ x => by
    by_cases z : P
    · rw [if_pos z, if_pos z]
    · rw [if_neg z, if_neg z]; rfl
  rw [e3, e3, Int32.zero_add]
theorem pN_le {d c to : Nat} (hr : r (2 * c + d) ≤ 100) : pN N r t d c to ≤ 100 := by
  unfold pN
  split <;> split <;> omega
theorem RS.prL (h : RS f g N fc w r t) {c d to : Nat} (hc : c < N) (hd : d < 2) (hto : to < 10) : (prM g c (nI to) d).toInt64 = Int64.ofInt (pN N r t d c to : Int) := by
  have := pN_le (N := N) (t := t) (to := to) (h.hr (2 * c + d) (by omega)).1
  rw [h.pr hc hd hto, nI_l (by omega), oi_n]
theorem pN_x {d c to : Nat} (hr : r (2 * c + d) ≤ 100) : (pN N r t d c to : Int) = (if tq N (t (2 * c)) = to then (r (2 * c + d) : Int) else 0) + (if tq N (t (2 * c + 1)) = to then 100 - (r (2 * c + d) : Int) else 0) := by
  unfold pN
  split <;> split <;> omega
theorem RS.lm (h : RS f g N fc w r t) {i j d : Nat} (hi : i < N) (hj : j < N) (hd : d < 2) : lmE g d i j = Int64.ofInt (xR 7 8 j (qD N r t d j) i) := by
  have hN := h.1
  have hr := (h.hr (2 * j + d) (by omega)).1
  unfold lmE
  rw [h.prL hj hd (by omega), pN_x hr, xR_in hj (by omega) 7 8 (by omega)]
  have e1 : (tq N (t (2 * j)) = i) ↔ (i = tq N (t (2 * j))) := ⟨Eq.symm, Eq.symm⟩
  have e2 : (tq N (t (2 * j + 1)) = i) ↔ (i = tq N (t (2 * j + 1))) := ⟨Eq.symm, Eq.symm⟩
  simp only [e1, e2]
  by_cases z : j = i
  · rw [if_pos z, if_pos z.symm, show (100 : Int64) = Int64.ofInt 100 from rfl, oi_sub]
    exact congrArg Int64.ofInt (by omega)
  · rw [if_neg z, if_neg (show ¬ i = j from fun y => z y.symm), show (0 : Int64) = Int64.ofInt 0 from rfl, oi_sub]
    exact congrArg Int64.ofInt (by omega)
/-- the matrix of the class -/
def AA (N : Nat) (r t : Nat → Nat) (d : Nat) : Nat → Nat → Int := fun i => xR 7 8 i (qD N r t d i)
theorem AA_x {N d i j : Nat} {r t : Nat → Nat} (hi : N ≤ i) (hi6 : i < 6) (hj : j < 6) : AA N r t d j i = iD i j := by
  unfold AA
  by_cases z : j < N
  · have h1 := @tq_c N (t (2 * j))
    have h2 := @tq_c N (t (2 * j + 1))
    rw [xR_in z hi6 7 8 (by omega), if_neg (by omega), if_neg (by omega), if_neg (by omega), iD, if_neg (by omega)]
    rfl
  · rw [xR_out z hi6 (by omega) (by omega), iD, iD]
    by_cases y : i = j
    · rw [if_pos y, if_pos y.symm]
    · rw [if_neg y, if_neg (fun q => y q.symm)]
theorem AA_y {N d i j : Nat} {r t : Nat → Nat} (hi : N ≤ i) (hj : j < 6) : AA N r t d i j = iD i j := xR_out (by omega) hj (by omega) (by omega)
theorem RS.mx (h : RS f g N fc w r t) {i j d : Nat} (hi : i < N) (hj : j < N) (hd : d < 2) : mxI g d N (fun _ => 0) N (6 * i + j) = Int64.ofInt (AA N r t d j i) := by
  have hN := h.1
  rw [mxI_at g d N _ h.1 N i j (by omega), if_pos ⟨hi, hj⟩, h.lm hi hj hd]
  rfl
theorem RS.det (h : RS f g N fc w r t) {d : Nat} (hd : d < 2) : dtC g d N (-9) = Int64.ofInt (XX 7 8 (qD N r t d)) := by
  have hN := h.1
  have e : XX 7 8 (qD N r t d) = dt6 (fun i j => AA N r t d j i) := (dt_tr (AA N r t d)).symm
  rw [e]
  refine det_mod h.1 (fun i hi j hj => ?_) (fun i hi hi6 j hj => AA_x hi hi6 hj)
  unfold enM
  rw [if_neg (nI_m9 (by omega)), h.mx hi hj hd]
theorem RS.rt (h : RS f g N fc w r t) {i d : Nat} (hi : i < N) (hd : d < 2) : rtI g d (fun _ => 0) N i = Int64.ofInt (if i = fc then 100 * (w d : Int) else 0) := by
  have hN := h.1
  have hf := h.2.1
  obtain ⟨w1, w2, w3⟩ := h.2.2.2.2.1 d hd
  rw [rtI_at, if_pos hi]
  unfold rtE
  rw [h.2.2.2.1.2, w3, nI_l (by omega)]
  by_cases z : i = fc
  · rw [if_pos z, if_pos (by rw [z]), ← oi_n, show (100 : Int64) = Int64.ofInt 100 from rfl, oi_mul]
  · rw [if_neg z, if_neg (fun y => z ((nI_eq (by omega) (by omega)).mp y).symm)]
    rfl
/-- a column of the reference's matrix is the right side -/
theorem RS.detc (h : RS f g N fc w r t) {c d : Nat} (hc : c < N) (hd : d < 2) : dtC g d N (nI c) = Int64.ofInt (if fc < N then 100 * (w d : Int) * dt6 (ro (AA N r t d) c (fun j => if j = fc then 1 else 0)) else 0) := by
  have hN := h.1
  have e : dtC g d N (nI c) = Int64.ofInt (dt6 (fun i j => if j = c then (if i = fc ∧ fc < N then 100 * (w d : Int) else 0) else AA N r t d j i)) := by
    refine det_mod h.1 (fun i hi j hj => ?_) (fun i hi hi6 j hj => ?_)
    · unfold enM
      by_cases z : j = c
      · rw [if_pos (by rw [z]), if_pos z, h.rt hi hd]
        by_cases y : i = fc
        · rw [if_pos y, if_pos ⟨y, by omega⟩]
        · rw [if_neg y, if_neg (fun q => y q.1)]
      · rw [if_neg (fun y => z ((nI_eq (by omega) (by omega)).mp y)), if_neg z, h.mx hi hj hd]
    · by_cases z : j = c
      · rw [if_pos z, if_neg (by omega), iD, if_neg (by omega)]
      · rw [if_neg z, AA_x hi hi6 hj]
  rw [e]
  refine congrArg Int64.ofInt ?_
  by_cases z : fc < N
  · rw [if_pos z, ← dt_tr]
    rw [dt_row (c := c) (by omega) (fun i j => (fun i j => if j = c then (if i = fc ∧ fc < N then 100 * (w d : Int) else 0) else AA N r t d j i) j i) (fun j => if j = fc then 1 else 0) (fun _ => 0) (100 * (w d : Int)) 0 (fun j _ => by
      dsimp only
      rw [if_pos rfl]
      by_cases y : j = fc
      · rw [if_pos ⟨y, z⟩, if_pos y]; omega
      · rw [if_neg (fun q => y q.1), if_neg y]; omega)]
    rw [Int.zero_mul, Int.add_zero]
    refine congrArg (fun x => 100 * (w d : Int) * x) ?_
    refine dt_congr (fun i _ j _ => ?_)
    by_cases y : i = c
    · rw [y, ro_self, ro_self]
    · rw [ro_ne _ _ y, ro_ne _ _ y]
      show (if i = c then (if j = fc ∧ fc < N then 100 * (w d : Int) else 0) else AA N r t d i j) = AA N r t d i j
      rw [if_neg y]
  · rw [if_neg z]
    exact dt_c0 (s := c) (by omega) _ (fun i _ => by rw [if_pos rfl, if_neg (fun q => z q.2)])
theorem XX_7 (go : Nat) (q : QD) : XX 7 go q = XX 7 8 q := dt_congr (fun i _ j hj => by
  unfold xR vR
  simp only [if_neg (show ¬ j = 7 by omega)])
theorem XX_col {fc to d : Nat} (hN : N ≤ 6) (hfc : fc < N) (hto : 8 ≤ to) (hr : ∀ k, k < 2 * N → r k ≤ 100) (hd : d < 2) : XX fc to (qD N r t d) = smI (fun c => (pN N r t d c to : Int) * dt6 (ro (AA N r t d) c (fun j => if j = fc then 1 else 0))) N := by
  have e : XX fc to (qD N r t d) = dt6 (fun i j => if j = fc then (if i < N then (pN N r t d i to : Int) else 0) else AA N r t d i j) := by
    refine dt_congr (fun i hi j hj => ?_)
    by_cases z : j = fc
    · rw [if_pos z, z]
      by_cases y : i < N
      · rw [if_pos y, xR_s y, pN_x (hr _ (by omega))]
      · rw [if_neg y, xR_out y (by omega) (by omega) (by omega), iD, if_neg (by omega)]
    · rw [if_neg z]
      unfold AA
      by_cases y : i < N
      · rw [xR_in y hj fc to z, xR_in y hj 7 8 (by omega)]
      · rw [xR_out y hj (by omega) (by omega), xR_out y hj (by omega) (by omega)]
  rw [e, dt_csum (by omega)]
  have e2 : ∀ m, N + m ≤ 6 → smI (fun c => (if c < N then (pN N r t d c to : Int) else 0) * dt6 (fun i j => if j = fc then (if i = c then 1 else 0) else AA N r t d i j)) (N + m) = smI (fun c => (if c < N then (pN N r t d c to : Int) else 0) * dt6 (fun i j => if j = fc then (if i = c then 1 else 0) else AA N r t d i j)) N := by
    intro m
    induction m with
    | zero => intro _; rfl
    | succ m ih =>
      intro hm
      show smI _ (N + m + 1) = _
      rw [smI, ih (by omega), if_neg (by omega), Int.zero_mul, Int.add_zero]
  have e3 := e2 (6 - N) (by omega)
  rw [show N + (6 - N) = 6 by omega] at e3
  rw [e3]
  refine smI_congr N (fun c hc => ?_)
  rw [if_pos hc, dt_cof (by omega) (by omega)]
/-- the numerator, as a number -/
def nuI (N fc : Nat) (r t : Nat → Nat) (d to : Nat) : Int := if fc < N then (if to < 6 then NCq fc to (qD N r t d) else XX fc to (qD N r t d)) else if 9 = to then XX 7 8 (qD N r t d) else 0
theorem tq_in {N fc : Nat} (h : fc < N) : tq N fc = fc := by unfold tq; rw [if_pos h]
theorem tq_o {N fc : Nat} (h : ¬ fc < N) (h6 : fc < 6) : tq N fc = 9 := by unfold tq; rw [if_neg h, if_neg (by omega)]
theorem RS.num (h : RS f g N fc w r t) {d to : Nat} (hd : d < 2) (hto : to < N ∨ to = 8 ∨ to = 9) : NN f d to (tq N fc) N (fun k => tq N (t k)) = Int64.ofInt (nuI N fc r t d to) := by
  have hN := h.1
  unfold nuI
  by_cases z : fc < N
  · rw [if_pos z, tq_in z]
    rcases hto with y | y
    · rw [if_pos (by omega), NN_c hN h.hr hd y z]
    · rw [if_neg (by omega), NN_p hN h.hr hd y z]
  · rw [if_neg z, tq_o z h.2.1]
    unfold NN
    rw [if_neg (by omega)]
    by_cases y : 9 = to
    · rw [if_pos y, if_pos y, DD_I hN h.hr hd]
    · rw [if_neg y, if_neg y]; rfl
theorem RS.den (h : RS f g N fc w r t) {d : Nat} (hd : d < 2) : DD f d N (fun k => tq N (t k)) = Int64.ofInt (XX 7 8 (qD N r t d)) := DD_I h.1 h.hr hd
theorem RS.den_ok (h : RS f g N fc w r t) {d : Nat} (hd : d < 2) : 0 ≤ XX 7 8 (qD N r t d) ∧ XX 7 8 (qD N r t d) ≤ 1000000000000 := by
  obtain ⟨a1, a2, a3⟩ := XX_all (s := 0) (go := 8) (by decide) (by decide) (h.hw hd)
  omega
theorem RS.num_p (h : RS f g N fc w r t) {d to : Nat} (hd : d < 2) (hto : to = 8 ∨ to = 9) : 0 ≤ nuI N fc r t d to ∧ nuI N fc r t d to ≤ XX 7 8 (qD N r t d) := by
  have hN := h.1
  have h0 := h.den_ok hd
  unfold nuI
  by_cases z : fc < N
  · rw [if_pos z, if_neg (by omega)]
    obtain ⟨a1, a2, a3⟩ := XX_all (s := fc) (go := to) (by omega) (by omega) (h.hw hd)
    rw [XX_7 to] at a2
    exact ⟨a1, a2⟩
  · rw [if_neg z]
    split <;> omega
theorem RS.num_c (h : RS f g N fc w r t) {d to : Nat} (hd : d < 2) (hto : to < N) : 0 ≤ nuI N fc r t d to ∧ nuI N fc r t d to ≤ 100000000000000 := by
  have hN := h.1
  unfold nuI
  by_cases z : fc < N
  · rw [if_pos z, if_pos (by omega)]
    exact NCq_ok (by omega) (by omega) (h.hw hd)
  · rw [if_neg z, if_neg (by omega)]; omega
theorem RS.up_c (h : RS f g N fc w r t) {d to : Nat} (hd : d < 2) (hto : to < N) : fuM g d N to = Int64.ofInt ((w d : Int) * nuI N fc r t d to) ∧ flM g d N to = Int64.ofInt (XX 7 8 (qD N r t d)) := by
  have hN := h.1
  unfold fuM flM nuI
  simp only [if_pos (show to < 8 by omega)]
  rw [h.detc hto hd, h.det hd]
  refine ⟨congrArg Int64.ofInt ?_, rfl⟩
  by_cases z : fc < N
  · rw [if_pos z, if_pos z, if_pos (show to < 6 by omega), NCq_eq (by omega), dt_cof (by omega) (by omega)]
    show 100 * (w d : Int) * dt6 (fun i j => if j = fc then (if i = to then 1 else 0) else AA N r t d i j) = (w d : Int) * (100 * dt6 (fun i j => if j = fc then (if i = to then 1 else 0) else AA N r t d i j))
    rw [← Int.mul_assoc, Int.mul_comm 100]
  · rw [if_neg z, if_neg z, if_neg (by omega), Int.mul_zero]
theorem RS.up_p (h : RS f g N fc w r t) {d to : Nat} (hd : d < 2) (hto : to = 8 ∨ to = 9) : fuM g d N to = Int64.ofInt (100 * (w d : Int) * nuI N fc r t d to) ∧ flM g d N to = Int64.ofInt (XX 7 8 (qD N r t d) * 100) := by
  have hN := h.1
  have hf := h.2.1
  obtain ⟨w1, w2, w3⟩ := h.2.2.2.2.1 d hd
  unfold fuM flM nuI
  simp only [if_neg (show ¬ to < 8 by omega)]
  rw [h.det hd]
  refine ⟨?_, by rw [show (100 : Int64) = Int64.ofInt 100 from rfl, oi_mul]⟩
  have hb : (gofI (g 0) (g 25) = nI to) ↔ tq N fc = to := by
    rw [h.tgtM.2.2.1]
    exact nI_eq (by have := @tq_lt N fc hN; omega) (by omega)
  by_cases z : fc < N
  · rw [if_pos z, if_neg (show ¬ to < 6 by omega), XX_col hN z (by omega) (fun k hk => (h.hr k hk).1) hd, ← smI_mul]
    have st : ∀ n, n ≤ N → upS g d N to n = Int64.ofInt (smI (fun c => 100 * (w d : Int) * ((pN N r t d c to : Int) * dt6 (ro (AA N r t d) c (fun j => if j = fc then 1 else 0)))) n) := by
      intro n
      induction n with
      | zero =>
        intro _
        rw [upS, if_neg (fun y => by
          have := hb.mp y
          rw [tq_in z] at this
          omega), smI]
        rfl
      | succ n ih =>
        intro hn
        rw [upS, smI, ih (by omega), h.detc (by omega) hd, if_pos z, h.prL (by omega) hd (by omega), oi_mul, oi_add]
        refine congrArg Int64.ofInt ?_
        rw [Int.mul_assoc (100 * (w d : Int)), Int.mul_comm (dt6 _)]
    exact st N (Nat.le_refl N)
  · rw [if_neg z]
    have st : ∀ n, n ≤ N → upS g d N to n = Int64.ofInt (100 * (w d : Int) * (if 9 = to then XX 7 8 (qD N r t d) else 0)) := by
      intro n
      induction n with
      | zero =>
        intro _
        rw [upS, w3, nI_l (by omega), h.det hd]
        rw [tq_o z hf] at hb
        by_cases y : 9 = to
        · rw [if_pos (hb.mpr y), if_pos y, ← oi_n, show (100 : Int64) = Int64.ofInt 100 from rfl, oi_mul, oi_mul]
        · rw [if_neg (fun q => y (hb.mp q)), if_neg y, Int.mul_zero]; rfl
      | succ n ih =>
        intro hn
        rw [upS, ih (by omega), h.detc (by omega) hd, if_neg z, show Int64.ofInt 0 = 0 from rfl, Int64.zero_mul, Int64.add_zero]
    exact st N (Nat.le_refl N)
end
