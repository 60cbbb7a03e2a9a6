/-! loops: the class closes its rows over each cell, the reference goes out in rounds -/
def EE (N : Nat) (t : Nat → Nat) (i j : Nat) : Prop := i < N ∧ j < N ∧ (tq N (t (2 * i)) = j ∨ tq N (t (2 * i + 1)) = j)
def PT (E : Nat → Nat → Prop) : Nat → Nat → Nat → Prop
  | 0, i, j => E i j
  | v + 1, i, j => PT E v i j ∨ (PT E v i v ∧ PT E v v j)
theorem PT_tr {E : Nat → Nat → Prop} : ∀ v k, k < v → ∀ i j, PT E v i k → PT E v k j → PT E v i j := by
  intro v
  induction v with
  | zero => intro k hk; omega
  | succ v ih =>
    intro k hk i j h1 h2
    by_cases z : k = v
    · subst z
      have a : PT E k i k := by
        rcases h1 with x | x
        · exact x
        · exact x.1
      have b : PT E k k j := by
        rcases h2 with x | x
        · exact x
        · exact x.2
      exact Or.inr ⟨a, b⟩
    · have hk2 : k < v := by omega
      rcases h1 with x | x
      · rcases h2 with y | y
        · exact Or.inl (ih k hk2 i j x y)
        · exact Or.inr ⟨ih k hk2 i v x y.1, y.2⟩
      · rcases h2 with y | y
        · exact Or.inr ⟨x.1, ih k hk2 v j x.2 y⟩
        · exact Or.inr ⟨x.1, y.2⟩
theorem PT_up {E : Nat → Nat → Prop} {i j : Nat} (h : E i j) : ∀ v, PT E v i j := by
  intro v
  induction v with
  | zero => exact h
  | succ v ih => exact Or.inl ih
/-- reached in at most r steps -/
def RA (N : Nat) (E : Nat → Nat → Prop) (c : Nat) : Nat → Nat → Prop
  | 0, _ => False
  | r + 1, j => RA N E c r j ∨ ∃ k, k < N ∧ (if r = 0 then k = c else RA N E c r k) ∧ E k j
theorem RA_mono {N : Nat} {E : Nat → Nat → Prop} {c j r : Nat} (h : RA N E c r j) : ∀ m, RA N E c (r + m) j := by
  intro m
  induction m with
  | zero => exact h
  | succ m ih => exact Or.inl ih
theorem RA_PT {N : Nat} {E : Nat → Nat → Prop} {c : Nat} : ∀ r j, RA N E c r j → PT E N c j := by
  intro r
  induction r with
  | zero => intro j h; exact h.elim
  | succ r ih =>
    intro j h
    rcases h with x | ⟨k, hk, hc, he⟩
    · exact ih j x
    · by_cases z : r = 0
      · rw [if_pos z] at hc
        subst hc
        exact PT_up he N
      · rw [if_neg z] at hc
        exact PT_tr N k hk c j (ih k hc) (PT_up he N)
theorem RA_fix {N : Nat} {E : Nat → Nat → Prop} {c r : Nat} (hr : ¬ r = 0) (h : ∀ j, j < N → (RA N E c (r + 1) j ↔ RA N E c r j)) : ∀ m j, j < N → (RA N E c (r + m) j ↔ RA N E c r j) := by
  intro m
  induction m with
  | zero => intro j _; exact Iff.rfl
  | succ m ih =>
    intro j hj
    constructor
    · intro q
      rcases q with x | ⟨k, hk, hc, he⟩
      · exact (ih j hj).mp x
      · have hc : (if r + m = 0 then k = c else RA N E c (r + m) k) := hc
        rw [if_neg (show ¬ r + m = 0 by omega)] at hc
        refine (h j hj).mp (Or.inr ⟨k, hk, ?_, he⟩)
        rw [if_neg hr]
        exact (ih k hk).mp hc
    · intro q; exact RA_mono q (m + 1)
section
variable {f g : Nat → Int32} {N fc : Nat} {w r t : Nat → Nat}
/-- a number whose bits are a set -/
def BQ (x : Int32) (N : Nat) (Q : Nat → Prop) : Prop := ∃ m, m < 2 ^ N ∧ x = nI m ∧ ∀ j, j < N → (m.testBit j = true ↔ Q j)
theorem BQ.iff {x : Int32} {Q Q' : Nat → Prop} (h : BQ x N Q) (k : ∀ j, j < N → (Q j ↔ Q' j)) : BQ x N Q' := by
  obtain ⟨m, h1, h2, h3⟩ := h
  exact ⟨m, h1, h2, fun j hj => (h3 j hj).trans (k j hj)⟩
theorem BQ_0 (N : Nat) : BQ 0 N (fun _ => False) := ⟨0, Nat.two_pow_pos N, nI_0.symm, fun j _ => ⟨fun z => by rw [Nat.zero_testBit] at z; exact absurd z (by decide), fun z => z.elim⟩⟩
theorem BQ.or {x y : Int32} {Q Q' : Nat → Prop} (h : BQ x N Q) (k : BQ y N Q') : BQ (x ||| y) N (fun j => Q j ∨ Q' j) := by
  obtain ⟨m, h1, h2, h3⟩ := h
  obtain ⟨n, k1, k2, k3⟩ := k
  refine ⟨m ||| n, Nat.or_lt_two_pow h1 k1, by rw [h2, k2, fa_or], fun j hj => ?_⟩
  rw [Nat.testBit_or, Bool.or_eq_true, h3 j hj, k3 j hj]
theorem BQ_1 (hN : N ≤ 6) {k : Nat} (hk : k < N) : BQ (1 <<< (nI k &&& 31)) N (fun j => j = k) := by
  refine ⟨2 ^ k, Nat.pow_lt_pow_right (by decide) hk, shl1 k (by omega), fun j _ => ?_⟩
  rw [Nat.testBit_two_pow, decide_eq_true_iff]
  exact ⟨Eq.symm, Eq.symm⟩
theorem BQ.bit (hN : N ≤ 6) {x : Int32} {Q : Nat → Prop} (h : BQ x N Q) {j : Nat} (hj : j < N) : ((x >>> (nI j &&& 31)) &&& 1 = 1) ↔ Q j := by
  obtain ⟨m, h1, h2, h3⟩ := h
  have h64 := (p2_6 N (by omega)).2
  rw [h2, bt_6 m (by omega) j (by omega), ← h3 j hj, Nat.testBit_eq_decide_div_mod_eq, decide_eq_true_iff]
  exact nI_eq (b := 1) (by omega) (by omega)
theorem BQ.and (hN : N ≤ 6) {x : Int32} {Q : Nat → Prop} (h : BQ x N Q) {j : Nat} (hj : j < N) : (¬ (x &&& (1 <<< (nI j &&& 31))) = 0) ↔ Q j := by
  obtain ⟨m, h1, h2, h3⟩ := h
  rw [h2, shl1 j (by omega), fa_bit (by omega), ← h3 j hj, Bool.not_eq_false]
/-- rows of bits -/
def BR (r : Nat → Int32) (N : Nat) (P : Nat → Nat → Prop) : Prop := ∀ i, i < N → BQ (r i) N (P i)
theorem BR.iff {r : Nat → Int32} {P P' : Nat → Nat → Prop} (h : BR r N P) (k : ∀ i j, i < N → j < N → (P i j ↔ P' i j)) : BR r N P' := fun i hi => (h i hi).iff (fun j hj => k i j hi hj)
theorem BR.ldx (hN : N ≤ 6) {r : Nat → Int32} {P : Nat → Nat → Prop} (h : BR r N P) {i j : Nat} (hi : i < N) (hj : j < N) : leads r i j ↔ P i j := (h i hi).and hN hj
theorem BR.adLx (hN : N ≤ 6) {r : Nat → Int32} {P : Nat → Nat → Prop} (h : BR r N P) {c t : Nat} (ht : t < 10) : BR (adL (nI N) r c (nI t)) N (fun a j => P a j ∨ (a = c ∧ j = t)) := by
  intro a ha
  unfold adL
  by_cases z : t < N
  · rw [if_pos ⟨nI_pos' (by omega), (nI_ltI (by omega) (by omega)).mpr z⟩]
    by_cases y : a = c
    · rw [y, upd_self]
      rw [y] at ha
      exact ((h c ha).or (BQ_1 hN z)).iff (fun j _ => ⟨fun q => q.elim Or.inl (fun q => Or.inr ⟨rfl, q⟩), fun q => q.elim Or.inl (fun q => Or.inr q.2)⟩)
    · rw [pk_un y]
      exact (h a ha).iff (fun j _ => ⟨Or.inl, fun q => q.elim id (fun q => absurd q.1 y)⟩)
  · rw [if_neg (fun q => z ((nI_ltI (by omega) (by omega)).mp q.2))]
    exact (h a ha).iff (fun j hj => ⟨Or.inl, fun q => q.elim id (fun q => by omega)⟩)
theorem RS.tr1x (h : RS f g N fc w r t) (re : Nat → Int32) : ∀ n, n ≤ N → BR (tr1 f re n) N (fun i j => i < n ∧ EE N t i j) := by
  have hN := h.1
  intro n
  induction n with
  | zero =>
    intro _ i hi
    rw [tr1, filF, if_pos (by omega)]
    exact (BQ_0 N).iff (fun j _ => ⟨fun z => z.elim, fun z => by omega⟩)
  | succ n ih =>
    intro hn
    have t0 := h.tgts.2.2.2.2 (2 * n) (by omega)
    have t1 := h.tgts.2.2.2.2 (2 * n + 1) (by omega)
    rw [tr1, Nat.add_zero, Nat.add_assoc 16, t0.1, t1.1, h.2.2.1.1]
    refine (((ih (by omega)).adLx hN t0.2).adLx hN t1.2).iff (fun i j hi hj => ?_)
    unfold EE
    constructor
    · intro q
      rcases q with (q | q) | q
      · exact ⟨by omega, q.2⟩
      · refine ⟨by omega, by omega, hj, Or.inl ?_⟩
        rw [q.1]; exact q.2.symm
      · refine ⟨by omega, by omega, hj, Or.inr ?_⟩
        rw [q.1]; exact q.2.symm
    · intro q
      by_cases z : i = n
      · subst z
        rcases q.2.2.2 with x | x
        · exact Or.inl (Or.inr ⟨rfl, x.symm⟩)
        · exact Or.inr ⟨rfl, x.symm⟩
      · exact Or.inl (Or.inl ⟨by omega, q.2⟩)
theorem BR.wIx (hN : N ≤ 6) {r : Nat → Int32} {P : Nat → Nat → Prop} (h : BR r N P) {v : Nat} (hv : v < N) : ∀ n, n ≤ N → BR (wI r v n) N (fun i j => P i j ∨ (i < n ∧ P i v ∧ P v j)) := by
  intro n
  induction n with
  | zero =>
    intro _
    rw [wI]
    exact h.iff (fun i j _ _ => ⟨Or.inl, fun q => q.elim id (fun q => by omega)⟩)
  | succ n ih =>
    intro hn
    have ih2 := ih (by omega)
    have hl := ih2.ldx hN (i := n) (j := v) (by omega) hv
    have hl2 : (P n v ∨ (n < n ∧ P n v ∧ P v v)) ↔ P n v := ⟨fun q => q.elim id (fun q => q.2.1), Or.inl⟩
    by_cases z : P n v
    · rw [wI_t (hl.mpr (hl2.mpr z))]
      intro i hi
      by_cases y : i = n
      · rw [y, upd_self]
        refine ((ih2 n (by omega)).or (ih2 v hv)).iff (fun j _ => ?_)
        constructor
        · intro q
          rcases q with (q | q) | (q | q)
          · exact Or.inl q
          · exact Or.inr ⟨by omega, q.2⟩
          · exact Or.inr ⟨by omega, z, q⟩
          · exact Or.inr ⟨by omega, z, q.2.2⟩
        · intro q
          rcases q with q | q
          · exact Or.inl (Or.inl q)
          · exact Or.inr (Or.inl q.2.2)
      · rw [pk_un y]
        exact (ih2 i hi).iff (fun j _ => ⟨fun q => q.elim Or.inl (fun q => Or.inr ⟨by omega, q.2⟩), fun q => q.elim Or.inl (fun q => Or.inr ⟨by omega, q.2⟩)⟩)
    · rw [wI_f (fun q => z (hl2.mp (hl.mp q)))]
      refine ih2.iff (fun i j _ _ => ⟨fun q => q.elim Or.inl (fun q => Or.inr ⟨by omega, q.2⟩), fun q => q.elim Or.inl (fun q => ?_)⟩)
      by_cases y : i = n
      · rw [y] at q; exact absurd q.2.1 z
      · exact Or.inr ⟨by omega, q.2⟩
theorem BR.wOx (hN : N ≤ 6) {r : Nat → Int32} {E : Nat → Nat → Prop} (h : BR r N E) : ∀ v, v ≤ N → BR (wO r N v) N (PT E v) := by
  intro v
  induction v with
  | zero => intro _; exact h
  | succ v ih =>
    intro hv
    rw [wO]
    refine ((ih (by omega)).wIx hN (v := v) (by omega) N (Nat.le_refl N)).iff (fun i j hi _ => ?_)
    exact ⟨fun q => q.elim Or.inl (fun q => Or.inr q.2), fun q => q.elim Or.inl (fun q => Or.inr ⟨hi, q⟩)⟩
theorem RS.ldx (h : RS f g N fc w r t) (re : Nat → Int32) {i j : Nat} (hi : i < N) (hj : j < N) : leads (wO (tr1 f re N) N N) i j ↔ PT (EE N t) N i j := by
  have hN := h.1
  have h1 : BR (tr1 f re N) N (EE N t) := (h.tr1x re N (Nat.le_refl N)).iff (fun i j hi _ => ⟨fun q => q.2, fun q => ⟨hi, q⟩⟩)
  exact (h1.wOx hN N (Nat.le_refl N)).ldx hN hi hj
theorem RS.rhCx (h : RS f g N fc w r t) {cur : Int32} {C : Nat → Prop} (hc : BQ cur N C) : ∀ n, n ≤ N → BQ (rhC g cur n) N (fun j => ∃ k, k < n ∧ C k ∧ EE N t k j) := by
  have hN := h.1
  intro n
  induction n with
  | zero =>
    intro _
    rw [rhC]
    exact (BQ_0 N).iff (fun j _ => ⟨fun z => z.elim, fun ⟨k, hk, _⟩ => by omega⟩)
  | succ n ih =>
    intro hn
    have one : ∀ (m : Int32) (Q : Nat → Prop) (s : Nat), s < 2 → BQ m N Q → BQ (rhB g cur n s m) N (fun j => Q j ∨ (C n ∧ tq N (t (2 * n + s)) = j)) := by
      intro m Q s hs hm
      unfold rhB
      rw [h.go (by omega)]
      have ht := @tq_c N (t (2 * n + s))
      by_cases z : C n ∧ tq N (t (2 * n + s)) < 8
      · rw [if_pos ⟨(hc.bit hN (by omega)).mpr z.1, (nI_ltI (b := 8) (by omega) (by omega)).mpr z.2⟩]
        exact (hm.or (BQ_1 hN (by omega))).iff (fun j _ => ⟨fun q => q.elim Or.inl (fun q => Or.inr ⟨z.1, q.symm⟩), fun q => q.elim Or.inl (fun q => Or.inr q.2.symm)⟩)
      · rw [if_neg (fun q => z ⟨(hc.bit hN (by omega)).mp q.1, (nI_ltI (b := 8) (by omega) (by omega)).mp q.2⟩), Int32.or_zero]
        exact hm.iff (fun j hj => ⟨Or.inl, fun q => q.elim id (fun q => absurd ⟨q.1, by omega⟩ z)⟩)
    rw [rhC, rhS, rhS, rhS]
    refine (one _ _ 1 (by omega) (one _ _ 0 (by omega) (ih (by omega)))).iff (fun j hj => ?_)
    unfold EE
    constructor
    · intro q
      rcases q with (⟨k, hk, q⟩ | q) | q
      · exact ⟨k, by omega, q⟩
      · exact ⟨n, by omega, q.1, by omega, hj, Or.inl q.2⟩
      · exact ⟨n, by omega, q.1, by omega, hj, Or.inr q.2⟩
    · intro ⟨k, hk, q1, q2⟩
      by_cases z : k = n
      · subst z
        rcases q2.2.2 with x | x
        · exact Or.inl (Or.inr ⟨q1, x⟩)
        · exact Or.inr ⟨q1, x⟩
      · exact Or.inl (Or.inl ⟨k, by omega, q1, q2⟩)
theorem RS.rhAx (h : RS f g N fc w r t) {c : Nat} (hc : c < N) : ∀ n, BQ (rhA g c N n) N (RA N (EE N t) c n) := by
  have hN := h.1
  intro n
  induction n with
  | zero => exact BQ_0 N
  | succ n ih =>
    rw [rhA]
    have hk : BQ (rhK c (rhA g c N n) n) N (fun k => if n = 0 then k = c else RA N (EE N t) c n k) := by
      unfold rhK
      by_cases z : n = 0
      · simp only [if_pos z]; exact BQ_1 hN hc
      · simp only [if_neg z]; exact ih
    exact ih.or (h.rhCx hk N (Nat.le_refl N))
theorem tb_ge {m N j : Nat} (h : m < 2 ^ N) (hj : N ≤ j) : m.testBit j = false := Nat.testBit_lt_two_pow (Nat.lt_of_lt_of_le h (Nat.pow_le_pow_right (by decide) hj))
theorem RS.closed (h : RS f g N fc w r t) {c : Nat} (hc : c < N) : ∀ k j, k < N → j < N → RA N (EE N t) c 6 k → EE N t k j → RA N (EE N t) c 6 j := by
  have hN := h.1
  have h64 := (p2_6 N (by omega)).2
  have hm : ∀ n, ∃ m, m < 2 ^ N ∧ ∀ j, j < N → (m.testBit j = true ↔ RA N (EE N t) c n j) := fun n => by
    obtain ⟨m, h1, _, h3⟩ := h.rhAx hc n
    exact ⟨m, h1, h3⟩
  obtain ⟨mm, hmm⟩ := Classical.axiomOfChoice hm
  have sub : ∀ n, mm n ||| mm (n + 1) = mm (n + 1) := fun n => by
    apply Nat.eq_of_testBit_eq
    intro j
    rw [Nat.testBit_or]
    by_cases z : j < N
    · by_cases y : (mm n).testBit j = true
      · have : (mm (n + 1)).testBit j = true := ((hmm (n + 1)).2 j z).mpr (Or.inl (((hmm n).2 j z).mp y))
        rw [this, Bool.or_true]
      · rw [Bool.not_eq_true] at y
        rw [y, Bool.false_or]
    · rw [tb_ge (hmm n).1 (by omega), Bool.false_or]
  have st : ∀ n, mm n = mm (n + 1) ∨ popc (mm n) < popc (mm (n + 1)) := fun n => pc_st2 _ (by have := (hmm n).1; omega) _ (by have := (hmm (n + 1)).1; omega) (sub n)
  have cl : ∀ q, ¬ q = 0 → q < 6 → (∀ j, j < N → (RA N (EE N t) c (q + 1) j ↔ RA N (EE N t) c q j)) → ∀ k j, k < N → j < N → RA N (EE N t) c 6 k → EE N t k j → RA N (EE N t) c 6 j := by
    intro q hq hq6 hf k j hk hj h6 he
    have f6 := RA_fix hq hf (6 - q) j hj
    have f7 := RA_fix hq hf (7 - q) j hj
    rw [show q + (6 - q) = 6 by omega] at f6
    rw [show q + (7 - q) = 7 by omega] at f7
    refine f6.mpr (f7.mp (Or.inr ⟨k, hk, ?_, he⟩))
    rw [if_neg (by decide)]
    exact h6
  by_cases z1 : mm 1 = 0
  · refine cl 1 (by decide) (by decide) (fun j hj => ⟨fun q => ?_, Or.inl⟩)
    rcases q with x | ⟨k, hk, x, _⟩
    · exact x
    · rw [if_neg (by decide)] at x
      have := ((hmm 1).2 k hk).mpr x
      rw [z1, Nat.zero_testBit] at this
      exact absurd this (by decide)
  · have p1 := (popc_1 (mm 1) (by have := (hmm 1).1; omega) (by omega)).1
    have done : ∀ k, k < 6 → (∃ j, j < k ∧ mm (j + 1) = mm (j + 1 + 1)) ∨ k + 1 ≤ popc (mm (k + 1)) := by
      intro k
      induction k with
      | zero => intro _; exact Or.inr p1
      | succ k ih =>
        intro hk
        rcases ih (by omega) with ⟨j, hj, e⟩ | z
        · exact Or.inl ⟨j, by omega, e⟩
        · rcases st (k + 1) with e | e
          · exact Or.inl ⟨k, by omega, e⟩
          · exact Or.inr (by omega)
    rcases done 5 (by decide) with ⟨j, hj, e⟩ | z
    · refine cl (j + 1) (by omega) (by omega) (fun i hi => ?_)
      have a := (hmm (j + 1)).2 i hi
      have b := (hmm (j + 1 + 1)).2 i hi
      rw [← e] at b
      exact b.symm.trans a
    · intro k j hk hj _ _
      rcases pc_ful N (by omega) (mm 6) (by have := (hmm 6).1; omega) (hmm 6).1 with y | y
      · have := (hmm 6).2 j hj
        rw [y, Nat.testBit_two_pow_sub_one] at this
        exact this.mp (decide_eq_true hj)
      · have z2 : 6 ≤ popc (mm 6) := z
        omega
theorem RS.RA_tr (h : RS f g N fc w r t) {c k : Nat} (hc : c < N) (hk : k < N) (h1 : RA N (EE N t) c 6 k) : ∀ n j, RA N (EE N t) k n j → RA N (EE N t) c 6 j := by
  intro n
  induction n with
  | zero => intro j q; exact q.elim
  | succ n ih =>
    intro j q
    rcases q with x | ⟨m, hm, x, he⟩
    · exact ih j x
    · by_cases z : n = 0
      · rw [if_pos z] at x
        subst x
        exact h.closed hc m j hm he.2.1 h1 he
      · rw [if_neg z] at x
        exact h.closed hc m j hm he.2.1 (ih m x) he
theorem RS.PT_RA (h : RS f g N fc w r t) : ∀ v, v ≤ N → ∀ i j, i < N → PT (EE N t) v i j → RA N (EE N t) i 6 j := by
  intro v
  induction v with
  | zero =>
    intro _ i j hi q
    have : RA N (EE N t) i 1 j := Or.inr ⟨i, hi, by rw [if_pos rfl], q⟩
    exact RA_mono this 5
  | succ v ih =>
    intro hv i j hi q
    rcases q with x | x
    · exact ih (by omega) i j hi x
    · exact h.RA_tr hi (show v < N by omega) (ih (by omega) i v hi x.1) 6 j (ih (by omega) v j (by omega) x.2)
/-- reached: class and reference alike -/
theorem RS.loops (h : RS f g N fc w r t) (re : Nat → Int32) {i j : Nat} (hi : i < N) (hj : j < N) : leads (wO (tr1 f re N) N N) i j ↔ rbM g N i j := by
  have hN := h.1
  rw [h.ldx re hi hj]
  unfold rbM rhF
  rw [(h.rhAx hi 6).bit hN hj]
  exact ⟨h.PT_RA N (Nat.le_refl N) i j hi, RA_PT 6 j⟩
theorem lcJ_iff {g : Nat → Int32} {N i : Nat} : ∀ j, ¬ lcJ g N i j = 0 ↔ (rbM g N i i ∧ ∀ e, e < j → ¬ (rbM g N i e ∧ rbM g N e i)) := by
  intro j
  induction j with
  | zero =>
    rw [lcJ]
    exact ⟨fun z => ⟨pI_1 z, fun e he => by omega⟩, fun z => by rw [pI_t z.1]; decide⟩
  | succ j ih =>
    rw [lcJ]
    constructor
    · intro z
      have y := pI_1 z
      have x := ih.mp y.1
      refine ⟨x.1, fun e he => ?_⟩
      by_cases q : e = j
      · rw [q]; exact y.2
      · exact x.2 e (by omega)
    · intro z
      rw [pI_t ⟨ih.mpr ⟨z.1, fun e he => z.2 e (by omega)⟩, z.2 j (by omega)⟩]
      decide
theorem RS.count (h : RS f g N fc w r t) (re : Nat → Int32) : nbF (wO (tr1 f re N) N N) N = lcC g N N := by
  have key : ∀ i, i ≤ N → nbF (wO (tr1 f re N) N N) i = lcC g N i := by
    intro i
    induction i with
    | zero => intro _; rw [nbF, lcC]
    | succ i ih =>
      intro hi
      have e : (leads (wO (tr1 f re N) N N) i i ∧ ¬ shr (wO (tr1 f re N) N N) i) ↔ ¬ lcJ g N i i = 0 := by
        rw [lcJ_iff, h.loops re (by omega) (by omega)]
        unfold shr
        constructor
        · intro q
          refine ⟨q.1, fun x hx y => q.2 ⟨x, hx, ?_, ?_⟩⟩
          · exact (h.loops re (by omega) (by omega)).mpr y.1
          · exact (h.loops re (by omega) (by omega)).mpr y.2
        · intro q
          refine ⟨q.1, fun ⟨x, hx, y1, y2⟩ => q.2 x hx ⟨?_, ?_⟩⟩
          · exact (h.loops re (by omega) (by omega)).mp y1
          · exact (h.loops re (by omega) (by omega)).mp y2
      rw [lcC, ← ih (by omega)]
      by_cases z : lcJ g N i i = 0
      · rw [if_pos z, Int32.add_zero]
        exact nbF_f (fun q => e.mp q z)
      · rw [if_neg z]
        exact nbF_t (e.mpr z)
  exact key N (Nat.le_refl N)
end
