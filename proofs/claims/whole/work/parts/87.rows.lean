theorem oi_n (n : Nat) : Int64.ofInt (n : Int) = lN n := by
  apply Int64.toBitVec_inj.mp
  show BitVec.ofInt 64 (n : Int) = BitVec.ofNat 64 n
  exact BitVec.ofInt_natCast 64 n
/-- the two rows of a state, class and reference, without the contents -/
def RS (f g : Nat → Int32) (N fc : Nat) (w r t : Nat → Nat) : Prop := N ≤ 6 ∧ fc < 6 ∧ (f 0 = nI N ∧ g 0 = nI N) ∧ (f 1 = nI fc ∧ g 25 = nI fc) ∧ (∀ d, d < 2 → w d ≤ 999 ∧ f (2 + d) = nI (w d) ∧ g (26 + d) = nI (w d)) ∧ (∀ k, k < 2 * N → r k ≤ 100 ∧ f (4 + k) = nI (r k) ∧ g (1 + k) = nI (r k)) ∧ (∀ k, k < 2 * N → okG (t k) ∧ f (16 + k) = nI (t k) ∧ g (13 + k) = nI (t k))
def tq (N t : Nat) : Nat := if t < N then t else if t = 8 then 8 else 9
theorem tq_c {N t : Nat} : (tq N t < N ∧ tq N t = t) ∨ tq N t = 8 ∨ tq N t = 9 := by
  unfold tq
  by_cases a : t < N
  · rw [if_pos a]; exact Or.inl ⟨a, rfl⟩
  · rw [if_neg a]
    by_cases b : t = 8
    · rw [if_pos b]; exact Or.inr (Or.inl rfl)
    · rw [if_neg b]; exact Or.inr (Or.inr rfl)
theorem tq_lt {N t : Nat} (hN : N ≤ 6) : tq N t < 10 := by have := @tq_c N t; omega
theorem tq_ok {N t : Nat} (hN : N ≤ 6) : okG (tq N t) := by have := @tq_c N t; unfold okG; omega
theorem tq_pres {N t : Nat} (hN : N ≤ 6) (h : okG t) : presF (nI N) (nI t) = nI (tq N t) := by
  unfold okG at h
  unfold presF tq
  by_cases a : t < N
  · rw [if_pos a, if_pos (Or.inl ⟨nI_pos' (by omega), (nI_ltI (by omega) (by omega)).mpr a⟩)]
  · rw [if_neg a]
    by_cases b : t = 8
    · rw [if_pos b, if_pos (Or.inr (by rw [b]; rfl)), b]
    · rw [if_neg b, if_neg (fun z => by
        rcases z with z | z
        · exact a ((nI_ltI (by omega) (by omega)).mp z.2)
        · exact b ((nI_eq (a := t) (b := 8) (by omega) (by omega)).mp z))]
      rfl
theorem tq_gof {N t : Nat} (hN : N ≤ 6) (h : okG t) : gofI (nI N) (nI t) = nI (tq N t) := by
  unfold okG at h
  unfold gofI tq
  by_cases a : t < N
  · rw [if_pos a, if_neg (fun z => by
      have := (nI_leI (by omega) (by omega)).mp z.2
      omega)]
  · rw [if_neg a]
    by_cases b : t = 8
    · rw [if_pos b, if_neg (fun z => by
        have := (nI_ltI (a := t) (b := 8) (by omega) (by omega)).mp z.1
        omega), b]
    · rw [if_neg b]
      by_cases c : t = 9
      · rw [if_neg (fun z => by
          have := (nI_ltI (a := t) (b := 8) (by omega) (by omega)).mp z.1
          omega), c]
      · rw [if_pos ⟨(nI_ltI (a := t) (b := 8) (by omega) (by omega)).mpr (by omega), (nI_leI (by omega) (by omega)).mpr (by omega)⟩]
        rfl
section
variable {f g : Nat → Int32} {N fc : Nat} {w r t : Nat → Nat}
theorem RS.tgts (h : RS f g N fc w r t) : tgts f N (tq N fc) (fun k => tq N (t k)) := by
  obtain ⟨h1, h2, h3, h4, h5, h6, h7⟩ := h
  refine ⟨h3.1, h1, ?_, tq_lt h1, fun k hk => ?_⟩
  · rw [h3.1, h4.1, tq_pres h1 (Or.inl h2)]
  · rw [h3.1, (h7 k hk).2.1, tq_pres h1 (h7 k hk).1]
    exact ⟨rfl, tq_lt h1⟩
theorem RS.tgtM (h : RS f g N fc w r t) : tgtM g N (tq N fc) (fun k => tq N (t k)) := by
  obtain ⟨h1, h2, h3, h4, h5, h6, h7⟩ := h
  refine ⟨h3.2, h1, ?_, tq_ok h1, fun k hk => ?_⟩
  · rw [h3.2, h4.2, tq_gof h1 (Or.inl h2)]
  · rw [h3.2, (h7 k hk).2.2, tq_gof h1 (h7 k hk).1]
    exact ⟨rfl, tq_ok h1⟩
end
/-- the descriptor of a component -/
def qD (N : Nat) (r t : Nat → Nat) (d : Nat) : QD := fun c => if c < N then ((r (2 * c + d) : Int), tq N (t (2 * c)), 100 - (r (2 * c + d) : Int), tq N (t (2 * c + 1))) else pu 7
theorem qD_in {N c d : Nat} {r t : Nat → Nat} (h : c < N) : qD N r t d c = ((r (2 * c + d) : Int), tq N (t (2 * c)), 100 - (r (2 * c + d) : Int), tq N (t (2 * c + 1))) := by unfold qD; rw [if_pos h]
theorem qD_out {N c d : Nat} {r t : Nat → Nat} (h : ¬ c < N) : qD N r t d c = pu 7 := by unfold qD; rw [if_neg h]
theorem qD_w {N d : Nat} {r t : Nat → Nat} (hd : d < 2) (h : ∀ k, k < 2 * N → r k ≤ 100) : wOk (qD N r t d) := by
  intro c hc
  by_cases z : c < N
  · rw [qD_in z]
    have := h (2 * c + d) (by omega)
    simp only
    omega
  · rw [qD_out z]; unfold pu; simp only; omega
/-- a row beyond the cells -/
theorem xR_out {s go N c d j : Nat} {r t : Nat → Nat} (h : ¬ c < N) (hj : j < 6) (hs : ¬ j = s ∨ ¬ go = 7) (hs2 : s = 7 ∨ ¬ s = c) : xR s go c (qD N r t d c) j = iD c j := by
  rw [qD_out h, xR_pu]
  unfold vR iD
  by_cases z : j = s
  · rw [if_pos z, if_neg (by omega), if_neg (by omega)]
  · rw [if_neg z, if_neg (show ¬ j = 7 by omega)]; omega
/-- an entry of the equations -/
theorem xR_in {N c d j : Nat} {r t : Nat → Nat} (h : c < N) (hj : j < 6) (s go : Nat) (hs : ¬ j = s) : xR s go c (qD N r t d c) j = (if j = c then 100 else 0) - (if j = tq N (t (2 * c)) then (r (2 * c + d) : Int) else 0) - (if j = tq N (t (2 * c + 1)) then 100 - (r (2 * c + d) : Int) else 0) := by
  rw [qD_in h]
  unfold xR vR
  simp only [if_neg hs]
  generalize (r (2 * c + d) : Int) = x
  split <;> split <;> split <;> omega
theorem xR_s {N c d : Nat} {r t : Nat → Nat} (h : c < N) (s go : Nat) : xR s go c (qD N r t d c) s = (if tq N (t (2 * c)) = go then (r (2 * c + d) : Int) else 0) + (if tq N (t (2 * c + 1)) = go then 100 - (r (2 * c + d) : Int) else 0) := by
  rw [qD_in h]
  unfold xR vR
  simp only [if_pos]
  generalize (r (2 * c + d) : Int) = x
  split <;> split <;> omega
theorem car_0 (x : Nat) : carF (nI x) 0 = nI x := by unfold carF; rw [if_pos rfl]
theorem nI_s100 {x : Nat} (h : x ≤ 100) : 100 - nI x = nI (100 - x) := by
  rw [fa_eq, Int32.toInt_sub, nI_toInt (by omega), nI_toInt (by omega), show (100 : Int32).toInt = 100 from rfl]
  rw [Int.bmod_eq_of_le (by omega) (by omega)]
  omega
theorem car_1 {x : Nat} (h : x ≤ 100) : carF (nI x) 1 = nI (100 - x) := by unfold carF; rw [if_neg (by decide), nI_s100 h]
theorem eqS_at {N c t a b : Nat} {e : Nat → Int64} {x : Int64} (hN : N ≤ 6) (hb : b < 6) : eqS N e c t x (6 * a + b) = if a = c ∧ t < N ∧ b = t then e (6 * a + b) - x else e (6 * a + b) := by
  unfold eqS
  by_cases z : t < N
  · rw [if_pos z, vp_updL]
    by_cases y : a = c ∧ t < N ∧ b = t
    · obtain ⟨y1, y2, y3⟩ := y
      rw [if_pos (by omega), if_pos ⟨y1, y2, y3⟩, y1, y3]
    · rw [if_neg (by omega), if_neg y]
  · rw [if_neg z, if_neg (fun y => z y.2.1)]
theorem eq_at {f : Nat → Int32} {N d : Nat} {r t : Nat → Nat} (hN : N ≤ 6) (hr : ∀ k, k < 2 * N → r k ≤ 100 ∧ f (4 + k) = nI (r k)) (hd : d < 2) : ∀ n, n ≤ N → ∀ a b, a < 6 → b < 6 → eqF f d N (fun k => tq N (t k)) (fun _ => 0) n (6 * a + b) = Int64.ofInt (if a < n then xR 7 8 a (qD N r t d a) b else 0) := by
  intro n
  induction n with
  | zero => intro _ a b ha hb; rw [eqF, filF, if_pos (by omega), if_neg (by omega)]; rfl
  | succ n ih =>
    intro hn a b ha hb
    rw [eqF, eqS_at hN hb, eqS_at hN hb, vp_updL, ih (by omega) a b ha hb]
    obtain ⟨hr1, hr2⟩ := hr (2 * n + d) (by omega)
    rw [show 4 + 2 * n + d = 4 + (2 * n + d) by omega, hr2, car_0, car_1 hr1, nI_l (by omega), nI_l (by omega)]
    by_cases z : a = n
    · subst z
      rw [if_pos (show a < a + 1 by omega), xR_in (by omega) hb 7 8 (by omega), if_neg (show ¬ a < a by omega)]
      have e1 : (b = tq N (t (2 * a))) ↔ (a = a ∧ tq N (t (2 * a)) < N ∧ b = tq N (t (2 * a))) := by
        have := @tq_c N (t (2 * a))
        omega
      have e2 : (b = tq N (t (2 * a + 1))) ↔ (a = a ∧ tq N (t (2 * a + 1)) < N ∧ b = tq N (t (2 * a + 1))) := by
        have := @tq_c N (t (2 * a + 1))
        omega
      rw [← oi_n, ← oi_n]
      by_cases y1 : b = tq N (t (2 * a))
      · rw [if_pos y1, if_pos (e1.mp y1)]
        by_cases y2 : b = tq N (t (2 * a + 1))
        · rw [if_pos y2, if_pos (e2.mp y2)]
          by_cases y3 : b = a
          · rw [if_pos y3, if_pos (by omega), show (100 : Int64) = Int64.ofInt 100 from rfl, oi_sub, oi_sub]
            exact congrArg Int64.ofInt (by omega)
          · rw [if_neg y3, if_neg (by omega), oi_sub, oi_sub]
            exact congrArg Int64.ofInt (by omega)
        · rw [if_neg y2, if_neg (fun z => y2 (e2.mpr z))]
          by_cases y3 : b = a
          · rw [if_pos y3, if_pos (by omega), show (100 : Int64) = Int64.ofInt 100 from rfl, oi_sub]
            exact congrArg Int64.ofInt (by omega)
          · rw [if_neg y3, if_neg (by omega), oi_sub]
            exact congrArg Int64.ofInt (by omega)
      · rw [if_neg y1, if_neg (fun z => y1 (e1.mpr z))]
        by_cases y2 : b = tq N (t (2 * a + 1))
        · rw [if_pos y2, if_pos (e2.mp y2)]
          by_cases y3 : b = a
          · rw [if_pos y3, if_pos (by omega), show (100 : Int64) = Int64.ofInt 100 from rfl, oi_sub]
            exact congrArg Int64.ofInt (by omega)
          · rw [if_neg y3, if_neg (by omega), oi_sub]
            exact congrArg Int64.ofInt (by omega)
        · rw [if_neg y2, if_neg (fun z => y2 (e2.mpr z))]
          by_cases y3 : b = a
          · rw [if_pos y3, if_pos (by omega), show (100 : Int64) = Int64.ofInt 100 from rfl]
            exact congrArg Int64.ofInt (by omega)
          · rw [if_neg y3, if_neg (by omega)]
            exact congrArg Int64.ofInt (by omega)
    · rw [if_neg (fun y => z y.1), if_neg (fun y => z y.1), if_neg (by omega)]
      by_cases y : a < n
      · rw [if_pos y, if_pos (by omega)]
      · rw [if_neg y, if_neg (by omega)]
/-- the class's denominator -/
theorem DD_I {f : Nat → Int32} {N d : Nat} {r t : Nat → Nat} (hN : N ≤ 6) (hr : ∀ k, k < 2 * N → r k ≤ 100 ∧ f (4 + k) = nI (r k)) (hd : d < 2) : DD f d N (fun k => tq N (t k)) = Int64.ofInt (XX 7 8 (qD N r t d)) := by
  refine det_cls hN (fun i hi j hj => ?_) (fun i hi hi6 j hj => xR_out (by omega) hj (by omega) (by omega))
  rw [eq_at hN hr hd N (Nat.le_refl N) i j (by omega) (by omega), if_pos hi]
theorem fc_at {f : Nat → Int32} {d col go : Nat} {tg : Nat → Nat} {e : Nat → Int64} (hc : col < 6) : ∀ n a b, b < 6 → fcF f d col go tg e n (6 * a + b) = if b = col ∧ a < n then rgF f d go tg a else e (6 * a + b) := by
  intro n
  induction n with
  | zero => intro a b _; rw [fcF, if_neg (by omega)]
  | succ n ih =>
    intro a b hb
    rw [fcF, vp_updL]
    by_cases z : 6 * a + b = 6 * n + col
    · rw [if_pos z, if_pos (by omega), show a = n by omega]
    · rw [if_neg z, ih a b hb]
      by_cases y : b = col ∧ a < n
      · rw [if_pos y, if_pos (by omega)]
      · rw [if_neg y, if_neg (by omega)]
theorem rg_p {f : Nat → Int32} {N d go i : Nat} {r t : Nat → Nat} (hN : N ≤ 6) (hr : ∀ k, k < 2 * N → r k ≤ 100 ∧ f (4 + k) = nI (r k)) (hd : d < 2) (hi : i < N) (hgo : go = 8 ∨ go = 9) (s : Nat) : rgF f d go (fun k => tq N (t k)) i = Int64.ofInt (xR s go i (qD N r t d i) s) := by
  obtain ⟨hr1, hr2⟩ := hr (2 * i + d) (by omega)
  unfold rgF rgS rg0
  rw [xR_s hi, show 4 + 2 * i + d = 4 + (2 * i + d) by omega, hr2, car_0, car_1 hr1, nI_l (by omega), nI_l (by omega), if_neg (show ¬ i = go by omega), ← oi_n, ← oi_n]
  dsimp only
  have h1 : ((go = 8 ∨ go = 9) ∧ tq N (t (2 * i)) = go) ↔ tq N (t (2 * i)) = go := ⟨fun z => z.2, fun z => ⟨hgo, z⟩⟩
  have h2 : ((go = 8 ∨ go = 9) ∧ tq N (t (2 * i + 1)) = go) ↔ tq N (t (2 * i + 1)) = go := ⟨fun z => z.2, fun z => ⟨hgo, z⟩⟩
  simp only [h1, h2]
  rw [show (0 : Int64) = Int64.ofInt 0 from rfl]
  by_cases y1 : tq N (t (2 * i)) = go
  · simp only [if_pos y1]
    by_cases y2 : tq N (t (2 * i + 1)) = go
    · simp only [if_pos y2, oi_add]
      exact congrArg Int64.ofInt (by omega)
    · simp only [if_neg y2, oi_add]
      exact congrArg Int64.ofInt (by omega)
  · simp only [if_neg y1]
    by_cases y2 : tq N (t (2 * i + 1)) = go
    · simp only [if_pos y2, oi_add]
      exact congrArg Int64.ofInt (by omega)
    · simp only [if_neg y2]
      exact congrArg Int64.ofInt (by omega)
theorem rg_c {f : Nat → Int32} {d go i : Nat} {tg : Nat → Nat} (hgo : go < 6) : rgF f d go tg i = Int64.ofInt (if i = go then 100 else 0) := by
  unfold rgF rgS rg0
  rw [if_neg (fun z => by omega), if_neg (fun z => by omega)]
  by_cases z : i = go
  · rw [if_pos z, if_pos z]; rfl
  · rw [if_neg z, if_neg z]; rfl
/-- the class's numerator, a product -/
theorem NN_p {f : Nat → Int32} {N d go ft : Nat} {r t : Nat → Nat} (hN : N ≤ 6) (hr : ∀ k, k < 2 * N → r k ≤ 100 ∧ f (4 + k) = nI (r k)) (hd : d < 2) (hgo : go = 8 ∨ go = 9) (hft : ft < N) : NN f d go ft N (fun k => tq N (t k)) = Int64.ofInt (XX ft go (qD N r t d)) := by
  unfold NN
  rw [if_pos hft]
  refine det_cls hN (fun i hi j hj => ?_) (fun i hi hi6 j hj => xR_out (by omega) hj (by omega) (by omega))
  rw [fc_at (by omega) N i j (by omega)]
  by_cases z : j = ft
  · rw [if_pos ⟨z, hi⟩, rg_p hN hr hd hi hgo ft, z]
  · rw [if_neg (fun y => z y.1), eq_at hN hr hd N (Nat.le_refl N) i j (by omega) (by omega), if_pos hi, xR_in hi (by omega) 7 8 (by omega), xR_in hi (by omega) ft go z]
/-- the class's numerator, a cell -/
theorem NN_c {f : Nat → Int32} {N d go ft : Nat} {r t : Nat → Nat} (hN : N ≤ 6) (hr : ∀ k, k < 2 * N → r k ≤ 100 ∧ f (4 + k) = nI (r k)) (hd : d < 2) (hgo : go < N) (hft : ft < N) : NN f d go ft N (fun k => tq N (t k)) = Int64.ofInt (NCq ft go (qD N r t d)) := by
  unfold NN
  rw [if_pos hft]
  refine det_cls hN (fun i hi j hj => ?_) (fun i hi hi6 j hj => ?_)
  · rw [fc_at (by omega) N i j (by omega)]
    by_cases z : j = ft
    · rw [if_pos ⟨z, hi⟩, rg_c (by omega), if_pos z]
    · rw [if_neg (fun y => z y.1), eq_at hN hr hd N (Nat.le_refl N) i j (by omega) (by omega), if_pos hi, if_neg z]
  · by_cases z : j = ft
    · rw [if_pos z, if_neg (by omega), iD, if_neg (by omega)]
    · rw [if_neg z, xR_out (by omega) hj (by omega) (by omega)]
