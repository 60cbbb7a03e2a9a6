/-! steady: the reference marks cells; the class looks whether the determinant is above 0 -/
def mB (sh : Nat → Nat → Nat) (tg : Nat → Nat) (c s m : Nat) : Nat := if 0 < sh c s ∧ (8 ≤ tg (2 * c + s) ∨ m.testBit (tg (2 * c + s)) = true) then m ||| 2 ^ c else m
def mC6 (sh : Nat → Nat → Nat) (tg : Nat → Nat) (m : Nat) : Nat → Nat
  | 0 => m
  | c + 1 => mB sh tg c 1 (mB sh tg c 0 (mC6 sh tg m c))
def mR6 (sh : Nat → Nat → Nat) (tg : Nat → Nat) (N : Nat) : Nat → Nat
  | 0 => 0
  | k + 1 => mC6 sh tg (mR6 sh tg N k) N
theorem mB_lt {sh : Nat → Nat → Nat} {tg : Nat → Nat} {c s m N : Nat} (hc : c < N) (h : m < 2 ^ N) : mB sh tg c s m < 2 ^ N := by
  unfold mB
  split
  · exact Nat.or_lt_two_pow h (Nat.pow_lt_pow_right (by decide) hc)
  · exact h
theorem mC_lt {sh : Nat → Nat → Nat} {tg : Nat → Nat} {m N : Nat} (h : m < 2 ^ N) : ∀ c, c ≤ N → mC6 sh tg m c < 2 ^ N := by
  intro c
  induction c with
  | zero => intro _; exact h
  | succ c ih => intro hc; exact mB_lt (by omega) (mB_lt (by omega) (ih (by omega)))
theorem mR_lt {sh : Nat → Nat → Nat} {tg : Nat → Nat} {N : Nat} : ∀ k, mR6 sh tg N k < 2 ^ N := by
  intro k
  induction k with
  | zero => exact Nat.two_pow_pos N
  | succ k ih => exact mC_lt ih N (Nat.le_refl N)
def sb (m m' : Nat) : Prop := m ||| m' = m'
theorem sb_r (m : Nat) : sb m m := Nat.or_self m
theorem sb_t {a b c : Nat} (h : sb a b) (k : sb b c) : sb a c := by
  unfold sb at *
  rw [← k, ← Nat.or_assoc, h]
theorem sb_a {a b : Nat} (h : sb a b) (k : sb b a) : a = b := by
  unfold sb at *
  rw [← h, Nat.or_comm, k]
theorem sb_B {sh : Nat → Nat → Nat} {tg : Nat → Nat} {c s m : Nat} : sb m (mB sh tg c s m) := by
  unfold mB
  split
  · unfold sb; rw [← Nat.or_assoc, Nat.or_self]
  · exact sb_r m
theorem sb_C {sh : Nat → Nat → Nat} {tg : Nat → Nat} {m : Nat} : ∀ c, sb m (mC6 sh tg m c) := by
  intro c
  induction c with
  | zero => exact sb_r m
  | succ c ih => exact sb_t ih (sb_t sb_B sb_B)
theorem sb_CC {sh : Nat → Nat → Nat} {tg : Nat → Nat} {m c : Nat} : ∀ n, sb (mC6 sh tg m c) (mC6 sh tg m (c + n)) := by
  intro n
  induction n with
  | zero => exact sb_r _
  | succ n ih => exact sb_t ih (sb_t sb_B sb_B)
theorem pc_st2 : ∀ m, m < 64 → ∀ m', m' < 64 → m ||| m' = m' → m = m' ∨ popc m < popc m' := by decide +kernel
theorem pc_ful : ∀ n, n < 7 → ∀ m, m < 64 → m < 2 ^ n → m = 2 ^ n - 1 ∨ popc m < n := by decide +kernel
/-- the marks stand after six rounds -/
theorem mR_fix {sh : Nat → Nat → Nat} {tg : Nat → Nat} {N : Nat} (hN : N ≤ 6) (h : ¬ mR6 sh tg N 6 = 2 ^ N - 1) : mC6 sh tg (mR6 sh tg N 6) N = mR6 sh tg N 6 := by
  have h64 := (p2_6 N (by omega)).2
  have lt := fun k => @mR_lt sh tg N k
  have st : ∀ k, mR6 sh tg N k = mR6 sh tg N (k + 1) ∨ popc (mR6 sh tg N k) < popc (mR6 sh tg N (k + 1)) := fun k => pc_st2 _ (by have := lt k; omega) _ (by have := lt (k + 1); omega) (sb_C N)
  have fx : ∀ k, mR6 sh tg N k = mR6 sh tg N (k + 1) → ∀ n, mR6 sh tg N (k + n) = mR6 sh tg N k := by
    intro k hk n
    induction n with
    | zero => rfl
    | succ n ih =>
      show mC6 sh tg (mR6 sh tg N (k + n)) N = _
      rw [ih]
      exact hk.symm
  have done : ∀ k, k ≤ 6 → (∃ j, j < k ∧ mR6 sh tg N j = mR6 sh tg N (j + 1)) ∨ k ≤ popc (mR6 sh tg N k) := by
    intro k
    induction k with
    | zero => intro _; exact Or.inr (Nat.zero_le _)
    | succ k ih =>
      intro hk
      rcases ih (by omega) with ⟨j, hj, e⟩ | z
      · exact Or.inl ⟨j, by omega, e⟩
      · rcases st k with e | e
        · exact Or.inl ⟨k, by omega, e⟩
        · exact Or.inr (by omega)
  rcases done 6 (Nat.le_refl 6) with ⟨j, hj, e⟩ | z
  · have e1 := fx j e (6 - j)
    rw [show j + (6 - j) = 6 by omega] at e1
    rw [e1]
    exact e.symm
  · rcases pc_ful N (by omega) _ (by have := lt 6; omega) (lt 6) with y | y
    · exact absurd y h
    · omega
theorem mR_cl {sh : Nat → Nat → Nat} {tg : Nat → Nat} {N m : Nat} (h : mC6 sh tg m N = m) {c s : Nat} (hc : c < N) (hs : s < 2) : mB sh tg c s m = m := by
  have e : ∀ c, c ≤ N → mC6 sh tg m c = m := fun c hc => by
    refine sb_a ?_ (sb_C c)
    have := @sb_CC sh tg m c (N - c)
    rw [show c + (N - c) = N by omega, h] at this
    exact this
  have e1 := e (c + 1) (by omega)
  rw [mC6, e c (by omega)] at e1
  have e0 : mB sh tg c 0 m = m := by
    refine sb_a ?_ sb_B
    have := @sb_B sh tg c 1 (mB sh tg c 0 m)
    rw [e1] at this
    exact this
  rw [e0] at e1
  match s, hs with
  | 0, _ => exact e0
  | 1, _ => exact e1
theorem tb_or (m c j : Nat) : (m ||| 2 ^ c).testBit j = (m.testBit j || decide (c = j)) := by rw [Nat.testBit_or, Nat.testBit_two_pow]
section
variable {f g : Nat → Int32} {N fc : Nat} {w r t : Nat → Nat}
def shN (r : Nat → Nat) (d c s : Nat) : Nat := if s = 0 then r (2 * c + d) else 100 - r (2 * c + d)
theorem RS.shw (h : RS f g N fc w r t) {c s d : Nat} (hc : c < N) (hd : d < 2) (hs : s < 2) : shM g c s d = nI (shN r d c s) ∧ shN r d c s ≤ 100 := by
  have h1 := (h.hr (2 * c + d) (by omega)).1
  match s, hs with
  | 0, _ => exact ⟨h.sh0 hc hd, h1⟩
  | 1, _ => exact ⟨h.sh1 hc hd, by unfold shN; rw [if_neg (by decide)]; omega⟩
theorem RS.tB (h : RS f g N fc w r t) {c s d m : Nat} (hc : c < N) (hd : d < 2) (hs : s < 2) (hm : m < 64) : stB g d c s (nI m) = nI (mB (shN r d) (fun k => tq N (t k)) c s m) := by
  have hN := h.1
  obtain ⟨s1, s2⟩ := h.shw (c := c) (s := s) hc hd hs
  have hk : 2 * c + s < 2 * N := by omega
  have ht := @tq_c N (t (2 * c + s))
  unfold stB mB
  rw [s1, h.go hk, shl1 c (by omega)]
  have e1 : (0 < nI (shN r d c s)) ↔ 0 < shN r d c s := nI_ltI (a := 0) (by omega) (by omega)
  have e2 : (7 < nI (tq N (t (2 * c + s)))) ↔ 8 ≤ tq N (t (2 * c + s)) := (nI_ltI (a := 7) (by omega) (by omega)).trans (by omega)
  have e3 : (7 < nI (tq N (t (2 * c + s))) ∨ (nI m >>> (nI (tq N (t (2 * c + s))) &&& 31)) &&& 1 = 1) ↔ (8 ≤ tq N (t (2 * c + s)) ∨ m.testBit (tq N (t (2 * c + s))) = true) := by
    rw [e2]
    by_cases z : 8 ≤ tq N (t (2 * c + s))
    · exact ⟨fun _ => Or.inl z, fun _ => Or.inl z⟩
    · rw [bt_6 m hm _ (by omega), Nat.testBit_eq_decide_div_mod_eq]
      have e4 : (nI (m / 2 ^ tq N (t (2 * c + s)) % 2) = 1) ↔ m / 2 ^ tq N (t (2 * c + s)) % 2 = 1 := nI_eq (b := 1) (by omega) (by omega)
      rw [e4, decide_eq_true_iff]
  dsimp only
  by_cases z : 0 < shN r d c s ∧ (8 ≤ tq N (t (2 * c + s)) ∨ m.testBit (tq N (t (2 * c + s))) = true)
  · rw [if_pos z, if_pos ⟨e1.mpr z.1, e3.mpr z.2⟩, fa_or]
  · rw [if_neg z, if_neg (fun y => z ⟨e1.mp y.1, e3.mp y.2⟩), Int32.or_zero]
theorem RS.tC (h : RS f g N fc w r t) {d m : Nat} (hd : d < 2) (hm : m < 2 ^ N) : ∀ c, c ≤ N → stC g d (nI m) c = nI (mC6 (shN r d) (fun k => tq N (t k)) m c) := by
  have h64 := (p2_6 N (by have := h.1; omega)).2
  intro c
  induction c with
  | zero => intro _; rw [stC, mC6]
  | succ c ih =>
    intro hc
    have hl := mC_lt (sh := shN r d) (tg := fun k => tq N (t k)) hm c (by omega)
    have hl2 := mB_lt (sh := shN r d) (tg := fun k => tq N (t k)) (s := 0) (show c < N by omega) hl
    rw [stC, mC6, ih (by omega), stS, stS, stS, h.tB (by omega) hd (by omega) (by omega), h.tB (by omega) hd (by omega) (by omega)]
theorem RS.tR (h : RS f g N fc w r t) {d : Nat} (hd : d < 2) : ∀ k, stR g d N k = nI (mR6 (shN r d) (fun k => tq N (t k)) N k) := by
  intro k
  induction k with
  | zero => rw [stR, mR6]; rfl
  | succ k ih => rw [stR, mR6, ih, h.tC hd (mR_lt k) N (Nat.le_refl N)]
theorem RS.SMi (h : RS f g N fc w r t) {d : Nat} (hd : d < 2) : SM g N d ↔ mR6 (shN r d) (fun k => tq N (t k)) N 6 = 2 ^ N - 1 := by
  have h64 := (p2_6 N (by have := h.1; omega))
  have hl := @mR_lt (shN r d) (fun k => tq N (t k)) N 6
  unfold SM
  rw [h.tR hd, shl1 N (by have := h.1; omega)]
  have e : nI (2 ^ N) - 1 = nI (2 ^ N - 1) := by
    have := nI_pred (2 ^ N - 1)
    rw [show 2 ^ N - 1 + 1 = 2 ^ N by omega] at this
    exact this
  rw [e]
  exact nI_eq (by omega) (by omega)
/-- marked cells send all out -/
def qm (q : QD) (m : Nat) : QD := fun c => if m.testBit c = true then pu 7 else q c
theorem qm_w {q : QD} (h : wOk q) (m : Nat) : wOk (qm q m) := by
  intro c hc
  unfold qm
  split
  · unfold pu; simp only; omega
  · exact h c hc
theorem qm_or (q : QD) (m c : Nat) : uq (qm q m) c (pu 7) = qm q (m ||| 2 ^ c) := by
  funext i
  unfold uq qm
  rw [tb_or]
  by_cases z : i = c
  · rw [if_pos z, if_pos (by rw [decide_eq_true z.symm, Bool.or_true])]
  · rw [if_neg z, decide_eq_false (fun y => z y.symm), Bool.or_false]
theorem mk_B {d c s m : Nat} (hN : N ≤ 6) (hr : ∀ k, k < 2 * N → r k ≤ 100) (hd : d < 2) (hc : c < N) (hs : s < 2) : XX 7 8 (qm (qD N r t d) (mB (shN r d) (fun k => tq N (t k)) c s m)) ≤ XX 7 8 (qm (qD N r t d) m) := by
  unfold mB
  dsimp only
  by_cases z : 0 < shN r d c s ∧ (8 ≤ tq N (t (2 * c + s)) ∨ m.testBit (tq N (t (2 * c + s))) = true)
  · rw [if_pos z]
    by_cases y : m.testBit c = true
    · have : qm (qD N r t d) (m ||| 2 ^ c) = qm (qD N r t d) m := by
        funext i
        unfold qm
        rw [tb_or]
        by_cases x : c = i
        · rw [if_pos (by rw [decide_eq_true x, Bool.or_true]), if_pos (by rw [← x]; exact y)]
        · rw [decide_eq_false x, Bool.or_false]
      rw [this]
      exact Int.le_refl _
    · rw [← qm_or]
      have hq : qm (qD N r t d) m c = qD N r t d c := by unfold qm; rw [if_neg y]
      have ht := @tq_c N (t (2 * c + s))
      have hz : 6 ≤ tq N (t (2 * c + s)) ∨ (tq N (t (2 * c + s)) < 6 ∧ ¬ tq N (t (2 * c + s)) = c ∧ qm (qD N r t d) m (tq N (t (2 * c + s))) = pu 7) := by
        rcases z.2 with x | x
        · exact Or.inl (by omega)
        · by_cases x6 : 6 ≤ tq N (t (2 * c + s))
          · exact Or.inl x6
          · refine Or.inr ⟨by omega, fun e => y (by rw [← e]; exact x), ?_⟩
            unfold qm
            rw [if_pos x]
      have h100 := hr (2 * c + d) (by omega)
      refine XX_mark (by decide) (qm_w (qD_w hd hr) m) (by omega) ?_
      rw [hq, qD_in hc]
      dsimp only
      match s, hs, z, hz with
      | 0, _, z, hz => exact Or.inl ⟨by
          have := z.1
          unfold shN at this
          rw [if_pos rfl] at this
          omega, hz⟩
      | 1, _, z, hz => exact Or.inr ⟨by
          have := z.1
          unfold shN at this
          rw [if_neg (by decide)] at this
          omega, hz⟩
  · rw [if_neg z]
    exact Int.le_refl _
theorem mk_C {d m : Nat} (hN : N ≤ 6) (hr : ∀ k, k < 2 * N → r k ≤ 100) (hd : d < 2) : ∀ c, c ≤ N → XX 7 8 (qm (qD N r t d) (mC6 (shN r d) (fun k => tq N (t k)) m c)) ≤ XX 7 8 (qm (qD N r t d) m) := by
  intro c
  induction c with
  | zero => intro _; exact Int.le_refl _
  | succ c ih =>
    intro hc
    rw [mC6]
    exact Int.le_trans (mk_B hN hr hd (by omega) (by omega)) (Int.le_trans (mk_B hN hr hd (by omega) (by omega)) (ih (by omega)))
theorem mk_R {d : Nat} (hN : N ≤ 6) (hr : ∀ k, k < 2 * N → r k ≤ 100) (hd : d < 2) : ∀ k, XX 7 8 (qm (qD N r t d) (mR6 (shN r d) (fun k => tq N (t k)) N k)) ≤ XX 7 8 (qD N r t d) := by
  intro k
  induction k with
  | zero =>
    have e : qm (qD N r t d) 0 = qD N r t d := by
      funext i
      unfold qm
      rw [if_neg (by rw [Nat.zero_testBit]; decide)]
    rw [mR6, e]
    exact Int.le_refl _
  | succ k ih => rw [mR6]; exact Int.le_trans (mk_C hN hr hd N (Nat.le_refl N)) ih
theorem RS.steady (h : RS f g N fc w r t) {d : Nat} (hd : d < 2) : SM g N d ↔ 0 < XX 7 8 (qD N r t d) := by
  have hN := h.1
  have hr : ∀ k, k < 2 * N → r k ≤ 100 := fun k hk => (h.hr k hk).1
  rw [h.SMi hd]
  constructor
  · intro e
    have h1 := mk_R (t := t) hN hr hd 6
    rw [e] at h1
    rw [XX_one (fun c hc => by
      unfold qm
      by_cases z : c < N
      · rw [if_pos (by rw [Nat.testBit_two_pow_sub_one]; exact decide_eq_true z)]
      · rw [if_neg (by rw [Nat.testBit_two_pow_sub_one, decide_eq_false z]; decide), qD_out z])] at h1
    omega
  · intro hp
    by_cases e : mR6 (shN r d) (fun k => tq N (t k)) N 6 = 2 ^ N - 1
    · exact e
    · exfalso
      have hx := mR_fix hN e
      have hl := @mR_lt (shN r d) (fun k => tq N (t k)) N 6
      generalize hmm : mR6 (shN r d) (fun k => tq N (t k)) N 6 = m at e hx hl
      have hB : ∃ c, c < N ∧ ¬ m.testBit c = true := by
        refine Classical.byContradiction (fun hn => e ?_)
        apply Nat.eq_of_testBit_eq
        intro i
        rw [Nat.testBit_two_pow_sub_one]
        by_cases z : i < N
        · rw [decide_eq_true z]
          exact Classical.byContradiction (fun y => hn ⟨i, z, y⟩)
        · rw [decide_eq_false z]
          exact Nat.testBit_lt_two_pow (Nat.lt_of_lt_of_le hl (Nat.pow_le_pow_right (by decide) (by omega)))
      have hcl : ∀ c s, c < N → ¬ m.testBit c = true → s < 2 → shN r d c s = 0 ∨ (tq N (t (2 * c + s)) < N ∧ ¬ m.testBit (tq N (t (2 * c + s))) = true) := by
        intro c s hc hb hs
        have h1 := mR_cl hx hc hs
        unfold mB at h1
        dsimp only at h1
        by_cases z : 0 < shN r d c s ∧ (8 ≤ tq N (t (2 * c + s)) ∨ m.testBit (tq N (t (2 * c + s))) = true)
        · rw [if_pos z] at h1
          exfalso
          apply hb
          rw [← h1, tb_or, decide_eq_true rfl, Bool.or_true]
        · by_cases y : shN r d c s = 0
          · exact Or.inl y
          · refine Or.inr ?_
            have ht := @tq_c N (t (2 * c + s))
            refine ⟨?_, fun x => z ⟨by omega, Or.inr x⟩⟩
            have : ¬ 8 ≤ tq N (t (2 * c + s)) := fun x => z ⟨by omega, Or.inl x⟩
            omega
      have := XX_nil (go := 8) (by decide) (fun c => c < N ∧ ¬ m.testBit c = true) (fun c hc => by omega) hB (q := qD N r t d) (fun c hc => by
        rw [qD_in hc.1]
        dsimp only
        have h0 := hcl c 0 hc.1 hc.2 (by omega)
        have h1 := hcl c 1 hc.1 hc.2 (by omega)
        have h100 := hr (2 * c + d) (by omega)
        unfold shN at h0 h1
        rw [if_pos rfl] at h0
        rw [if_neg (by decide)] at h1
        refine ⟨?_, ?_⟩
        · rcases h0 with x | x
          · exact Or.inl (by omega)
          · exact Or.inr x
        · rcases h1 with x | x
          · exact Or.inl (by omega)
          · exact Or.inr x)
      omega
end
