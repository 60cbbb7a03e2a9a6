/-! the law: its frame, the script, the relation of the two objects -/
abbrev mL_law : MI := (yL_law, cL_law, 8, (some .boolean), room_1, [])
section QL
variable {g : G0} {h : G1} {μ : MI} {w : Nat → va_E} {L : List (Option Value)} {st : List Value} {b : Nat} {Q : State → Prop} {pc : Nat}
theorem q_callVn {ν : MI} {k ci idx n N9 : Nat} {T9 : u_T} {fs As rest : List Value} {postc : Option Value → (Nat → va_E) → Prop} (d : decode (mC μ) pc = .ok (.invokevirtual idx, 3)) (ml : Cond.methodLink (mN μ).cls idx (mN ν) ∈ UW) (vw : VW ν n) (hc : ct g ν (.ref k :: As) w postc (fun _ _ => False)) (hk : k < NC) (hw : w k = .inr (ci, fs)) (hci : vwCl[ci]? = some ((mN ν).cls, T9, N9)) (hst : st = As.reverse ++ .ref k :: rest) (hn : As.length = n) (hcat : (rest.map fun v => v.category).sum ≤ 8) (hfr : (mR ν).frames + 1 ≤ (mR μ).frames) (hlo : 8 + (mL ν + 11) + (mR ν).locals ≤ (mR μ).locals) (b2 : Nat) (hb : (mR ν).cells + b2 ≤ b) (kk : ∀ v w1, postc v w1 → wp g h μ w1 L (v.toList ++ rest) b2 Q (pc + 3)) : wp g h μ w L st b Q pc := fun H locs ls cells slots hs hd => run_ok hs hd hb vw.2.2.2.2.2 (q_runV d ml vw hc hk hw hci hst hn hcat hfr hlo hb hs hd) kk (kx_no (fun _ _ z => z))
def Scr (g : G0) (h : G1) (xs : Nat → Int32) (n : Nat) : Prop := va_X (gA g 41) n xs (js h) (js h).heap ∧ gA g 41 < (js h).heap.size ∧ ¬ bigA g (gA g 41) ∧ n ≤ 2560
theorem q_sld {xs : Nat → Int32} {n : Nat} {i : Int32} (hX : Scr g h xs n) (d : decode (mC μ) pc = .ok (.iaload, 1)) (j : Nat) (hi : i = nI j) (hj : j < n) (kk : wp g h μ w L (.int (xs j) :: st) b Q (pc + 1)) : wp g h μ w L (.int i :: .ref 41 :: st) b Q pc := by
  intro H locs ls cells slots hs hd
  obtain ⟨h1, h2⟩ := q_in hi hj (by have := hX.2.2.2; omega)
  refine va_sld hs.1 hs.2.1 hX.1 hX.2.1 hX.2.2.1 hd.2.1 h1 d ?_
  rw [h2]
  exact kk H locs ls cells slots hs hd
theorem q_slen {xs : Nat → Int32} {n : Nat} (hX : Scr g h xs n) (d : decode (mC μ) pc = .ok (.arraylength, 1)) (kk : wp g h μ w L (.int (nI n) :: st) b Q (pc + 1)) : wp g h μ w L (.ref 41 :: st) b Q pc := by
  intro H locs ls cells slots hs hd
  exact va_slen hs.1 hs.2.1 hX.1 hX.2.1 hX.2.2.1 hd.2.1 d (kk H locs ls cells slots hs hd)
end QL
/-- what holds of the two objects between two calls -/
def RLaw (S : SS) : Prop := RX (z_SV S) (z_NW S) ∧ (∃ p q, p < 14 ∧ q ≤ 14 ∧ z_HN S = nI p ∧ z_NX S = nI p ∧ z_HK S = nI q ∧ z_AC S = nI q) ∧ RG 14 (z_HR S) (z_DI S) ∧ RG 2 (z_SL S) (z_KE S) ∧ (∀ s, s < 2 → z_SF S s = z_IK S s) ∧ (∃ (len : Nat) (t : Nat → Nat), len ≤ 60 ∧ z_TL S = nI len ∧ z_SS S = nI len ∧ ∀ j, j < len → z_TX S j = nI (t j) ∧ z_SC S j = nI (t j) ∧ t j < 65536) ∧ (∃ p q, z_QN S = nI p ∧ z_QS S = nI q ∧ z_ME S = nI q ∧ MRm (z_QK S) (z_QV S) (z_MW S) (z_MS S) p q)
theorem RLaw_eq {S S2 : SS} (h : RLaw S) (e1 : z_SV S2 = z_SV S) (e2 : z_NW S2 = z_NW S) (e3 : z_HN S2 = z_HN S) (e4 : z_NX S2 = z_NX S) (e5 : z_HK S2 = z_HK S) (e6 : z_AC S2 = z_AC S) (e7 : z_HR S2 = z_HR S) (e8 : z_DI S2 = z_DI S) (e9 : z_SL S2 = z_SL S) (e10 : z_KE S2 = z_KE S) (e11 : z_SF S2 = z_SF S) (e12 : z_IK S2 = z_IK S) (e13 : z_TL S2 = z_TL S) (e14 : z_SS S2 = z_SS S) (e15 : z_TX S2 = z_TX S) (e16 : z_SC S2 = z_SC S) (e17 : z_QN S2 = z_QN S) (e18 : z_QS S2 = z_QS S) (e19 : z_ME S2 = z_ME S) (e20 : z_QK S2 = z_QK S) (e21 : z_QV S2 = z_QV S) (e22 : z_MW S2 = z_MW S) (e23 : z_MS S2 = z_MS S) : RLaw S2 := by
  unfold RLaw
  rw [e1, e2, e3, e4, e5, e6, e7, e8, e9, e10, e11, e12, e13, e14, e15, e16, e17, e18, e19, e20, e21, e22, e23]
  exact h
theorem RLaw_co {S S2 : SS} (e : co S2 = co S) (h : RLaw S) : RLaw S2 ∧ z_RF S2 = z_RF S ∧ z_OU S2 = z_OU S := by
  simp only [co, Prod.mk.injEq] at e
  obtain ⟨eTL, eTX, eSV, eHN, eHK, eHR, eSL, eSF, eQN, eQS, eQK, eQV, eRF, eAC, eNX, eSS, eSP, eME, eUP, eLO, eNW, eTR, eAF, eDI, eKE, eIK, eSC, eRD, eMW, eMS, eMX, eRT, eMO, eOU⟩ := e
  exact ⟨RLaw_eq h eSV eNW eHN eNX eHK eAC eHR eDI eSL eKE eSF eIK eTL eSS eTX eSC eQN eQS eME eQK eQV eMW eMS, eRF, eOU⟩
theorem RLaw_cm {S S2 : SS} (e : cm S2 = cm S) (h : RLaw S) : RLaw S2 ∧ z_RF S2 = z_RF S ∧ z_OU S2 = z_OU S := by
  simp only [cm, Prod.mk.injEq] at e
  obtain ⟨eTL, eTX, eSV, eTV, eHN, eHK, eHR, eSL, eSF, eAR, eBN, eBD, eEQ, eMI, eRE, eQN, eQS, eQK, eQV, eA0, eA1, eA2, eA3, eB0, eB1, eB2, eB3, eC0, eC1, eC2, eC3, eRF, eAC, eNX, eSS, eME, eNW, eDI, eKE, eIK, eSC, eMW, eMS, eOU⟩ := e
  exact ⟨RLaw_eq h eSV eNW eHN eNX eHK eAC eHR eDI eSL eKE eSF eIK eTL eSS eTX eSC eQN eQS eME eQK eQV eMW eMS, eRF, eOU⟩
/-- a call that comes back with a value, in a state -/
def cM (g : G0) (ν : MI) (as : List Value) (w : Nat → va_E) (P : Value → SS → Prop) : Prop := ∃ post : Option Value → (Nat → va_E) → Prop, ct g ν as w post (fun _ _ => False) ∧ ∀ v w1, post v w1 → ∃ r S1, v = some r ∧ w1 = mixW g S1 ∧ P r S1
def cW (g : G0) (ν : MI) (as : List Value) (w : Nat → va_E) (P : Value → SS → Prop) : Prop := ∃ post : Option Value → (Nat → va_E) → Prop, ctH g ν as w post (fun _ _ => False) ∧ ∀ v w1, post v w1 → ∃ r S1, v = some r ∧ w1 = mixW g S1 ∧ P r S1
theorem cM_v {g : G0} {ν : MI} {as : List Value} {w : Nat → va_E} {r : Value} {S2 : SS} {P : Value → SS → Prop} (hc : ctv g ν as w r (mixW g S2)) (h : P r S2) : cM g ν as w P := ⟨_, hc, fun v w1 hv => ⟨r, S2, hv.1, hv.2, h⟩⟩
theorem cM_g {g : G0} {ν : MI} {as : List Value} {w : Nat → va_E} {r : Value} {R : SS → Prop} {P : Value → SS → Prop} (hc : ct g ν as w (fun v w1 => v = some r ∧ ∃ S2, w1 = mixW g S2 ∧ R S2) (fun _ _ => False)) (h : ∀ S2, R S2 → P r S2) : cM g ν as w P := ⟨_, hc, fun v w1 hv => by obtain ⟨h1, S2, h2, h3⟩ := hv; exact ⟨r, S2, h1, h2, h S2 h3⟩⟩
theorem cW_v {g : G0} {ν : MI} {as : List Value} {w : Nat → va_E} {r : Value} {S2 : SS} {P : Value → SS → Prop} (hc : ctHv g ν as w r (mixW g S2)) (h : P r S2) : cW g ν as w P := ⟨_, hc, fun v w1 hv => ⟨r, S2, hv.1, hv.2, h⟩⟩
theorem cW_g {g : G0} {ν : MI} {as : List Value} {w : Nat → va_E} {r : Value} {x : Int64} {R : SS → Prop} {P : Value → SS → Prop} (hc : ctH g ν as w (fun v w1 => v = some r ∧ ∃ S2, w1 = mixW g (s_OU S2 (vp_updL (z_OU S2) 0 x)) ∧ R S2) (fun _ _ => False)) (h : ∀ S2, R S2 → P r (s_OU S2 (vp_updL (z_OU S2) 0 x))) : cW g ν as w P := ⟨_, hc, fun v w1 hv => by obtain ⟨h1, S2, h2, h3⟩ := hv; exact ⟨r, _, h1, h2, h S2 h3⟩⟩
/-- the two calls of a case agree: with a wrapper, an int answer -/
def endI (kk : Int32) : Value → SS → Prop := fun b S2 => ∃ bb : Int32, b = .int bb ∧ z_RF S2 = kk ∧ (kk = 0 → z_OU S2 0 = bb.toInt64) ∧ RLaw S2
def endJ (kk : Int32) : Value → SS → Prop := fun b S2 => ∃ bb : Int64, b = .long bb ∧ z_RF S2 = kk ∧ (kk = 0 → z_OU S2 0 = bb) ∧ RLaw S2
def endZ (kk : Int32) : Value → SS → Prop := fun b S2 => ∃ bb : Int32, b = .int bb ∧ z_RF S2 = kk ∧ (kk = 0 → z_OU S2 0 = if bb = 0 then 0 else 1) ∧ RLaw S2
def opA (g : G0) (νw νm : MI) (e : Int32 → Value → SS → Prop) (as : List Value) (S : SS) : Prop := cW g νw (.ref 0 :: (as ++ [.ref 40])) (mixW g S) (fun k S1 => ∃ kk : Int32, k = .int kk ∧ cM g νm (.ref 26 :: as) (mixW g S1) (e kk))
/-- without -/
def opB (g : G0) (νc νm : MI) (S : SS) : Prop := cM g νc [.ref 0] (mixW g S) (fun a S1 => ∃ aa : Int32, a = .int aa ∧ cM g νm [.ref 26] (mixW g S1) (fun b S2 => b = .int aa ∧ RLaw S2))
/-! arguments -/
theorem ar_r {x M : Int32} {m : Nat} (hM : M.toInt = m) (h : 0 ≤ x ∧ x ≤ M) : ∃ n, n ≤ m ∧ x = nI n := nI_of2 hM (Int32.not_lt.mpr h.1) h.2
theorem ar_b {y : Int32} (h : y = 0 ∨ y = 1) : ∃ d, d < 2 ∧ y = nI d := by
  rcases h with h | h
  · exact ⟨0, by omega, by rw [h]; exact nI_0.symm⟩
  · exact ⟨1, by omega, by rw [h]; rfl⟩
theorem ar_c {x : Int32} {N : Nat} (hN : N ≤ 6) (h : 0 ≤ x ∧ x < nI N) : ∃ c, c < N ∧ x = nI c := by
  obtain ⟨j, hj, rfl⟩ := nI_of (Int32.not_lt.mpr h.1)
  exact ⟨j, (nI_ltI hj (by omega)).mp h.2, rfl⟩
theorem ar_d {x : Int32} (h : (x = 8 ∨ x = 9) ∨ (0 ≤ x ∧ x < 6)) : ∃ n, desOk n ∧ x = nI n := by
  unfold desOk
  rcases h with (h | h) | h
  · exact ⟨8, by omega, by rw [h]; rfl⟩
  · exact ⟨9, by omega, by rw [h]; rfl⟩
  · obtain ⟨c, hc, rfl⟩ := ar_c (N := 6) (by omega) h
    exact ⟨c, by omega, rfl⟩
theorem ar_89 {x : Int32} : (8 ≤ x ∧ x ≤ 9) ↔ (x = 8 ∨ x = 9) := by
  rw [fa_le, fa_le, fa_eq, fa_eq, show (8 : Int32).toInt = 8 from rfl, show (9 : Int32).toInt = 9 from rfl]
  omega
theorem ar_01 {x : Int32} : (0 ≤ x ∧ x ≤ 1) ↔ (x = 0 ∨ x = 1) := by
  rw [fa_le, fa_le, fa_eq, fa_eq, show (0 : Int32).toInt = 0 from rfl, show (1 : Int32).toInt = 1 from rfl]
  omega
