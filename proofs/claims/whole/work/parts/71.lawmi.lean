/-- the words that a static call of a method with handlers needs -/
def VH (ν : MI) (n : Nat) : Prop := Cond.static (mN ν) ∈ UW ∧ Cond.initialized (mN ν).cls ∈ UW ∧ Cond.codeWith (mN ν) (mC ν) (mL ν) (mT ν) (mH ν) ∈ UW ∧ ((mN ν).cls ≠ "java/lang/invoke/MethodHandle" ∧ (mN ν).cls ≠ "java/lang/invoke/VarHandle" ∧ (parseMethodDescriptor (mN ν).desc).map (fun d => d.parameters.length) = some n) ∧ (mR ν).slots = 6 * (mR ν).cells
section QJ
variable {g : G0} {h : G1} {μ : MI} {w : Nat → va_E} {L : List (Option Value)} {st : List Value} {b : Nat} {Q : State → Prop} {pc : Nat}
theorem q_runSH {ν : MI} {idx n : Nat} {As rest : List Value} {postc : Option Value → (Nat → va_E) → Prop} {xpc : String → (Nat → va_E) → Prop} {b2 : Nat} (d : decode (mC μ) pc = .ok (.invokestatic idx, 3)) (ml : Cond.methodLink (mN μ).cls idx (mN ν) ∈ UW) (vw : VH ν n) (hc : ctH g ν As w postc xpc) (hst : st = As.reverse ++ rest) (hn : As.length = n) (hcat : (rest.map fun v => v.category).sum ≤ 8) (hfr : (mR ν).frames + 1 ≤ (mR μ).frames) (hlo : 8 + (mL ν + 11) + (mR ν).locals ≤ (mR μ).locals) (hb : (mR ν).cells + b2 ≤ b)
    {H : Heap} {locs : List Loc} {ls : Array Slot} {cells slots : Nat} (hs : Sta g h μ) (hd : Dyn g h μ w L b H locs ls cells slots) :
    vx_Run (jp h) (gl g) (je h) (jR h) (js h) (jm h) (ja h) (jb h) (jM h) (jc h) H locs cells slots (mR ν).cells (mR ν).slots (F0 (jm h) pc ls (st.map (emv (gA g)))) (rest.map (emv (gA g))) (Qn g postc (As.map (emv (gA g))).toArray) (Xn g xpc) (bigA g) := by
  obtain ⟨v1, v3, v4, v5, v6⟩ := vw
  have hd4 := hd.2.2.2.1
  have hd5 := hd.2.2.2.2
  have cw : vx_CSW (jR h) (js h) (ja h) (mN μ).cls idx (mN ν) (mC ν) (mL ν) (mT ν) (mH ν) (.codeWith (mN ν) (mC ν) (mL ν) (mT ν) (mH ν) :: UW) (mR ν) (mR ν).cells (mR ν).slots n := by
    refine ⟨⟨rfl, rfl, by rw [hs.R]; exact hfr, by rw [hs.R]; exact hlo, pay_in hs.u (UW_in0 v4), List.mem_cons_self⟩, hs.u _ v4, hs.u _ v3, ⟨v5.1, v5.2.1⟩, fun sig hsig => ?_, hs.u _ ml, hs.u _ v1⟩
    have h2 := v5.2.2
    rw [hsig] at h2
    exact (Option.some.inj h2).symm
  refine vx_runSX (Ts := UW) (As := As.map (emv (gA g))) (n := n) (nL := mL μ) ⟨hs.1, hs.2.1, hs.ml, hs.own, hs.u⟩ hc cw ⟨ct_blind, fun U hU hW => ⟨rfl, hd.kn hs hU hW, by rw [hU]; exact hd.1⟩⟩ rfl (by rw [List.length_map]; exact hn) hd.2.2.1.1 (by rw [hst]; exact stk_S) (lv_room (by rw [emv_cats]; exact hcat)) d ⟨by rw [hs.R]; omega, by rw [hs.R]; omega⟩
/-- a call of a wrapper: it never throws -/
theorem q_callSH {ν : MI} {idx n : Nat} {As rest : List Value} {postc : Option Value → (Nat → va_E) → Prop} (d : decode (mC μ) pc = .ok (.invokestatic idx, 3)) (ml : Cond.methodLink (mN μ).cls idx (mN ν) ∈ UW) (vw : VH ν n) (hc : ctH g ν As w postc (fun _ _ => False)) (hst : st = As.reverse ++ rest) (hn : As.length = n) (hcat : (rest.map fun v => v.category).sum ≤ 8) (hfr : (mR ν).frames + 1 ≤ (mR μ).frames) (hlo : 8 + (mL ν + 11) + (mR ν).locals ≤ (mR μ).locals) (b2 : Nat) (hb : (mR ν).cells + b2 ≤ b)
    (kk : ∀ v w1, postc v w1 → wp g h μ w1 L (v.toList ++ rest) b2 Q (pc + 3)) : wp g h μ w L st b Q pc := fun H locs ls cells slots hs hd =>
  run_ok hs hd hb vw.2.2.2.2 (q_runSH d ml vw hc hst hn hcat hfr hlo hb hs hd) kk (fun E1 w1 H1 locs1 q ce hx hd2 h1 h2 h3 => hx.elim)
end QJ
theorem st_no (A r : List (Option Value)) {a : Option Value} (hA : nl A = true) : stNo (A ++ a :: r) (A ++ none :: r) A.length := by
  intro j u hj
  by_cases h1 : j < A.length
  · rw [List.getElem?_append_left h1] at hj
    refine ⟨by omega, by rw [List.getElem?_append_left h1]; exact hj, fun e => nl_ok A u hA ?_⟩
    rw [show A.length - 1 = j by omega]
    exact hj
  · rw [List.getElem?_append_right (by omega)] at hj
    by_cases h2 : j = A.length
    · subst h2
      rw [Nat.sub_self] at hj
      cases hj
    · obtain ⟨i, rfl⟩ : ∃ i, j = A.length + (i + 1) := ⟨j - A.length - 1, by omega⟩
      rw [Nat.add_sub_cancel_left, List.getElem?_cons_succ] at hj
      refine ⟨h2, ?_, fun e => by omega⟩
      rw [List.getElem?_append_right (by omega), Nat.add_sub_cancel_left, List.getElem?_cons_succ]
      exact hj
/-- a wrapper answers r and leaves w' -/
def ctHv (g : G0) (ν : MI) (as : List Value) (w : Nat → va_E) (r : Value) (w' : Nat → va_E) : Prop := ctH g ν as w (fun v w1 => v = some r ∧ w1 = w') (fun _ _ => False)
abbrev mL_append : MI := (yL_append, cL_append, 4, (some .int), { frames := 8, cells := 2, slots := 12, locals := 133 }, [(0, 9, 12, 13), (0, 9, 15, 15)])
theorem vL_append : VH mL_append 3 := ⟨uw_468, uw_37, uw_469, ⟨by decide, by decide, by decide +kernel⟩, rfl⟩
abbrev mL_load : MI := (yL_load, cL_load, 3, (some .int), { frames := 7, cells := 1, slots := 6, locals := 111 }, [(0, 8, 11, 15)])
theorem vL_load : VH mL_load 2 := ⟨uw_572, uw_37, uw_573, ⟨by decide, by decide, by decide +kernel⟩, rfl⟩
abbrev mL_recovery : MI := (yL_recovery, cL_recovery, 5, (some .int), { frames := 8, cells := 2, slots := 12, locals := 133 }, [(0, 10, 13, 25)])
theorem vL_recovery : VH mL_recovery 4 := ⟨uw_614, uw_37, uw_615, ⟨by decide, by decide, by decide +kernel⟩, rfl⟩
abbrev mL_destination : MI := (yL_destination, cL_destination, 5, (some .int), { frames := 8, cells := 2, slots := 12, locals := 133 }, [(0, 10, 13, 25)])
theorem vL_destination : VH mL_destination 4 := ⟨uw_647, uw_37, uw_648, ⟨by decide, by decide, by decide +kernel⟩, rfl⟩
abbrev mL_feedAmount : MI := (yL_feedAmount, cL_feedAmount, 4, (some .int), { frames := 8, cells := 1, slots := 6, locals := 131 }, [(0, 9, 12, 25)])
theorem vL_feedAmount : VH mL_feedAmount 3 := ⟨uw_655, uw_37, uw_656, ⟨by decide, by decide, by decide +kernel⟩, rfl⟩
abbrev mL_addCell : MI := (yL_addCell, cL_addCell, 7, (some .int), { frames := 8, cells := 5, slots := 30, locals := 136 }, [(0, 14, 17, 13), (0, 14, 21, 15)])
theorem vL_addCell : VH mL_addCell 6 := ⟨uw_663, uw_37, uw_664, ⟨by decide, by decide, by decide +kernel⟩, rfl⟩
abbrev mL_removeLastCell : MI := (yL_removeLastCell, cL_removeLastCell, 3, (some .int), { frames := 7, cells := 1, slots := 6, locals := 123 }, [(0, 8, 11, 15)])
theorem vL_removeLastCell : VH mL_removeLastCell 2 := ⟨uw_677, uw_37, uw_678, ⟨by decide, by decide, by decide +kernel⟩, rfl⟩
abbrev mL_setRecovery : MI := (yL_setRecovery, cL_setRecovery, 6, (some .int), { frames := 8, cells := 3, slots := 18, locals := 136 }, [(0, 12, 15, 25), (0, 12, 19, 13)])
theorem vL_setRecovery : VH mL_setRecovery 5 := ⟨uw_689, uw_37, uw_690, ⟨by decide, by decide, by decide +kernel⟩, rfl⟩
abbrev mL_setDestination : MI := (yL_setDestination, cL_setDestination, 6, (some .int), { frames := 8, cells := 3, slots := 18, locals := 135 }, [(0, 12, 15, 25), (0, 12, 19, 13)])
theorem vL_setDestination : VH mL_setDestination 5 := ⟨uw_696, uw_37, uw_697, ⟨by decide, by decide, by decide +kernel⟩, rfl⟩
abbrev mL_setFeed : MI := (yL_setFeed, cL_setFeed, 6, (some .int), { frames := 8, cells := 3, slots := 18, locals := 136 }, [(0, 12, 15, 13)])
theorem vL_setFeed : VH mL_setFeed 5 := ⟨uw_704, uw_37, uw_705, ⟨by decide, by decide, by decide +kernel⟩, rfl⟩
abbrev mL_step : MI := (yL_step, cL_step, 4, (some .int), { frames := 8, cells := 1, slots := 6, locals := 134 }, [(0, 9, 12, 13)])
theorem vL_step : VH mL_step 3 := ⟨uw_712, uw_37, uw_713, ⟨by decide, by decide, by decide +kernel⟩, rfl⟩
abbrev mL_undo : MI := (yL_undo, cL_undo, 3, (some .int), { frames := 7, cells := 1, slots := 6, locals := 123 }, [(0, 8, 11, 15)])
theorem vL_undo : VH mL_undo 2 := ⟨uw_744, uw_37, uw_745, ⟨by decide, by decide, by decide +kernel⟩, rfl⟩
abbrev mL_content : MI := (yL_content, cL_content, 5, (some .int), { frames := 8, cells := 2, slots := 12, locals := 133 }, [(0, 10, 13, 25)])
theorem vL_content : VH mL_content 4 := ⟨uw_764, uw_37, uw_765, ⟨by decide, by decide, by decide +kernel⟩, rfl⟩
abbrev mL_amount : MI := (yL_amount, cL_amount, 5, (some .int), { frames := 8, cells := 2, slots := 12, locals := 132 }, [(0, 10, 13, 25)])
theorem vL_amount : VH mL_amount 4 := ⟨uw_772, uw_37, uw_773, ⟨by decide, by decide, by decide +kernel⟩, rfl⟩
abbrev mL_flowNumerator : MI := (yL_flowNumerator, cL_flowNumerator, 5, (some .int), { frames := 9, cells := 3, slots := 18, locals := 154 }, [(0, 9, 12, 25), (0, 9, 16, 15)])
theorem vL_flowNumerator : VH mL_flowNumerator 4 := ⟨uw_780, uw_37, uw_781, ⟨by decide, by decide, by decide +kernel⟩, rfl⟩
abbrev mL_flowDenominator : MI := (yL_flowDenominator, cL_flowDenominator, 5, (some .int), { frames := 9, cells := 3, slots := 18, locals := 154 }, [(0, 9, 12, 25), (0, 9, 16, 15)])
theorem vL_flowDenominator : VH mL_flowDenominator 4 := ⟨uw_805, uw_37, uw_806, ⟨by decide, by decide, by decide +kernel⟩, rfl⟩
abbrev mL_totalRecovery : MI := (yL_totalRecovery, cL_totalRecovery, 3, (some .int), { frames := 8, cells := 1, slots := 6, locals := 160 }, [(0, 8, 11, 15)])
theorem vL_totalRecovery : VH mL_totalRecovery 2 := ⟨uw_816, uw_37, uw_817, ⟨by decide, by decide, by decide +kernel⟩, rfl⟩
abbrev mL_grade : MI := (yL_grade, cL_grade, 3, (some .int), { frames := 8, cells := 1, slots := 6, locals := 160 }, [(0, 8, 11, 15)])
theorem vL_grade : VH mL_grade 2 := ⟨uw_828, uw_37, uw_829, ⟨by decide, by decide, by decide +kernel⟩, rfl⟩
abbrev mL_isInLoop : MI := (yL_isInLoop, cL_isInLoop, 4, (some .int), { frames := 8, cells := 1, slots := 6, locals := 132 }, [(0, 16, 19, 25)])
theorem vL_isInLoop : VH mL_isInLoop 3 := ⟨uw_843, uw_37, uw_844, ⟨by decide, by decide, by decide +kernel⟩, rfl⟩
abbrev mL_recoveryFor : MI := (yL_recoveryFor, cL_recoveryFor, 5, (some .int), { frames := 8, cells := 2, slots := 12, locals := 165 }, [(0, 10, 13, 25), (0, 10, 17, 13)])
theorem vL_recoveryFor : VH mL_recoveryFor 4 := ⟨uw_851, uw_37, uw_852, ⟨by decide, by decide, by decide +kernel⟩, rfl⟩
abbrev mL_measure : MI := (yL_measure, cL_measure, 5, (some .int), { frames := 8, cells := 2, slots := 12, locals := 134 }, [(0, 10, 13, 13)])
theorem vL_measure : VH mL_measure 4 := ⟨uw_866, uw_37, uw_867, ⟨by decide, by decide, by decide +kernel⟩, rfl⟩
abbrev mL_possibleRecoveries : MI := (yL_possibleRecoveries, cL_possibleRecoveries, 5, (some .int), { frames := 8, cells := 2, slots := 12, locals := 166 }, [(0, 10, 13, 25)])
theorem vL_possibleRecoveries : VH mL_possibleRecoveries 4 := ⟨uw_878, uw_37, uw_879, ⟨by decide, by decide, by decide +kernel⟩, rfl⟩
abbrev mL_disturb : MI := (yL_disturb, cL_disturb, 6, (some .int), { frames := 8, cells := 1, slots := 6, locals := 138 }, [(0, 11, 14, 13)])
theorem vL_disturb : VH mL_disturb 4 := ⟨uw_889, uw_37, uw_890, ⟨by decide, by decide, by decide +kernel⟩, rfl⟩
abbrev mL_save : MI := (yL_save, cL_save, 4, (some .int), { frames := 8, cells := 1, slots := 6, locals := 131 }, [(0, 9, 12, 25)])
theorem vL_save : VH mL_save 3 := ⟨uw_902, uw_37, uw_903, ⟨by decide, by decide, by decide +kernel⟩, rfl⟩
abbrev mL_restore : MI := (yL_restore, cL_restore, 4, (some .int), { frames := 8, cells := 2, slots := 12, locals := 131 }, [(0, 9, 12, 25), (0, 9, 15, 15)])
theorem vL_restore : VH mL_restore 3 := ⟨uw_910, uw_37, uw_911, ⟨by decide, by decide, by decide +kernel⟩, rfl⟩
