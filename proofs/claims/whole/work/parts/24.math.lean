theorem q_mmin {g : G0} {h : G1} {μ : MI} {w : Nat → va_E} {L : List (Option Value)} {st : List Value} {b : Nat} {Q : State → Prop} {pc idx : Nat} {x y : Int32} (d : decode (mC μ) pc = .ok (.invokestatic idx, 3)) (ml : Cond.methodLink (mN μ).cls idx Lib.Math.min.name ∈ UW) (hfr : 1 ≤ (mR μ).frames) (hcat : (st.map fun v => v.category).sum ≤ 8) (hlo : 21 ≤ (mR μ).locals) (kk : wp g h μ w L (.int (minI x y) :: st) b Q (pc + 3)) : wp g h μ w L (.int y :: .int x :: st) b Q pc := by
  intro H locs ls cells slots hs hd
  have hd4 := hd.2.2.2.1
  have hd5 := hd.2.2.2.2
  refine va_mmin hs.1 hs.2.1 (hs.ml.trans hd.2.2.1.1.symm) hs.own (hs.u _ ml) (hs.u _ uw_308) (hs.u _ uw_43) (hs.u _ uw_309) (by rw [hs.R]; exact hfr) (by rw [hs.R, emv_cats]; omega) (by rw [hs.R]; omega) (by rw [hs.R]; omega) d ?_
  have e : (if y < x then y else x) = minI x y := by
    by_cases z : x ≤ y
    · rw [minI, if_pos z, if_neg (Int32.not_lt.mpr z)]
    · rw [minI, if_neg z, if_pos (Int32.not_le.mp z)]
  rw [e]
  exact kk H locs ls cells slots hs hd
