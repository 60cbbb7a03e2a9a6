section QS
variable {g : G0} {h : G1} {μ : MI} {w : Nat → va_E} {L : List (Option Value)} {st : List Value} {b : Nat} {Q : State → Prop} {pc : Nat}
theorem q_tswIn {k : Int32} {df lo hi : Int} {offs : Array Int} {len tgt : Nat} {off : Int} (d : decode (mC μ) pc = .ok (.tableswitch df lo hi offs, len)) (hin : ¬ (k.toInt < lo ∨ k.toInt > hi)) (ho : offs[(k.toInt - lo).toNat]? = some off) (ht : (pc : Int) + off = (tgt : Int)) (kk : wp g h μ w L st b Q tgt) : wp g h μ w L (.int k :: st) b Q pc := by
  intro H locs ls cells slots hs hd T hT X
  obtain ⟨t, a1, b1⟩ := kk H locs ls cells slots hs hd T hT X
  refine ⟨t, X.tableswitchIn hs.1 (g := F0 (jm h) pc ls (.int k :: st.map (emv (gA g)))) rfl rfl (by rw [hs.2.1]; exact d) hin ho (by show 0 ≤ (pc : Int) + off; omega) t ?_, b1⟩
  have e : ((pc : Int) + off).toNat = tgt := by omega
  show Steps _ _ _ (T.setTop { F0 (jm h) pc ls (.int k :: st.map (emv (gA g))) with pc := ((pc : Int) + off).toNat, stack := st.map (emv (gA g)) }) t
  rw [e]
  exact a1
theorem q_tswOut {k : Int32} {df lo hi : Int} {offs : Array Int} {len tgt : Nat} (d : decode (mC μ) pc = .ok (.tableswitch df lo hi offs, len)) (hout : k.toInt < lo ∨ k.toInt > hi) (ht : (pc : Int) + df = (tgt : Int)) (kk : wp g h μ w L st b Q tgt) : wp g h μ w L (.int k :: st) b Q pc := by
  intro H locs ls cells slots hs hd T hT X
  obtain ⟨t, a1, b1⟩ := kk H locs ls cells slots hs hd T hT X
  refine ⟨t, X.tableswitchOut hs.1 (g := F0 (jm h) pc ls (.int k :: st.map (emv (gA g)))) rfl rfl (by rw [hs.2.1]; exact d) hout (by show 0 ≤ (pc : Int) + df; omega) t ?_, b1⟩
  have e : ((pc : Int) + df).toNat = tgt := by omega
  show Steps _ _ _ (T.setTop { F0 (jm h) pc ls (.int k :: st.map (emv (gA g))) with pc := ((pc : Int) + df).toNat, stack := st.map (emv (gA g)) }) t
  rw [e]
  exact a1
end QS
