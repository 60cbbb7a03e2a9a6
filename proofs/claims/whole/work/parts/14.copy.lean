section QK
variable {g : G0} {h : G1} {μ : MI} {w : Nat → va_E} {L : List (Option Value)} {st : List Value} {b : Nat} {Q : State → Prop} {pc : Nat}
theorem q_copy {k0 k1 n0 n1 idx : Nat} {f f2 : Nat → Int32} {sp dp n : Int32} (d : decode (mC μ) pc = .ok (.invokestatic idx, 3)) (ml : Cond.methodLink (mN μ).cls idx arraycopyName ∈ UW) (u1 : Cond.native arraycopyName ∈ UW) (u2 : Cond.static arraycopyName ∈ UW) (u3 : Cond.initialized "java/lang/System" ∈ UW) (hk0 : k0 < NC) (hk1 : k1 < NC) (hw0 : w k0 = .inl (gI g, n0, .inl f)) (hw1 : w k1 = .inl (gI g, n1, .inl f2)) (a b9 c9 : Nat) (hsp : sp = nI a) (hdp : dp = nI b9) (hn : n = nI c9) (h4 : a + c9 ≤ n0) (h5 : b9 + c9 ≤ n1) (hz : n0 < 2147483648 ∧ n1 < 2147483648 ∧ (st.map fun v => v.category).sum ≤ 8) (hfr : 1 ≤ (mR μ).frames) (hlo : 8 + (nativeFrameWords "java/lang/System" "arraycopy" 5 + 11) ≤ (mR μ).locals)
    (kk : wp g h μ (va_up w k1 (.inl (gI g, n1, .inl (va_cpy f f2 a b9 c9)))) L st b Q (pc + 3)) : wp g h μ w L (.int n :: .int dp :: .ref k1 :: .int sp :: .ref k0 :: st) b Q pc := by
  intro H locs ls cells slots hs hd
  subst hsp hdp hn
  obtain ⟨z0, z1, z2⟩ := hz
  refine va_copyi (D := gD g) (ty := .int) hs.1 hs.2.1 (hs.ml.trans hd.2.2.1.1.symm) hs.own (hs.u _ ml) (hs.u _ u1) (hs.u _ u2) (hs.u _ u3) hs.K hd.1 (hs.G.D w) hd.2.1 k0 k1 0 0 (wl_arr hk0 hw0) (wl_arr hk1 hw1) rfl rfl rfl (nI_pos (by omega)) (nI_pos (by omega)) (nI_pos (by omega)) (by rw [nI_clamp (by omega), nI_clamp (by omega)]; exact h4) (by rw [nI_clamp (by omega), nI_clamp (by omega)]; exact h5) (fun _ _ => rfl) (by rw [hs.R]; exact hfr) (by rw [hs.R, emv_cats]; omega) d (fun H1 locs1 hP1 hD1 hS1 => ?_)
  rw [nI_clamp (by omega), nI_clamp (by omega), nI_clamp (by omega), wl_arr_set hk1] at hP1
  exact kk H1 locs1 ls cells slots hs ⟨hP1, hS1, hd.2.2⟩
end QK
