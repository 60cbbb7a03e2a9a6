/-- the contract of a method with handlers -/
def ctH (g : G0) (μ : MI) (as : List Value) (w : Nat → va_E) (post : Option Value → (Nat → va_E) → Prop) (xp : String → (Nat → va_E) → Prop) : Prop :=
  vx_Met (gl g) (mN μ) (.codeWith (mN μ) (mC μ) (mL μ) (mT μ) (mH μ) :: UW) (mR μ) (va_Pc (as.map (emv (gA g))) (fun U => Kn g U U.heap ∧ Wo g w U.heap)) (Qn g post) (Xn g xp) (mR μ).cells (mR μ).slots (bigA g)
theorem ctH_of {g : G0} {μ : MI} {as : List Value} {w : Nat → va_E} {post : Option Value → (Nat → va_E) → Prop} {xp : String → (Nat → va_E) → Prop} (hG : Gd g) (L : List (Option Value)) (hy : plainName (mN μ).cls = true) (hL : argL as (mL μ) = L) (hn : (lg_sl (as.map (emv (gA g)))).length ≤ mL μ)
    (k : ∀ h : G1, wp g h μ w L [] (mR μ).cells (QQ g h μ post xp) 0) (h6 : (mR μ).slots = 6 * (mR μ).cells) : ctH g μ as w post xp := by
  refine vx_ofWH (cc := mC μ) (maxL := mL μ) (ret := mT μ) hy rfl ?_
  intro p e s m args below meth c s₁ B hml hv
  obtain ⟨rfl, hK, hWo⟩ := hv
  have hts := atoms_spec (ws := .codeWith (mN μ) (mC μ) (mL μ) (mT μ) (mH μ) :: UW) B.pre
  rw [lg_entry_eq]
  have hl := lv_entry (as.map (emv (gA g))) (n := mL μ) hn
  have htab : c.exceptionTable.toList = tableOf (mH μ) := vx_table (x := mN μ) B (hts _ List.mem_cons_self)
  exact k (p, e, (mR μ), s, m, _, below, meth, c) s.heap [] _ 0 0 ⟨B.exec, B.bytes, B.returns, hml, findClass_of_methodNamed B.named, fun w hw => hts w (List.mem_cons_of_mem _ hw), B.notSynchronized, htab, hK, hG, rfl⟩ ⟨hWo, va_S.rf, hasL_args hL hl, by omega, by omega⟩
