/-- the contract of a method with handlers -/
def ctH (g : G0) (μ : MI) (as : List Value) (w : Nat → va_E) (post : Option Value → (Nat → va_E) → Prop) (xp : String → (Nat → va_E) → Prop) : Prop :=
  vx_Met (gl g) (mN μ) (.codeWith (mN μ) (mC μ) (mL μ) (mT μ) (mH μ) :: UW) (mR μ) (va_Pc (as.map (emv (gA g))) (fun U => Kn g U U.heap ∧ Wo g w U.heap)) (Qn g post) (Xn g xp) (mR μ).cells (mR μ).slots (bigA g)
theorem ctH_of {g : G0} {μ : MI} {as : List Value} {w : Nat → va_E} {post : Option Value → (Nat → va_E) → Prop} {xp : String → (Nat → va_E) → Prop} (hG : Gd g) (L : List (Option Value)) (hy : plainName (mN μ).cls = true) (hL : argL as (mL μ) = L) (hn : (lg_sl (as.map (emv (gA g)))).length ≤ mL μ)
    (k : ∀ h : G1, wp g h μ w L [] (mR μ).cells (QQ g h μ post xp) 0) (h6 : (mR μ).slots = 6 * (mR μ).cells) : ctH g μ as w post xp := by
  refine vx_ofWH (cc := mC μ) (maxL := mL μ) (ret := mT μ) hy rfl ?_
  intro p e s m args below meth c s₁ B hml hv
  obtain ⟨rfl, hK, hWo⟩ := hv
  have hts := atoms_spec (ws := .codeWith (mN μ) (mC μ) (mL μ) (mT μ) (mH μ) :: UW) B.pre
  rw [lg_entry_eq]
  have hl := lv_entry (as.map (emv (gA g))) (n := mL μ) hn
  have htab : c.exceptionTable.toList = tableOf (mH μ) := vx_table (x := mN μ) B (hts _ List.mem_cons_self)
  exact k (p, e, (mR μ), s, m, _, below, meth, c) s.heap [] _ 0 0 ⟨B.exec, B.bytes, B.returns, hml, findClass_of_methodNamed B.named, fun w hw => hts w (List.mem_cons_of_mem _ hw), B.notSynchronized, htab, hK, hG, rfl⟩ ⟨hWo, va_S.rf, hasL_args hL hl, by omega, by omega⟩
/-- L2 is L with nothing known at i -/
def stNo (L L2 : List (Option Value)) (i : Nat) : Prop := ∀ (j : Nat) (u : Value), L2[j]? = some (some u) → j ≠ i ∧ L[j]? = some (some u) ∧ (j + 1 = i → ¬ u.category = 2)
theorem hasL_stN {ad : Nat → Nat} {ls : Array Slot} {n i : Nat} {v : Value} {L L2 : List (Option Value)} (hk : stNo L L2 i) (h : lv_has ls n ((i, v) :: (lvs ad L).filter (fun q => !(q.1 == i) && !(q.1 + 1 == i && q.2.category == 2)))) : hasL ad ls n L2 := by
  refine ⟨h.1, h.2.1, fun j u hj => ?_⟩
  obtain ⟨h1, h2, h3⟩ := hk j u hj
  refine h.2.2 (j, emv ad u) (List.mem_cons_of_mem _ (List.mem_filter.mpr ⟨lvs_in h2, ?_⟩))
  have e1 : (j == i) = false := beq_eq_false_iff_ne.mpr h1
  simp only [e1, emv_cat, Bool.not_false, Bool.true_and, Bool.not_eq_true', Bool.and_eq_false_iff, beq_eq_false_iff_ne]
  by_cases hji : j + 1 = i
  · exact Or.inr (h3 hji)
  · exact Or.inl hji
section QH
variable {g : G0} {h : G1} {μ : MI} {w : Nat → va_E} {L : List (Option Value)} {st : List Value} {b : Nat} {Q : State → Prop} {pc : Nat}
/-- the row of the table that takes E at pc, and the store behind it -/
def catR (μ : MI) (pc : Nat) (E : String) (pre : List ExceptionTableEntry) (x : ExceptionTableEntry) (suf : List ExceptionTableEntry) : Prop :=
  tableOf (mH μ) = pre ++ x :: suf ∧ (∀ z ∈ pre, covers z pc = false ∨ (z.catchType ≠ 0 ∧ ∃ nm : String, Cond.classLink (mN μ).cls z.catchType nm ∈ UW ∧ (E, nm) ∈ ncs)) ∧ covers x pc = true ∧ x.catchType ≠ 0 ∧ Cond.classLink (mN μ).cls x.catchType E ∈ UW ∧ E ∈ casts
theorem cat_ok {E : String} {pre suf : List ExceptionTableEntry} {x : ExceptionTableEntry} {H1 : Heap} {locs1 : List Loc} {ls : Array Slot} {q : Addr} {ce : Cell} {cells slots : Nat} {rest : List Value} (hc : catR μ pc E pre x suf)
    (kk : W (jp h) (gl g) (je h) (jR h) (js h) (jm h) (ja h) (jb h) (jM h) (jc h) H1 locs1 cells slots Q (F0 (jm h) x.handlerPc ls [.ref q])) (hs : Sta g h μ) (h1 : H1[q]? = some ce) (h2 : ce.vm = .none) (h3 : (js h).vm.findClass E = some ce.cls) :
    vx_W (jp h) (gl g) (je h) (jR h) (js h) (jm h) (ja h) (jb h) (jM h) (jc h) H1 locs1 cells slots Q (F0 (jm h) pc ls rest) q := by
  obtain ⟨c1, c2, c3, c4, c5, c6⟩ := hc
  refine vx_catch (own := (mN μ).cls) (name := E) (E := E) (ce := ce) hs.own pre x suf (hs.tab.trans c1) (fun z hz => ?_) c3 c4 (hs.u _ c5) (va_Nw.use rfl (hs.Kn.2.2.2.2.2.2.1 E c6)) h1 h2 h3 kk
  rcases c2 z hz with hz1 | ⟨hz1, nm, hz2, hz3⟩
  · exact Or.inl hz1
  · exact Or.inr ⟨hz1, nm, hs.u _ hz2, hs.Kn.2.2.2.2.2.2.2 _ hz3⟩
theorem q_callVtc {ν : MI} {k ci idx n N9 : Nat} {T9 : u_T} {fs As rest : List Value} {E : String} {w3 : Nat → va_E} {pre suf : List ExceptionTableEntry} {x : ExceptionTableEntry} {i : Fin 4} {L2 : List (Option Value)} (d : decode (mC μ) pc = .ok (.invokevirtual idx, 3)) (ml : Cond.methodLink (mN μ).cls idx (mN ν) ∈ UW) (vw : VW ν n) (hc : ctt g ν (.ref k :: As) w E w3) (hk : k < NC) (hw : w k = .inr (ci, fs)) (hci : vwCl[ci]? = some ((mN ν).cls, T9, N9)) (hst : st = As.reverse ++ .ref k :: rest) (hn : As.length = n) (hcat : (rest.map fun v => v.category).sum ≤ 8) (hfr : (mR ν).frames + 1 ≤ (mR μ).frames) (hlo : 8 + (mL ν + 11) + (mR ν).locals ≤ (mR μ).locals) (b2 : Nat) (hb : (mR ν).cells + b2 ≤ b)
    (hr : catR μ pc E pre x suf) (da : decode (mC μ) x.handlerPc = .ok (.astore_n i, 1)) (hi : (i : Nat) < mL μ) (hL : stNo L L2 i) (kk : wp g h μ w3 L2 [] b2 Q (x.handlerPc + 1)) : wp g h μ w L st b Q pc := fun H locs ls cells slots hs hd =>
  run_ok hs hd hb vw.2.2.2.2.2 (q_runV d ml vw hc hk hw hci hst hn hcat hfr hlo hb hs hd) (fun v w1 hv => hv.elim)
    (fun E1 w1 H1 locs1 q ce hx hd2 h1 h2 h3 => by
      obtain ⟨rfl, rfl⟩ := hx
      exact cat_ok hr (lv_astore_n hs.1 hs.2.1 da rfl (lvs_has hd2.2.2.1) hi rfl (fun ls2 hl2 => kk H1 locs1 ls2 _ _ hs ⟨hd2.1, hd2.2.1, hasL_stN hL hl2, hd2.2.2.2⟩)) hs h1 h2 h3)
theorem q_callVtw {ν : MI} {k ci idx n N9 : Nat} {T9 : u_T} {fs As rest : List Value} {E : String} {w3 : Nat → va_E} {pre suf : List ExceptionTableEntry} {x : ExceptionTableEntry} {i : Nat} {L2 : List (Option Value)} (d : decode (mC μ) pc = .ok (.invokevirtual idx, 3)) (ml : Cond.methodLink (mN μ).cls idx (mN ν) ∈ UW) (vw : VW ν n) (hc : ctt g ν (.ref k :: As) w E w3) (hk : k < NC) (hw : w k = .inr (ci, fs)) (hci : vwCl[ci]? = some ((mN ν).cls, T9, N9)) (hst : st = As.reverse ++ .ref k :: rest) (hn : As.length = n) (hcat : (rest.map fun v => v.category).sum ≤ 8) (hfr : (mR ν).frames + 1 ≤ (mR μ).frames) (hlo : 8 + (mL ν + 11) + (mR ν).locals ≤ (mR μ).locals) (b2 : Nat) (hb : (mR ν).cells + b2 ≤ b)
    (hr : catR μ pc E pre x suf) (da : decode (mC μ) x.handlerPc = .ok (.astore i, 2)) (hi : i < mL μ) (hL : stNo L L2 i) (kk : wp g h μ w3 L2 [] b2 Q (x.handlerPc + 2)) : wp g h μ w L st b Q pc := fun H locs ls cells slots hs hd =>
  run_ok hs hd hb vw.2.2.2.2.2 (q_runV d ml vw hc hk hw hci hst hn hcat hfr hlo hb hs hd) (fun v w1 hv => hv.elim)
    (fun E1 w1 H1 locs1 q ce hx hd2 h1 h2 h3 => by
      obtain ⟨rfl, rfl⟩ := hx
      exact cat_ok hr (lv_astore hs.1 hs.2.1 da (lvs_has hd2.2.2.1) hi rfl (fun ls2 hl2 => kk H1 locs1 ls2 _ _ hs ⟨hd2.1, hd2.2.1, hasL_stN hL hl2, hd2.2.2.2⟩)) hs h1 h2 h3)
/-- a call that can not throw, under any table -/
theorem q_callVh {ν : MI} {k ci idx n N9 : Nat} {T9 : u_T} {fs As rest : List Value} {postc : Option Value → (Nat → va_E) → Prop} (d : decode (mC μ) pc = .ok (.invokevirtual idx, 3)) (ml : Cond.methodLink (mN μ).cls idx (mN ν) ∈ UW) (vw : VW ν n) (hc : ct g ν (.ref k :: As) w postc (fun _ _ => False)) (hk : k < NC) (hw : w k = .inr (ci, fs)) (hci : vwCl[ci]? = some ((mN ν).cls, T9, N9)) (hst : st = As.reverse ++ .ref k :: rest) (hn : As.length = n) (hcat : (rest.map fun v => v.category).sum ≤ 8) (hfr : (mR ν).frames + 1 ≤ (mR μ).frames) (hlo : 8 + (mL ν + 11) + (mR ν).locals ≤ (mR μ).locals) (b2 : Nat) (hb : (mR ν).cells + b2 ≤ b)
    (kk : ∀ v w1, postc v w1 → wp g h μ w1 L (v.toList ++ rest) b2 Q (pc + 3)) : wp g h μ w L st b Q pc := fun H locs ls cells slots hs hd =>
  run_ok hs hd hb vw.2.2.2.2.2 (q_runV d ml vw hc hk hw hci hst hn hcat hfr hlo hb hs hd) kk (fun E1 w1 H1 locs1 q ce hx hd2 h1 h2 h3 => hx.elim)
end QH
