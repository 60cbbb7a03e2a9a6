/-- a method that throws E and leaves w3 -/
def ctt (g : G0) (ν : MI) (as : List Value) (w : Nat → va_E) (E : String) (w3 : Nat → va_E) : Prop := ct g ν as w (fun _ _ => False) (fun E1 w1 => E1 = E ∧ w1 = w3)
section QW
variable {g : G0} {h : G1} {μ : MI} {w : Nat → va_E} {L : List (Option Value)} {st : List Value} {b : Nat} {Q : State → Prop} {pc : Nat}
theorem q_callVt {ν : MI} {k ci idx n N9 : Nat} {T9 : u_T} {fs As rest : List Value} {E : String} {w3 : Nat → va_E} {post : Option Value → (Nat → va_E) → Prop} {xp : String → (Nat → va_E) → Prop} (d : decode (mC μ) pc = .ok (.invokevirtual idx, 3)) (ml : Cond.methodLink (mN μ).cls idx (mN ν) ∈ UW) (vw : VW ν n) (hc : ctt g ν (.ref k :: As) w E w3) (hk : k < NC) (hw : w k = .inr (ci, fs)) (hci : vwCl[ci]? = some ((mN ν).cls, T9, N9)) (hst : st = As.reverse ++ .ref k :: rest) (hn : As.length = n) (hcat : (rest.map fun v => v.category).sum ≤ 8) (hfr : (mR ν).frames + 1 ≤ (mR μ).frames) (hlo : 8 + (mL ν + 11) + (mR ν).locals ≤ (mR μ).locals) (b2 : Nat) (hb : (mR ν).cells + b2 ≤ b) (hH : mH μ = []) (kx : xp E w3) : wp g h μ w L st b (QQ g h μ post xp) pc := fun H locs ls cells slots hs hd => run_ok hs hd hb vw.2.2.2.2.2 (q_runV d ml vw hc hk hw hci hst hn hcat hfr hlo hb hs hd) (fun _ _ z => z.elim) (fun E1 w1 H1 locs1 q ce hxx hd1 h1 h2 h3 => by obtain ⟨rfl, rfl⟩ := hxx; exact out_ok hH kx hs hd1 h1 h2 h3)
theorem q_callSt {ν : MI} {idx n : Nat} {As rest : List Value} {E : String} {w3 : Nat → va_E} {post : Option Value → (Nat → va_E) → Prop} {xp : String → (Nat → va_E) → Prop} (d : decode (mC μ) pc = .ok (.invokestatic idx, 3)) (ml : Cond.methodLink (mN μ).cls idx (mN ν) ∈ UW) (vw : VS ν n) (hc : ctt g ν As w E w3) (hst : st = As.reverse ++ rest) (hn : As.length = n) (hcat : (rest.map fun v => v.category).sum ≤ 8) (hfr : (mR ν).frames + 1 ≤ (mR μ).frames) (hlo : 8 + (mL ν + 11) + (mR ν).locals ≤ (mR μ).locals) (b2 : Nat) (hb : (mR ν).cells + b2 ≤ b) (hH : mH μ = []) (kx : xp E w3) : wp g h μ w L st b (QQ g h μ post xp) pc := fun H locs ls cells slots hs hd => run_ok hs hd hb vw.2.2.2.2 (q_runS d ml vw hc hst hn hcat hfr hlo hb hs hd) (fun _ _ z => z.elim) (fun E1 w1 H1 locs1 q ce hxx hd1 h1 h2 h3 => by obtain ⟨rfl, rfl⟩ := hxx; exact out_ok hH kx hs hd1 h1 h2 h3)
theorem q_throwW {post : Option Value → (Nat → va_E) → Prop} {xp : String → (Nat → va_E) → Prop} {ik is ic : Nat} {E text : String} (d0 : decode (mC μ) pc = .ok (.new ik, 3)) (d3 : decode (mC μ) (pc + 3) = .ok (.dup, 1)) (d4 : decode (mC μ) (pc + 4) = .ok (.ldc_w is, 3)) (d6 : decode (mC μ) (pc + 7) = .ok (.invokespecial ic, 3)) (d9 : decode (mC μ) (pc + 10) = .ok (.athrow, 1))
    (hk : Cond.classLink RX9 ik E ∈ UW) (hi : Cond.initialized E ∈ UW) (hstr : (is, text) ∈ strs) (hat : okT ic E) (hown : (mN μ).cls = RX9) (hH : mH μ = []) (hfr : 5 < (mR μ).frames) (hcat : (st.map fun v => v.category).sum ≤ 8) (hlo : 90 ≤ (mR μ).locals) (hb : 1 ≤ b) (hx : xp E w) : wp g h μ w L st b (QQ g h μ post xp) pc := by
  intro H locs ls cells slots hs hd
  obtain ⟨a1, a2, a3, a4, a5⟩ := hat
  have hd4 := hd.2.2.2.1
  have hd5 := hd.2.2.2.2
  obtain ⟨sa, hsa⟩ := hs.Kn.2.2.1 _ hstr
  have ho := hs.own
  rw [hown] at ho
  have hbad : ∀ x ∈ badW, x.before (ja h) (js h) = true := by
    intro x hx
    rcases List.mem_append.mp hx with z | z
    · obtain ⟨y, hy, rfl⟩ := List.mem_map.mp z
      exact va_Nw.use rfl (hs.Kn.2.2.2.2.2.1 y hy)
    · obtain ⟨y, hy, rfl⟩ := List.mem_map.mp z
      exact va_Nw.use rfl (hs.Kn.2.2.2.2.2.2.1 y hy)
  refine vx_throwSW (names := xNames) (text := text) (sa := sa) (A := bigA g) hs.1 hs.2.1 hs.G.1 ho a3 a4 (hs.u _ hk) (hs.u _ hi) hsa (vx_hat (fun x hx => hs.u x (a1 x hx)) a2 hbad) ?_ hs.Kn.2.1.1 hs.Kn.2.1.2 hd.2.1 (hd.2.2.1.1.trans hs.ml.symm) d0 d3 d4 d6 d9 ?_ (by rw [hs.R]; exact hfr) ?_ (by rw [hs.R]; omega) (by rw [hs.R]; omega) hs.locks (fun t _ hz hk2 => ⟨w, hx, ?_, ?_⟩) hd.2.1.2.2 (by omega) (by omega)
  · intro x hx
    rcases List.mem_cons.mp hx with rfl | hx
    · rfl
    · rcases List.mem_cons.mp hx with rfl | hx
      · rfl
      · exact a5 x hx
  · intro x hx
    rw [hs.tab, hH] at hx
    cases hx
  · rw [hs.R, emv_cats]
    have : xNames.length = 2 := rfl
    omega
  · refine va_P.kept hd.1 (fun k q hk9 => hk2 q.1 (hd.1 k q hk9).lt)
  · exact ⟨Nat.le_trans hd.2.1.1 hz, fun q h1 h2 => by rw [hk2 q (Nat.lt_of_lt_of_le h1 hd.2.1.1)]; exact hd.2.1.2.1 q h1 h2⟩
end QW
theorem rng_ok {v lo hi : Nat} (h1 : lo ≤ v) (h2 : v ≤ hi) (hh : hi < 2 ^ 31) : nI lo ≤ nI v ∧ nI v ≤ nI hi := ⟨nI_le h1 (by omega), nI_le h2 hh⟩
theorem two_ok {d : Nat} (h : d < 2) : nI d = 0 ∨ nI d = 1 := by
  rcases (show d = 0 ∨ d = 1 by omega) with rfl | rfl
  · exact Or.inl rfl
  · exact Or.inr rfl
theorem cel_ok {f0 : Int32} {N c : Nat} (h : f0 = nI N) (hN : N ≤ 6) (hc : c < N) : 0 ≤ nI c ∧ nI c < f0 := by
  subst h
  exact ⟨nI_pos' (by omega), nI_lt hc (by omega)⟩
theorem chr_nI {c : Nat} (h : c < 65536) : ((nI c).toUInt32 % 65536).toInt32 = nI c := by
  rw [pk_char, pk_tn (by omega), Nat.mod_eq_of_lt h]
