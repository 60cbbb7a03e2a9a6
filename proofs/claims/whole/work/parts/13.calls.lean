section QC
variable {g : G0} {h : G1} {μ : MI} {w : Nat → va_E} {L : List (Option Value)} {st : List Value} {b : Nat} {Q : State → Prop} {pc : Nat}
theorem Dyn.kn {g : G0} {h : G1} {μ : MI} {w : Nat → va_E} {L : List (Option Value)} {b : Nat} {H : Heap} {locs : List Loc} {ls : Array Slot} {cells slots : Nat} (hs : Sta g h μ) (hd : Dyn g h μ w L b H locs ls cells slots) {U : State} (hU : U.heap = H) (hW : (js h).WarmedH U.vm) : Kn g U U.heap := by
  refine Kn.warm hW (fun a ha hb => ?_) hs.Kn
  rw [hU]
  exact hd.2.1.2.1 a ha hb
/-- what a call's run gives -/
theorem run_ok {rest : List Value} {mc ms b2 : Nat} {a : Array Value} {postc : Option Value → (Nat → va_E) → Prop} {xpc : String → (Nat → va_E) → Prop} {H : Heap} {locs : List Loc} {ls : Array Slot} {cells slots : Nat} {st0 : List Value}
    (hs : Sta g h μ) (hd : Dyn g h μ w L b H locs ls cells slots) (hb : mc + b2 ≤ b) (h6 : ms = 6 * mc)
    (hr : vx_Run (jp h) (gl g) (je h) (jR h) (js h) (jm h) (ja h) (jb h) (jM h) (jc h) H locs cells slots mc ms (F0 (jm h) pc ls st0) (rest.map (emv (gA g))) (Qn g postc a) (Xn g xpc) (bigA g))
    (kk : ∀ (v : Option Value) (w' : Nat → va_E), postc v w' → wp g h μ w' L (v.toList ++ rest) b2 Q (pc + 3))
    (kx : ∀ (E : String) (w' : Nat → va_E) (H1 : Heap) (locs1 : List Loc) (q : Addr) (ce : Cell), xpc E w' → Dyn g h μ w' L b2 H1 locs1 ls (cells + mc) (slots + ms) → H1[q]? = some ce → ce.vm = .none → (js h).vm.findClass E = some ce.cls →
      vx_W (jp h) (gl g) (je h) (jR h) (js h) (jm h) (ja h) (jb h) (jM h) (jc h) H1 locs1 (cells + mc) (slots + ms) Q (F0 (jm h) pc ls (rest.map (emv (gA g)))) q) :
    W (jp h) (gl g) (je h) (jR h) (js h) (jm h) (ja h) (jb h) (jM h) (jc h) H locs cells slots Q (F0 (jm h) pc ls st0) := by
  intro T hT X
  have hd4 := hd.2.2.2.1
  have hd5 := hd.2.2.2.2
  rcases hr T hT X with ⟨v, st₀, t, T', Lc, h0, X', hL, e1, e2, ⟨⟨v1, w', hv, hp, hW⟩, hF⟩, st9⟩ | ⟨q, st₀, t, T', Lc, E, ce, h0, X', hL, e1, e2, ⟨w', hxp, hW, hF⟩, hce, hcv, hcl, st9⟩
  · obtain ⟨-, -, hS'⟩ := vx_keep h0 e1 hd.2.1 (fun q _ z => z) (fun q z => z) hL hF
    have hv2 : v = v1.map (emv (gA g)) := by injection hv
    have K := kk v1 w' hp T'.heap (locs ++ Lc) ls (cells + mc) (slots + ms) hs ⟨by rw [e1]; exact hW, hS', hd.2.2.1, by omega, by omega⟩
    obtain ⟨t2, a1, b1⟩ := K T' rfl X'
    refine ⟨t2, st9 t2 ?_, b1⟩
    rw [hv2]
    cases v1 with
    | none => exact a1
    | some z => exact a1
  · obtain ⟨-, -, hS'⟩ := vx_keep h0 e1 hd.2.1 (fun q _ z => z) (fun q z => z) hL hF
    obtain ⟨t2, a1, b1⟩ := kx E w' T'.heap (locs ++ Lc) q ce hxp ⟨by rw [e1]; exact hW, hS', hd.2.2.1, by omega, by omega⟩ (by rw [e1]; exact hce) hcv hcl T' rfl X'
    exact ⟨t2, st9.trans a1, b1⟩
/-- an exception goes on to the caller -/
theorem out_ok {post : Option Value → (Nat → va_E) → Prop} {xp : String → (Nat → va_E) → Prop} (hH : mH μ = []) {E : String} {w' : Nat → va_E} {H1 : Heap} {locs1 : List Loc} {ls : Array Slot} {q : Addr} {ce : Cell} {cells slots b2 : Nat} {rest : List Value} (hx : xp E w') (hs : Sta g h μ) (hd : Dyn g h μ w' L b2 H1 locs1 ls cells slots) (h1 : H1[q]? = some ce) (h2 : ce.vm = .none) (h3 : (js h).vm.findClass E = some ce.cls) :
    vx_W (jp h) (gl g) (je h) (jR h) (js h) (jm h) (ja h) (jb h) (jM h) (jc h) H1 locs1 cells slots (QQ g h μ post xp) (F0 (jm h) pc ls rest) q := by
  refine vx_out (E := E) (ce := ce) ?_ hs.locks h1 h2 h3 (fun t ht _ => ⟨w', hx, ?_, hd.2.1.F ht⟩) hd.2.1.2.2 (by have := hd.2.2.2.1; omega) (by have := hd.2.2.2.2; omega)
  · intro x hx2
    rw [hs.tab, hH] at hx2
    cases hx2
  · rw [ht]
    exact hd.1
/-- the words that a call of an instance method needs, those of the link apart -/
def VW (ν : MI) (n : Nat) : Prop := Cond.instanceMethod (mN ν) ∈ UW ∧ Cond.selects (mN ν).cls (mN ν) (mN ν) ∈ UW ∧ Cond.initialized (mN ν).cls ∈ UW ∧ Cond.code (mN ν) (mC ν) (mL ν) (mT ν) ∈ UW ∧ ((mN ν).cls ≠ "java/lang/invoke/MethodHandle" ∧ (mN ν).cls ≠ "java/lang/invoke/VarHandle" ∧ (parseMethodDescriptor (mN ν).desc).map (fun d => d.parameters.length) = some n) ∧ (mR ν).slots = 6 * (mR ν).cells
def VS (ν : MI) (n : Nat) : Prop := Cond.static (mN ν) ∈ UW ∧ Cond.initialized (mN ν).cls ∈ UW ∧ Cond.code (mN ν) (mC ν) (mL ν) (mT ν) ∈ UW ∧ ((mN ν).cls ≠ "java/lang/invoke/MethodHandle" ∧ (mN ν).cls ≠ "java/lang/invoke/VarHandle" ∧ (parseMethodDescriptor (mN ν).desc).map (fun d => d.parameters.length) = some n) ∧ (mR ν).slots = 6 * (mR ν).cells
theorem stk_V {ad : Nat → Nat} {As rest : List Value} {k : Nat} : (As.reverse ++ .ref k :: rest).map (emv ad) = (As.map (emv ad)).reverse ++ .ref (ad k) :: rest.map (emv ad) := by
  rw [List.map_append, List.map_reverse]
  rfl
theorem stk_S {ad : Nat → Nat} {As rest : List Value} : (As.reverse ++ rest).map (emv ad) = (As.map (emv ad)).reverse ++ rest.map (emv ad) := by
  rw [List.map_append, List.map_reverse]
theorem q_runV {ν : MI} {k ci idx n N9 : Nat} {T9 : u_T} {fs As rest : List Value} {postc : Option Value → (Nat → va_E) → Prop} {xpc : String → (Nat → va_E) → Prop} {b2 : Nat} (d : decode (mC μ) pc = .ok (.invokevirtual idx, 3)) (ml : Cond.methodLink (mN μ).cls idx (mN ν) ∈ UW) (vw : VW ν n) (hc : ct g ν (.ref k :: As) w postc xpc) (hk : k < NC) (hw : w k = .inr (ci, fs)) (hci : vwCl[ci]? = some ((mN ν).cls, T9, N9)) (hst : st = As.reverse ++ .ref k :: rest) (hn : As.length = n) (hcat : (rest.map fun v => v.category).sum ≤ 8) (hfr : (mR ν).frames + 1 ≤ (mR μ).frames) (hlo : 8 + (mL ν + 11) + (mR ν).locals ≤ (mR μ).locals) (hb : (mR ν).cells + b2 ≤ b)
    {H : Heap} {locs : List Loc} {ls : Array Slot} {cells slots : Nat} (hs : Sta g h μ) (hd : Dyn g h μ w L b H locs ls cells slots) :
    vx_Run (jp h) (gl g) (je h) (jR h) (js h) (jm h) (ja h) (jb h) (jM h) (jc h) H locs cells slots (mR ν).cells (mR ν).slots (F0 (jm h) pc ls (st.map (emv (gA g)))) (rest.map (emv (gA g))) (Qn g postc (Value.ref (gA g k) :: As.map (emv (gA g))).toArray) (Xn g xpc) (bigA g) := by
  obtain ⟨v1, v2, v3, v4, v5, v6⟩ := vw
  have hd4 := hd.2.2.2.1
  have hd5 := hd.2.2.2.2
  refine vx_runV (Ts := UW) (As := As.map (emv (gA g))) (b := gA g k) (C := (mN ν).cls) (n := n) (nL := mL μ) ⟨hs.1, hs.2.1, hs.ml, hs.own, hs.u⟩ hc ⟨callB_of n hs.u (UW_in0 v4) rfl rfl rfl (hs.u _ v3) (hs.u _ ml) v5 ⟨by rw [hs.R]; exact hfr, by rw [hs.R]; exact hlo⟩, hs.u _ v1, hs.u _ v2⟩ ⟨ct_blind, va_recv (q0 := k) hs.K hd.1 hci (wl_obj hk hw), fun U hU hW => ⟨rfl, hd.kn hs hU hW, by rw [hU]; exact hd.1⟩⟩ rfl (by rw [List.length_map]; exact hn) hd.2.2.1.1 (by rw [hst]; exact stk_V) (lv_room (by rw [emv_cats]; exact hcat)) d ⟨by rw [hs.R]; omega, by rw [hs.R]; omega⟩
theorem q_runS {ν : MI} {idx n : Nat} {As rest : List Value} {postc : Option Value → (Nat → va_E) → Prop} {xpc : String → (Nat → va_E) → Prop} {b2 : Nat} (d : decode (mC μ) pc = .ok (.invokestatic idx, 3)) (ml : Cond.methodLink (mN μ).cls idx (mN ν) ∈ UW) (vw : VS ν n) (hc : ct g ν As w postc xpc) (hst : st = As.reverse ++ rest) (hn : As.length = n) (hcat : (rest.map fun v => v.category).sum ≤ 8) (hfr : (mR ν).frames + 1 ≤ (mR μ).frames) (hlo : 8 + (mL ν + 11) + (mR ν).locals ≤ (mR μ).locals) (hb : (mR ν).cells + b2 ≤ b)
    {H : Heap} {locs : List Loc} {ls : Array Slot} {cells slots : Nat} (hs : Sta g h μ) (hd : Dyn g h μ w L b H locs ls cells slots) :
    vx_Run (jp h) (gl g) (je h) (jR h) (js h) (jm h) (ja h) (jb h) (jM h) (jc h) H locs cells slots (mR ν).cells (mR ν).slots (F0 (jm h) pc ls (st.map (emv (gA g)))) (rest.map (emv (gA g))) (Qn g postc (As.map (emv (gA g))).toArray) (Xn g xpc) (bigA g) := by
  obtain ⟨v1, v3, v4, v5, v6⟩ := vw
  have hd4 := hd.2.2.2.1
  have hd5 := hd.2.2.2.2
  refine vx_runS (Ts := UW) (As := As.map (emv (gA g))) (n := n) (nL := mL μ) ⟨hs.1, hs.2.1, hs.ml, hs.own, hs.u⟩ hc ⟨callB_of n hs.u (UW_in0 v4) rfl rfl rfl (hs.u _ v3) (hs.u _ ml) v5 ⟨by rw [hs.R]; exact hfr, by rw [hs.R]; exact hlo⟩, hs.u _ v1⟩ ⟨ct_blind, fun U hU hW => ⟨rfl, hd.kn hs hU hW, by rw [hU]; exact hd.1⟩⟩ rfl (by rw [List.length_map]; exact hn) hd.2.2.1.1 (by rw [hst]; exact stk_S) (lv_room (by rw [emv_cats]; exact hcat)) d ⟨by rw [hs.R]; omega, by rw [hs.R]; omega⟩
theorem q_runSN {ν : MI} {idx n : Nat} {host : String} {As rest : List Value} {postc : Option Value → (Nat → va_E) → Prop} {xpc : String → (Nat → va_E) → Prop} {b2 : Nat} (d : decode (mC μ) pc = .ok (.invokestatic idx, 3)) (ml : ((mN μ).cls, idx, mN ν, host) ∈ nestM) (vw : VS ν n) (hc : ct g ν As w postc xpc) (hst : st = As.reverse ++ rest) (hn : As.length = n) (hcat : (rest.map fun v => v.category).sum ≤ 8) (hfr : (mR ν).frames + 1 ≤ (mR μ).frames) (hlo : 8 + (mL ν + 11) + (mR ν).locals ≤ (mR μ).locals) (hb : (mR ν).cells + b2 ≤ b)
    {H : Heap} {locs : List Loc} {ls : Array Slot} {cells slots : Nat} (hs : Sta g h μ) (hd : Dyn g h μ w L b H locs ls cells slots) :
    vx_Run (jp h) (gl g) (je h) (jR h) (js h) (jm h) (ja h) (jb h) (jM h) (jc h) H locs cells slots (mR ν).cells (mR ν).slots (F0 (jm h) pc ls (st.map (emv (gA g)))) (rest.map (emv (gA g))) (Qn g postc (As.map (emv (gA g))).toArray) (Xn g xpc) (bigA g) := by
  obtain ⟨v1, v3, v4, v5, v6⟩ := vw
  have hd4 := hd.2.2.2.1
  have hd5 := hd.2.2.2.2
  refine vx_runSN (host := host) (Ts := UW) (As := As.map (emv (gA g))) (n := n) (nL := mL μ) ⟨hs.1, hs.2.1, hs.ml, hs.own, hs.u⟩ hc ⟨va_cnB n hs.u (UW_in0 v4) rfl rfl rfl (hs.Kn.2.2.2.2.1 _ ml) (hs.u _ v3) v5 ⟨by rw [hs.R]; exact hfr, by rw [hs.R]; exact hlo⟩, hs.u _ v1, trivial⟩ ⟨ct_blind, fun U hU hW => ⟨rfl, hd.kn hs hU hW, by rw [hU]; exact hd.1⟩⟩ rfl (by rw [List.length_map]; exact hn) hd.2.2.1.1 (by rw [hst]; exact stk_S) (lv_room (by rw [emv_cats]; exact hcat)) d ⟨by rw [hs.R]; omega, by rw [hs.R]; omega⟩
/-- a method that returns r and leaves w' -/
def ctv (g : G0) (ν : MI) (as : List Value) (w : Nat → va_E) (r : Value) (w' : Nat → va_E) : Prop := ct g ν as w (fun v w1 => v = some r ∧ w1 = w') (fun _ _ => False)
def ctu (g : G0) (ν : MI) (as : List Value) (w w' : Nat → va_E) : Prop := ct g ν as w (fun v w1 => v = none ∧ w1 = w') (fun _ _ => False)
/-- a method that returns where C holds, and else throws E and changes nothing -/
def ctx (g : G0) (ν : MI) (as : List Value) (w : Nat → va_E) (C : Prop) (r : Option Value) (w' : Nat → va_E) (E : String) : Prop := ct g ν as w (fun v w1 => C ∧ v = r ∧ w1 = w') (fun E1 w1 => ¬ C ∧ E1 = E ∧ w1 = w)
theorem kx_no {xpc : String → (Nat → va_E) → Prop} (hx : ∀ E w', ¬ xpc E w') {P : String → (Nat → va_E) → Heap → List Loc → Addr → Cell → Prop} : ∀ (E : String) (w' : Nat → va_E) (H1 : Heap) (locs1 : List Loc) (q : Addr) (ce : Cell), xpc E w' → P E w' H1 locs1 q ce := fun E w' _ _ _ _ hh => absurd hh (hx E w')
theorem q_callVv {ν : MI} {k ci idx n N9 : Nat} {T9 : u_T} {fs As rest : List Value} {r : Value} {w2 : Nat → va_E} (d : decode (mC μ) pc = .ok (.invokevirtual idx, 3)) (ml : Cond.methodLink (mN μ).cls idx (mN ν) ∈ UW) (vw : VW ν n) (hc : ctv g ν (.ref k :: As) w r w2) (hk : k < NC) (hw : w k = .inr (ci, fs)) (hci : vwCl[ci]? = some ((mN ν).cls, T9, N9)) (hst : st = As.reverse ++ .ref k :: rest) (hn : As.length = n) (hcat : (rest.map fun v => v.category).sum ≤ 8) (hfr : (mR ν).frames + 1 ≤ (mR μ).frames) (hlo : 8 + (mL ν + 11) + (mR ν).locals ≤ (mR μ).locals) (b2 : Nat) (hb : (mR ν).cells + b2 ≤ b) (kk : wp g h μ w2 L (r :: rest) b2 Q (pc + 3)) : wp g h μ w L st b Q pc := fun H locs ls cells slots hs hd => run_ok hs hd hb vw.2.2.2.2.2 (q_runV d ml vw hc hk hw hci hst hn hcat hfr hlo hb hs hd) (fun v w1 hv => by obtain ⟨rfl, rfl⟩ := hv; exact kk) (kx_no (fun _ _ z => z))
theorem q_callVu {ν : MI} {k ci idx n N9 : Nat} {T9 : u_T} {fs As rest : List Value} {w2 : Nat → va_E} (d : decode (mC μ) pc = .ok (.invokevirtual idx, 3)) (ml : Cond.methodLink (mN μ).cls idx (mN ν) ∈ UW) (vw : VW ν n) (hc : ctu g ν (.ref k :: As) w w2) (hk : k < NC) (hw : w k = .inr (ci, fs)) (hci : vwCl[ci]? = some ((mN ν).cls, T9, N9)) (hst : st = As.reverse ++ .ref k :: rest) (hn : As.length = n) (hcat : (rest.map fun v => v.category).sum ≤ 8) (hfr : (mR ν).frames + 1 ≤ (mR μ).frames) (hlo : 8 + (mL ν + 11) + (mR ν).locals ≤ (mR μ).locals) (b2 : Nat) (hb : (mR ν).cells + b2 ≤ b) (kk : wp g h μ w2 L rest b2 Q (pc + 3)) : wp g h μ w L st b Q pc := fun H locs ls cells slots hs hd => run_ok hs hd hb vw.2.2.2.2.2 (q_runV d ml vw hc hk hw hci hst hn hcat hfr hlo hb hs hd) (fun v w1 hv => by obtain ⟨rfl, rfl⟩ := hv; exact kk) (kx_no (fun _ _ z => z))
theorem q_callVx {ν : MI} {k ci idx n N9 : Nat} {T9 : u_T} {fs As rest : List Value} {C : Prop} {r : Option Value} {w2 : Nat → va_E} {E : String} {post : Option Value → (Nat → va_E) → Prop} {xp : String → (Nat → va_E) → Prop} (d : decode (mC μ) pc = .ok (.invokevirtual idx, 3)) (ml : Cond.methodLink (mN μ).cls idx (mN ν) ∈ UW) (vw : VW ν n) (hc : ctx g ν (.ref k :: As) w C r w2 E) (hk : k < NC) (hw : w k = .inr (ci, fs)) (hci : vwCl[ci]? = some ((mN ν).cls, T9, N9)) (hst : st = As.reverse ++ .ref k :: rest) (hn : As.length = n) (hcat : (rest.map fun v => v.category).sum ≤ 8) (hfr : (mR ν).frames + 1 ≤ (mR μ).frames) (hlo : 8 + (mL ν + 11) + (mR ν).locals ≤ (mR μ).locals) (b2 : Nat) (hb : (mR ν).cells + b2 ≤ b) (hH : mH μ = []) (kx : ¬ C → xp E w) (kk : C → wp g h μ w2 L (r.toList ++ rest) b2 (QQ g h μ post xp) (pc + 3)) : wp g h μ w L st b (QQ g h μ post xp) pc := fun H locs ls cells slots hs hd => run_ok hs hd hb vw.2.2.2.2.2 (q_runV d ml vw hc hk hw hci hst hn hcat hfr hlo hb hs hd) (fun v w1 hv => by obtain ⟨hC, rfl, rfl⟩ := hv; exact kk hC) (fun E1 w1 H1 locs1 q ce hxx hd1 h1 h2 h3 => by obtain ⟨hC, rfl, rfl⟩ := hxx; exact out_ok hH (kx hC) hs hd1 h1 h2 h3)
theorem q_callVg {ν : MI} {k ci idx n N9 : Nat} {T9 : u_T} {fs As rest : List Value} {postc : Option Value → (Nat → va_E) → Prop} {xpc : String → (Nat → va_E) → Prop} {post : Option Value → (Nat → va_E) → Prop} {xp : String → (Nat → va_E) → Prop} (d : decode (mC μ) pc = .ok (.invokevirtual idx, 3)) (ml : Cond.methodLink (mN μ).cls idx (mN ν) ∈ UW) (vw : VW ν n) (hc : ct g ν (.ref k :: As) w postc xpc) (hk : k < NC) (hw : w k = .inr (ci, fs)) (hci : vwCl[ci]? = some ((mN ν).cls, T9, N9)) (hst : st = As.reverse ++ .ref k :: rest) (hn : As.length = n) (hcat : (rest.map fun v => v.category).sum ≤ 8) (hfr : (mR ν).frames + 1 ≤ (mR μ).frames) (hlo : 8 + (mL ν + 11) + (mR ν).locals ≤ (mR μ).locals) (b2 : Nat) (hb : (mR ν).cells + b2 ≤ b) (hH : mH μ = []) (kx : ∀ E w1, xpc E w1 → xp E w1) (kk : ∀ v w1, postc v w1 → wp g h μ w1 L (v.toList ++ rest) b2 (QQ g h μ post xp) (pc + 3)) : wp g h μ w L st b (QQ g h μ post xp) pc := fun H locs ls cells slots hs hd => run_ok hs hd hb vw.2.2.2.2.2 (q_runV d ml vw hc hk hw hci hst hn hcat hfr hlo hb hs hd) kk (fun E1 w1 H1 locs1 q ce hxx hd1 h1 h2 h3 => out_ok hH (kx _ _ hxx) hs hd1 h1 h2 h3)
theorem q_callSv {ν : MI} {idx n : Nat} {As rest : List Value} {r : Value} {w2 : Nat → va_E} (d : decode (mC μ) pc = .ok (.invokestatic idx, 3)) (ml : Cond.methodLink (mN μ).cls idx (mN ν) ∈ UW) (vw : VS ν n) (hc : ctv g ν As w r w2) (hst : st = As.reverse ++ rest) (hn : As.length = n) (hcat : (rest.map fun v => v.category).sum ≤ 8) (hfr : (mR ν).frames + 1 ≤ (mR μ).frames) (hlo : 8 + (mL ν + 11) + (mR ν).locals ≤ (mR μ).locals) (b2 : Nat) (hb : (mR ν).cells + b2 ≤ b) (kk : wp g h μ w2 L (r :: rest) b2 Q (pc + 3)) : wp g h μ w L st b Q pc := fun H locs ls cells slots hs hd => run_ok hs hd hb vw.2.2.2.2 (q_runS d ml vw hc hst hn hcat hfr hlo hb hs hd) (fun v w1 hv => by obtain ⟨rfl, rfl⟩ := hv; exact kk) (kx_no (fun _ _ z => z))
theorem q_callSu {ν : MI} {idx n : Nat} {As rest : List Value} {w2 : Nat → va_E} (d : decode (mC μ) pc = .ok (.invokestatic idx, 3)) (ml : Cond.methodLink (mN μ).cls idx (mN ν) ∈ UW) (vw : VS ν n) (hc : ctu g ν As w w2) (hst : st = As.reverse ++ rest) (hn : As.length = n) (hcat : (rest.map fun v => v.category).sum ≤ 8) (hfr : (mR ν).frames + 1 ≤ (mR μ).frames) (hlo : 8 + (mL ν + 11) + (mR ν).locals ≤ (mR μ).locals) (b2 : Nat) (hb : (mR ν).cells + b2 ≤ b) (kk : wp g h μ w2 L rest b2 Q (pc + 3)) : wp g h μ w L st b Q pc := fun H locs ls cells slots hs hd => run_ok hs hd hb vw.2.2.2.2 (q_runS d ml vw hc hst hn hcat hfr hlo hb hs hd) (fun v w1 hv => by obtain ⟨rfl, rfl⟩ := hv; exact kk) (kx_no (fun _ _ z => z))
theorem q_callSx {ν : MI} {idx n : Nat} {As rest : List Value} {C : Prop} {r : Option Value} {w2 : Nat → va_E} {E : String} {post : Option Value → (Nat → va_E) → Prop} {xp : String → (Nat → va_E) → Prop} (d : decode (mC μ) pc = .ok (.invokestatic idx, 3)) (ml : Cond.methodLink (mN μ).cls idx (mN ν) ∈ UW) (vw : VS ν n) (hc : ctx g ν As w C r w2 E) (hst : st = As.reverse ++ rest) (hn : As.length = n) (hcat : (rest.map fun v => v.category).sum ≤ 8) (hfr : (mR ν).frames + 1 ≤ (mR μ).frames) (hlo : 8 + (mL ν + 11) + (mR ν).locals ≤ (mR μ).locals) (b2 : Nat) (hb : (mR ν).cells + b2 ≤ b) (hH : mH μ = []) (kx : ¬ C → xp E w) (kk : C → wp g h μ w2 L (r.toList ++ rest) b2 (QQ g h μ post xp) (pc + 3)) : wp g h μ w L st b (QQ g h μ post xp) pc := fun H locs ls cells slots hs hd => run_ok hs hd hb vw.2.2.2.2 (q_runS d ml vw hc hst hn hcat hfr hlo hb hs hd) (fun v w1 hv => by obtain ⟨hC, rfl, rfl⟩ := hv; exact kk hC) (fun E1 w1 H1 locs1 q ce hxx hd1 h1 h2 h3 => by obtain ⟨hC, rfl, rfl⟩ := hxx; exact out_ok hH (kx hC) hs hd1 h1 h2 h3)
theorem q_callSg {ν : MI} {idx n : Nat} {As rest : List Value} {postc : Option Value → (Nat → va_E) → Prop} {xpc : String → (Nat → va_E) → Prop} {post : Option Value → (Nat → va_E) → Prop} {xp : String → (Nat → va_E) → Prop} (d : decode (mC μ) pc = .ok (.invokestatic idx, 3)) (ml : Cond.methodLink (mN μ).cls idx (mN ν) ∈ UW) (vw : VS ν n) (hc : ct g ν As w postc xpc) (hst : st = As.reverse ++ rest) (hn : As.length = n) (hcat : (rest.map fun v => v.category).sum ≤ 8) (hfr : (mR ν).frames + 1 ≤ (mR μ).frames) (hlo : 8 + (mL ν + 11) + (mR ν).locals ≤ (mR μ).locals) (b2 : Nat) (hb : (mR ν).cells + b2 ≤ b) (hH : mH μ = []) (kx : ∀ E w1, xpc E w1 → xp E w1) (kk : ∀ v w1, postc v w1 → wp g h μ w1 L (v.toList ++ rest) b2 (QQ g h μ post xp) (pc + 3)) : wp g h μ w L st b (QQ g h μ post xp) pc := fun H locs ls cells slots hs hd => run_ok hs hd hb vw.2.2.2.2 (q_runS d ml vw hc hst hn hcat hfr hlo hb hs hd) kk (fun E1 w1 H1 locs1 q ce hxx hd1 h1 h2 h3 => out_ok hH (kx _ _ hxx) hs hd1 h1 h2 h3)
theorem q_callSNv {ν : MI} {idx n : Nat} {host : String} {As rest : List Value} {r : Value} {w2 : Nat → va_E} (d : decode (mC μ) pc = .ok (.invokestatic idx, 3)) (ml : ((mN μ).cls, idx, mN ν, host) ∈ nestM) (vw : VS ν n) (hc : ctv g ν As w r w2) (hst : st = As.reverse ++ rest) (hn : As.length = n) (hcat : (rest.map fun v => v.category).sum ≤ 8) (hfr : (mR ν).frames + 1 ≤ (mR μ).frames) (hlo : 8 + (mL ν + 11) + (mR ν).locals ≤ (mR μ).locals) (b2 : Nat) (hb : (mR ν).cells + b2 ≤ b) (kk : wp g h μ w2 L (r :: rest) b2 Q (pc + 3)) : wp g h μ w L st b Q pc := fun H locs ls cells slots hs hd => run_ok hs hd hb vw.2.2.2.2 (q_runSN d ml vw hc hst hn hcat hfr hlo hb hs hd) (fun v w1 hv => by obtain ⟨rfl, rfl⟩ := hv; exact kk) (kx_no (fun _ _ z => z))
theorem q_callSNu {ν : MI} {idx n : Nat} {host : String} {As rest : List Value} {w2 : Nat → va_E} (d : decode (mC μ) pc = .ok (.invokestatic idx, 3)) (ml : ((mN μ).cls, idx, mN ν, host) ∈ nestM) (vw : VS ν n) (hc : ctu g ν As w w2) (hst : st = As.reverse ++ rest) (hn : As.length = n) (hcat : (rest.map fun v => v.category).sum ≤ 8) (hfr : (mR ν).frames + 1 ≤ (mR μ).frames) (hlo : 8 + (mL ν + 11) + (mR ν).locals ≤ (mR μ).locals) (b2 : Nat) (hb : (mR ν).cells + b2 ≤ b) (kk : wp g h μ w2 L rest b2 Q (pc + 3)) : wp g h μ w L st b Q pc := fun H locs ls cells slots hs hd => run_ok hs hd hb vw.2.2.2.2 (q_runSN d ml vw hc hst hn hcat hfr hlo hb hs hd) (fun v w1 hv => by obtain ⟨rfl, rfl⟩ := hv; exact kk) (kx_no (fun _ _ z => z))
theorem q_callSNx {ν : MI} {idx n : Nat} {host : String} {As rest : List Value} {C : Prop} {r : Option Value} {w2 : Nat → va_E} {E : String} {post : Option Value → (Nat → va_E) → Prop} {xp : String → (Nat → va_E) → Prop} (d : decode (mC μ) pc = .ok (.invokestatic idx, 3)) (ml : ((mN μ).cls, idx, mN ν, host) ∈ nestM) (vw : VS ν n) (hc : ctx g ν As w C r w2 E) (hst : st = As.reverse ++ rest) (hn : As.length = n) (hcat : (rest.map fun v => v.category).sum ≤ 8) (hfr : (mR ν).frames + 1 ≤ (mR μ).frames) (hlo : 8 + (mL ν + 11) + (mR ν).locals ≤ (mR μ).locals) (b2 : Nat) (hb : (mR ν).cells + b2 ≤ b) (hH : mH μ = []) (kx : ¬ C → xp E w) (kk : C → wp g h μ w2 L (r.toList ++ rest) b2 (QQ g h μ post xp) (pc + 3)) : wp g h μ w L st b (QQ g h μ post xp) pc := fun H locs ls cells slots hs hd => run_ok hs hd hb vw.2.2.2.2 (q_runSN d ml vw hc hst hn hcat hfr hlo hb hs hd) (fun v w1 hv => by obtain ⟨hC, rfl, rfl⟩ := hv; exact kk hC) (fun E1 w1 H1 locs1 q ce hxx hd1 h1 h2 h3 => by obtain ⟨hC, rfl, rfl⟩ := hxx; exact out_ok hH (kx hC) hs hd1 h1 h2 h3)
theorem q_callSNg {ν : MI} {idx n : Nat} {host : String} {As rest : List Value} {postc : Option Value → (Nat → va_E) → Prop} {xpc : String → (Nat → va_E) → Prop} {post : Option Value → (Nat → va_E) → Prop} {xp : String → (Nat → va_E) → Prop} (d : decode (mC μ) pc = .ok (.invokestatic idx, 3)) (ml : ((mN μ).cls, idx, mN ν, host) ∈ nestM) (vw : VS ν n) (hc : ct g ν As w postc xpc) (hst : st = As.reverse ++ rest) (hn : As.length = n) (hcat : (rest.map fun v => v.category).sum ≤ 8) (hfr : (mR ν).frames + 1 ≤ (mR μ).frames) (hlo : 8 + (mL ν + 11) + (mR ν).locals ≤ (mR μ).locals) (b2 : Nat) (hb : (mR ν).cells + b2 ≤ b) (hH : mH μ = []) (kx : ∀ E w1, xpc E w1 → xp E w1) (kk : ∀ v w1, postc v w1 → wp g h μ w1 L (v.toList ++ rest) b2 (QQ g h μ post xp) (pc + 3)) : wp g h μ w L st b (QQ g h μ post xp) pc := fun H locs ls cells slots hs hd => run_ok hs hd hb vw.2.2.2.2 (q_runSN d ml vw hc hst hn hcat hfr hlo hb hs hd) kk (fun E1 w1 H1 locs1 q ce hxx hd1 h1 h2 h3 => out_ok hH (kx _ _ hxx) hs hd1 h1 h2 h3)
/-- the words of a throw -/
def badW : List Cond := decls.map Cond.declares ++ casts.map (fun E => Cond.castable E E)
def okT (ic : Nat) (E : String) : Prop := (∀ x ∈ (vx_atS RX9 ic E xNames).filter goodWord, x ∈ UW) ∧ (∀ x ∈ (vx_atS RX9 ic E xNames).filter (fun x => !goodWord x), x ∈ badW) ∧ Bundle.fit E = true ∧ (∀ n ∈ xNames, Bundle.fit n = true) ∧ (∀ x ∈ vx_atS RX9 ic E xNames, vx_ot x = true)
theorem q_throw {post : Option Value → (Nat → va_E) → Prop} {xp : String → (Nat → va_E) → Prop} {ik is ic : Nat} {E text : String} (d0 : decode (mC μ) pc = .ok (.new ik, 3)) (d3 : decode (mC μ) (pc + 3) = .ok (.dup, 1)) (d4 : decode (mC μ) (pc + 4) = .ok (.ldc is, 2)) (d6 : decode (mC μ) (pc + 6) = .ok (.invokespecial ic, 3)) (d9 : decode (mC μ) (pc + 9) = .ok (.athrow, 1))
    (hk : Cond.classLink RX9 ik E ∈ UW) (hi : Cond.initialized E ∈ UW) (hstr : (is, text) ∈ strs) (hat : okT ic E) (hown : (mN μ).cls = RX9) (hH : mH μ = []) (hfr : 5 < (mR μ).frames) (hcat : (st.map fun v => v.category).sum ≤ 8) (hlo : 90 ≤ (mR μ).locals) (hb : 1 ≤ b) (hx : xp E w) : wp g h μ w L st b (QQ g h μ post xp) pc := by
  intro H locs ls cells slots hs hd
  obtain ⟨a1, a2, a3, a4, a5⟩ := hat
  have hd4 := hd.2.2.2.1
  have hd5 := hd.2.2.2.2
  obtain ⟨sa, hsa⟩ := hs.Kn.2.2.1 _ hstr
  have ho := hs.own
  rw [hown] at ho
  have hbad : ∀ x ∈ badW, x.before (ja h) (js h) = true := by
    intro x hx
    rcases List.mem_append.mp hx with z | z
    · obtain ⟨y, hy, rfl⟩ := List.mem_map.mp z
      exact va_Nw.use rfl (hs.Kn.2.2.2.2.2.1 y hy)
    · obtain ⟨y, hy, rfl⟩ := List.mem_map.mp z
      exact va_Nw.use rfl (hs.Kn.2.2.2.2.2.2.1 y hy)
  refine vx_throwS (names := xNames) (text := text) (sa := sa) (A := bigA g) hs.1 hs.2.1 hs.G.1 ho a3 a4 (hs.u _ hk) (hs.u _ hi) hsa (vx_hat (fun x hx => hs.u x (a1 x hx)) a2 hbad) ?_ hs.Kn.2.1.1 hs.Kn.2.1.2 hd.2.1 (hd.2.2.1.1.trans hs.ml.symm) d0 d3 d4 d6 d9 ?_ (by rw [hs.R]; exact hfr) ?_ (by rw [hs.R]; omega) (by rw [hs.R]; omega) hs.locks (fun t _ hz hk2 => ⟨w, hx, ?_, ?_⟩) hd.2.1.2.2 (by omega) (by omega)
  · intro x hx
    rcases List.mem_cons.mp hx with rfl | hx
    · rfl
    · rcases List.mem_cons.mp hx with rfl | hx
      · rfl
      · exact a5 x hx
  · intro x hx
    rw [hs.tab, hH] at hx
    cases hx
  · rw [hs.R, emv_cats]
    have : xNames.length = 2 := rfl
    omega
  · refine va_P.kept hd.1 (fun k q hk9 => hk2 q.1 (hd.1 k q hk9).lt)
  · exact ⟨Nat.le_trans hd.2.1.1 hz, fun q h1 h2 => by rw [hk2 q (Nat.lt_of_lt_of_le h1 hd.2.1.1)]; exact hd.2.1.2.1 q h1 h2⟩
end QC
