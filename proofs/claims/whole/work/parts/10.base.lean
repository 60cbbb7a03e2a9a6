/-! THE PURE LAYER. A world is a function from cell numbers to cells; 'ad' gives the address of a number. wp: the machine comes from this frame to Q. ct: a method's contract in these words. -/
def emv (ad : Nat → Nat) : Value → Value
  | .ref k => .ref (ad k)
  | v => v
theorem emv_cat (ad : Nat → Nat) (v : Value) : (emv ad v).category = v.category := by cases v <;> rfl
theorem emv_cats (ad : Nat → Nat) (l : List Value) : ((l.map (emv ad)).map fun v => v.category).sum = (l.map fun v => v.category).sum := by
  induction l with
  | nil => rfl
  | cons a l ih => simp only [List.map_cons, List.sum_cons, emv_cat, ih]
def emb (ad : Nat → Nat) : va_E → va_E
  | .inl a => .inl a
  | .inr o => .inr (o.1, o.2.map (emv ad))
abbrev NC : Nat := 41
def wl (ad : Nat → Nat) (w : Nat → va_E) : va_W := (List.range NC).map fun k => (ad k, emb ad (w k))
theorem wl_get {ad : Nat → Nat} {w : Nat → va_E} {k : Nat} (h : k < NC) : (wl ad w)[k]? = some (ad k, emb ad (w k)) := by
  simp only [wl, List.getElem?_map, List.getElem?_range h, Option.map_some]
theorem wl_at {ad : Nat → Nat} {w : Nat → va_E} {k : Nat} {q : Nat × va_E} (h : (wl ad w)[k]? = some q) : k < NC ∧ q = (ad k, emb ad (w k)) := by
  by_cases hk : k < NC
  · rw [wl_get hk] at h
    exact ⟨hk, (Option.some.inj h).symm⟩
  · rw [List.getElem?_eq_none (by simp only [wl, List.length_map, List.length_range]; omega)] at h
    cases h
theorem wl_set {ad : Nat → Nat} {w : Nat → va_E} {k : Nat} (e : va_E) (h : k < NC) : (wl ad w).set k (ad k, emb ad e) = wl ad (va_up w k e) := by
  apply List.ext_getElem?
  intro i
  by_cases hi : i < NC
  · rw [wl_get hi]
    by_cases hk : i = k
    · subst hk
      rw [List.getElem?_set_self (by simp only [wl, List.length_map, List.length_range]; exact hi), va_up_self]
    · rw [List.getElem?_set_ne (Ne.symm hk), wl_get hi, va_up_ne _ _ hk]
  · rw [List.getElem?_eq_none (by simp only [wl, List.length_set, List.length_map, List.length_range]; omega), List.getElem?_eq_none (by simp only [wl, List.length_map, List.length_range]; omega)]
abbrev G0 : Type := Launch × va_G × ClassId × ClassId × ClassId × ClassId × Nat × (Nat → Nat)
abbrev gl (g : G0) : Launch := g.1
abbrev gD (g : G0) : va_G := g.2.1
abbrev gI (g : G0) : ClassId := g.2.2.1
abbrev gJ (g : G0) : ClassId := g.2.2.2.1
abbrev gZ (g : G0) : ClassId := g.2.2.2.2.1
abbrev gC (g : G0) : ClassId := g.2.2.2.2.2.1
abbrev gB (g : G0) : Nat := g.2.2.2.2.2.2.1
abbrev gA (g : G0) : Nat → Nat := g.2.2.2.2.2.2.2
abbrev G1 : Type := Program × Env × Room × State × MethodId × Array Value × List Frame × Method × Code
abbrev jp (h : G1) : Program := h.1
abbrev je (h : G1) : Env := h.2.1
abbrev jR (h : G1) : Room := h.2.2.1
abbrev js (h : G1) : State := h.2.2.2.1
abbrev jm (h : G1) : MethodId := h.2.2.2.2.1
abbrev ja (h : G1) : Array Value := h.2.2.2.2.2.1
abbrev jb (h : G1) : List Frame := h.2.2.2.2.2.2.1
abbrev jM (h : G1) : Method := h.2.2.2.2.2.2.2.1
abbrev jc (h : G1) : Code := h.2.2.2.2.2.2.2.2
/-- a method: name, code, locals, answer's type, room, handlers -/
abbrev MI : Type := MethodName × ByteArray × Nat × Option FieldType × Room × List (Nat × Nat × Nat × Nat)
abbrev mN (μ : MI) : MethodName := μ.1
abbrev mC (μ : MI) : ByteArray := μ.2.1
abbrev mL (μ : MI) : Nat := μ.2.2.1
abbrev mT (μ : MI) : Option FieldType := μ.2.2.2.1
abbrev mR (μ : MI) : Room := μ.2.2.2.2.1
abbrev mH (μ : MI) : List (Nat × Nat × Nat × Nat) := μ.2.2.2.2.2
def bigA (g : G0) : Nat → Prop := fun q => gB g ≤ q
def tysG (g : G0) : List (ClassId × FieldType) := [(gI g, .int), (gJ g, .long), (gZ g, .boolean), (gC g, .char)]
def strs : List (Nat × String) := [(281, "out of range"), (97, "the text is full"), (113, "the text is no complete circuit text"), (289, "no such cell"), (277, "neither 0 nor 1"), (284, "no such destination"), (148, "there is no room for another cell"), (157, "there is no cell"), (186, "no state is remembered"), (200, "no such product"), (293, "neither a cell nor a product"), (302, "the component has no steady state"), (291, "there is no steady state"), (272, "the slot is empty")]
def nestF : List (String × Nat × String × String × String × String) := [("FlotationCircuit$StateRows", 25, "FlotationCircuit$State", "values", "[I", "FlotationCircuit"), ("FlotationCircuit$Shares", 30, "FlotationCircuit$Balance", "numerator", "J", "FlotationCircuit"), ("FlotationCircuit$Shares", 33, "FlotationCircuit$Balance", "denominator", "J", "FlotationCircuit")]
def nestM : List (String × Nat × MethodName × String) := [("FlotationCircuit$Balance", 70, yX9_isProduct, "FlotationCircuit")]
def decls : List MethodName := [⟨"java/lang/RuntimeException", "<init>", "(Ljava/lang/String;)V"⟩, ⟨"java/lang/Exception", "<init>", "(Ljava/lang/String;)V"⟩, ⟨"java/lang/Throwable", "<init>", "(Ljava/lang/String;)V"⟩, ⟨"java/lang/RuntimeException", "<init>", "()V"⟩, ⟨"java/lang/Exception", "<init>", "()V"⟩, ⟨"java/lang/Throwable", "<init>", "()V"⟩]
def EIA : String := "java/lang/IllegalArgumentException"
def EIS : String := "java/lang/IllegalStateException"
def EIO : String := "java/lang/IndexOutOfBoundsException"
def xNames : List String := ["java/lang/RuntimeException", "java/lang/Exception"]
def casts : List String := [EIA, EIS, EIO]
def ncs : List (String × String) := [(EIA, EIS), (EIA, EIO), (EIS, EIA), (EIS, EIO), (EIO, EIA), (EIO, EIS)]
/-- what the methods know of the machine's tables and of the heap outside the world -/
def Kn (g : G0) (U : State) (H : Heap) : Prop :=
  va_K (gD g) vwCl (tysG g) U ∧ (vx_Zq Bundle.tN "UNASSIGNED_STACK" Bundle.steD (bigA g) U H ∧ vx_Zq Bundle.tN "SUPPRESSED_SENTINEL" Bundle.listD (bigA g) U H) ∧
  (∀ q ∈ strs, ∃ sa, vk_R RX9 q.1 q.2 sa U) ∧ (∀ q ∈ nestF, va_Nw (.fieldLinkNest q.1 q.2.1 q.2.2.1 q.2.2.2.1 q.2.2.2.2.1 q.2.2.2.2.2) U) ∧ (∀ q ∈ nestM, va_Nw (.methodLinkNest q.1 q.2.1 q.2.2.1 q.2.2.2) U) ∧
  (∀ x ∈ decls, va_Nw (.declares x) U) ∧ (∀ E ∈ casts, va_Nw (.castable E E) U) ∧ (∀ q ∈ ncs, va_Nc q.1 q.2 U)
theorem Kn.warm {g : G0} {s U : State} {H H1 : Heap} (hW : s.WarmedH U.vm) (hk : ∀ a : Nat, a < H.size → ¬ bigA g a → H1[a]? = H[a]?) (h : Kn g s H) : Kn g U H1 := by
  obtain ⟨h1, ⟨h2, h3⟩, h4, h5, h6, h7, h8, h9⟩ := h
  exact ⟨va_K.moved hW.alike h1, ⟨(h2.moved hW.alike).kept hk, (h3.moved hW.alike).kept hk⟩, fun q hq => (h4 q hq).elim fun sa z => ⟨sa, z.warm hW⟩, fun q hq => va_Nw.warmF hW (h5 q hq), fun q hq => va_Nw.warmM hW (h6 q hq), fun q hq => va_Nw.warmD hW (h7 q hq), fun q hq => va_Nw.warmC hW (h8 q hq), fun q hq => (h9 q hq).moved hW.alike⟩
theorem Kn.same {g : G0} {s U : State} {H : Heap} (hv : s.vm = U.vm) (h : Kn g s H) : Kn g U H := by
  obtain ⟨h1, ⟨h2, h3⟩, h4, h5, h6, h7, h8, h9⟩ := h
  have ha : s.vm.Alike U.vm := by rw [← hv]; exact Vm.Alike.refl s.vm
  exact ⟨va_K.moved ha h1, ⟨h2.moved ha, h3.moved ha⟩, fun q hq => (h4 q hq).elim fun sa z => ⟨sa, z.same hv.symm⟩, fun q hq => va_Nw.same rfl hv (h5 q hq), fun q hq => va_Nw.same rfl hv (h6 q hq), fun q hq => va_Nw.same rfl hv (h7 q hq), fun q hq => va_Nw.same rfl hv (h8 q hq), fun q hq => (h9 q hq).moved ha⟩
/-- what holds of the launch and of the addresses -/
def Gd (g : G0) : Prop := (gl g).stackTraces = false ∧ (∀ i, i < NC → gB g ≤ gA g i) ∧ ∀ i j, i < NC → j < NC → gA g i = gA g j → i = j
def Wo (g : G0) (w : Nat → va_E) (H : Heap) : Prop := va_P (gD g) vwCl (wl (gA g) w) H
theorem Gd.D {g : G0} (h : Gd g) (w : Nat → va_E) : va_D (bigA g) (wl (gA g) w) := by
  refine ⟨fun i j p q hi hj hpq => ?_, fun k q hk => ?_⟩
  · obtain ⟨a1, rfl⟩ := wl_at hi
    obtain ⟨a2, rfl⟩ := wl_at hj
    exact h.2.2 i j a1 a2 hpq
  · obtain ⟨a1, rfl⟩ := wl_at hk
    exact h.2.1 k a1
def Qn (g : G0) (post : Option Value → (Nat → va_E) → Prop) : Array Value → State → Outcome → State → Prop := fun _ st o t =>
  (∃ (v : Option Value) (w' : Nat → va_E), o = .returned (v.map (emv (gA g))) ∧ post v w' ∧ Wo g w' t.heap) ∧ va_F (bigA g) st t
def Xn (g : G0) (xp : String → (Nat → va_E) → Prop) : String → State → State → Prop := fun E st t => ∃ w' : Nat → va_E, xp E w' ∧ Wo g w' t.heap ∧ va_F (bigA g) st t
def hasL (ad : Nat → Nat) (ls : Array Slot) (n : Nat) (L : List (Option Value)) : Prop := ls.size = n ∧ lv_wf ls ∧ ∀ (i : Nat) (v : Value), L[i]? = some (some v) → ls[i]? = some (.val (emv ad v))
def Sta (g : G0) (h : G1) (μ : MI) : Prop :=
  (jp h).tables.exec = Jvm.exec ∧ (jc h).code = mC μ ∧ (jM h).sig.returnType = mT μ ∧ (jc h).maxLocals = mL μ ∧ (js h).vm.findClass (mN μ).cls = some (jm h).cls ∧ (∀ w ∈ UW, w.before (ja h) (js h) = true) ∧ (jM h).locks = false ∧
  (jc h).exceptionTable.toList = tableOf (mH μ) ∧ Kn g (js h) (js h).heap ∧ Gd g ∧ jR h = mR μ
def Dyn (g : G0) (h : G1) (μ : MI) (w : Nat → va_E) (L : List (Option Value)) (b : Nat) (H : Heap) (locs : List Loc) (ls : Array Slot) (cells slots : Nat) : Prop :=
  Wo g w H ∧ va_S (bigA g) (js h).heap H locs ∧ hasL (gA g) ls (mL μ) L ∧ cells + b ≤ (mR μ).cells ∧ slots + 6 * b ≤ (mR μ).slots
def wp (g : G0) (h : G1) (μ : MI) (w : Nat → va_E) (L : List (Option Value)) (st : List Value) (b : Nat) (Q : State → Prop) (pc : Nat) : Prop :=
  ∀ (H : Heap) (locs : List Loc) (ls : Array Slot) (cells slots : Nat), Sta g h μ → Dyn g h μ w L b H locs ls cells slots →
    W (jp h) (gl g) (je h) (jR h) (js h) (jm h) (ja h) (jb h) (jM h) (jc h) H locs cells slots Q (F0 (jm h) pc ls (st.map (emv (gA g))))
/-- a body's end -/
def QQ (g : G0) (h : G1) (μ : MI) (post : Option Value → (Nat → va_E) → Prop) (xp : String → (Nat → va_E) → Prop) : State → Prop :=
  vx_MQ (jb h) (Qn g post) (Xn g xp) (ja h) (js h) (mR μ).cells (mR μ).slots (bigA g)
def ct (g : G0) (μ : MI) (as : List Value) (w : Nat → va_E) (post : Option Value → (Nat → va_E) → Prop) (xp : String → (Nat → va_E) → Prop) : Prop :=
  vx_Met (gl g) (mN μ) (.code (mN μ) (mC μ) (mL μ) (mT μ) :: UW) (mR μ) (va_Pc (as.map (emv (gA g))) (fun U => Kn g U U.heap ∧ Wo g w U.heap)) (Qn g post) (Xn g xp) (mR μ).cells (mR μ).slots (bigA g)
theorem ct_blind {g : G0} {as : List Value} {w : Nat → va_E} : FrameBlind (va_Pc (as.map (emv (gA g))) (fun U => Kn g U U.heap ∧ Wo g w U.heap)) :=
  fun _ U _ _ q => ⟨q.1, Kn.same (s := U) rfl q.2.1, q.2.2⟩
def argL : List Value → Nat → List (Option Value)
  | [], n => List.replicate n none
  | v :: r, n => if v.category = 2 then some v :: none :: argL r (n - 2) else some v :: argL r (n - 1)
theorem argL_in (ad : Nat → Nat) : ∀ (as : List Value) (n k i : Nat) (v : Value), (argL as n)[i]? = some (some v) → (k + i, emv ad v) ∈ lv_args k (as.map (emv ad)) := by
  intro as
  induction as with
  | nil =>
    intro n k i v h
    have := List.mem_of_getElem? h
    simp only [argL] at this
    have h2 := List.eq_of_mem_replicate this
    cases h2
  | cons a r ih =>
    intro n k i v h
    simp only [argL] at h
    simp only [List.map_cons, lv_args, emv_cat]
    by_cases hc : a.category = 2
    · rw [if_pos hc] at h
      rw [if_pos hc]
      match i, h with
      | 0, h => cases h; exact List.mem_cons_self
      | 1, h => cases h
      | i + 2, h =>
        have h2 := ih (n - 2) (k + 2) i v h
        rw [show k + 2 + i = k + (i + 2) by omega] at h2
        exact List.mem_cons_of_mem _ h2
    · rw [if_neg hc] at h
      rw [if_neg hc]
      match i, h with
      | 0, h => cases h; exact List.mem_cons_self
      | i + 1, h =>
        have h2 := ih (n - 1) (k + 1) i v h
        rw [show k + 1 + i = k + (i + 1) by omega] at h2
        exact List.mem_cons_of_mem _ h2
theorem hasL_args {ad : Nat → Nat} {as : List Value} {n : Nat} {L : List (Option Value)} (hL : argL as n = L) {ls : Array Slot} (h : lv_has ls n (lv_args 0 (as.map (emv ad)))) : hasL ad ls n L := by
  refine ⟨h.1, h.2.1, fun i v hi => ?_⟩
  rw [← hL] at hi
  have h2 := argL_in ad as n 0 i v hi
  rw [Nat.zero_add] at h2
  exact h.2.2 _ h2
theorem ct_of {g : G0} {μ : MI} {as : List Value} {w : Nat → va_E} {post : Option Value → (Nat → va_E) → Prop} {xp : String → (Nat → va_E) → Prop} (hG : Gd g) (L : List (Option Value)) (hy : plainName (mN μ).cls = true) (hL : argL as (mL μ) = L) (hH : mH μ = []) (hn : (lg_sl (as.map (emv (gA g)))).length ≤ mL μ)
    (k : ∀ h : G1, wp g h μ w L [] (mR μ).cells (QQ g h μ post xp) 0) (h6 : (mR μ).slots = 6 * (mR μ).cells) : ct g μ as w post xp := by
  refine vx_ofW (cc := mC μ) (maxL := mL μ) (ret := mT μ) hy rfl ?_
  intro p e s m args below meth c s₁ B hml ht hv
  obtain ⟨rfl, hK, hWo⟩ := hv
  have hts := atoms_spec (ws := .code (mN μ) (mC μ) (mL μ) (mT μ) :: UW) B.pre
  rw [lg_entry_eq]
  have hl := lv_entry (as.map (emv (gA g))) (n := mL μ) hn
  have htab : c.exceptionTable.toList = tableOf (mH μ) := by
    rw [hH]
    cases hc : c.exceptionTable.toList with
    | nil => rfl
    | cons x r => exact absurd (by rw [hc]; exact List.mem_cons_self) (fun z => ht x z)
  exact k (p, e, (mR μ), s, m, _, below, meth, c) s.heap [] _ 0 0 ⟨B.exec, B.bytes, B.returns, hml, findClass_of_methodNamed B.named, fun w hw => hts w (List.mem_cons_of_mem _ hw), B.notSynchronized, htab, hK, hG, rfl⟩ ⟨hWo, va_S.rf, hasL_args hL hl, by omega, by omega⟩
