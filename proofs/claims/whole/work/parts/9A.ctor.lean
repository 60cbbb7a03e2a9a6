/-! constructors: a world that grows -/
def nestC : List (String × Nat × MethodName × String) := [(RX9, 9, yX1_init, RX9), (RX9, 28, yX2_init, RX9), (RX9, 48, yX6_init, RX9), (RX9, 55, yX0_init, RX9), (RX9, 62, yX3_init, RX9), (RX9, 69, yX4_init, RX9), (RX9, 76, yX5_init, RX9)]
def KC (g : G0) (U : State) : Prop := va_K (gD g) vwCl (tysG g) U ∧ ∀ q ∈ nestC, va_Nw (.methodLinkNest q.1 q.2.1 q.2.2.1 q.2.2.2) U
theorem KC.warm {g : G0} {s U : State} (hW : s.WarmedH U.vm) (h : KC g s) : KC g U := ⟨va_K.moved hW.alike h.1, fun q hq => va_Nw.warmM hW (h.2 q hq)⟩
theorem KC.same {g : G0} {s U : State} (hv : s.vm = U.vm) (h : KC g s) : KC g U := ⟨va_K.moved (by rw [← hv]; exact Vm.Alike.refl s.vm) h.1, fun q hq => va_Nw.same rfl hv (h.2 q hq)⟩
def StC (g : G0) (h : G1) (μ : MI) (A : Nat → Prop) : Prop :=
  (jp h).tables.exec = Jvm.exec ∧ (jc h).code = mC μ ∧ (jM h).sig.returnType = mT μ ∧ (jc h).maxLocals = mL μ ∧ (js h).vm.findClass (mN μ).cls = some (jm h).cls ∧ (∀ w ∈ UW, w.before (ja h) (js h) = true) ∧ (jM h).locks = false ∧ KC g (js h) ∧ jR h = mR μ ∧ (∀ q : Nat, (js h).heap.size ≤ q → A q)
def gp (g : G0) (h : G1) (μ : MI) (A : Nat → Prop) (ws : va_W) (L : List (Nat × Value)) (st : List Value) (cells slots : Nat) (Q : State → Prop) (pc : Nat) : Prop :=
  ∀ (H : Heap) (locs : List Loc) (ls : Array Slot), StC g h μ A → va_P (gD g) vwCl ws H → va_D A ws → va_S A (js h).heap H locs → lv_has ls (mL μ) L →
    W (jp h) (gl g) (je h) (jR h) (js h) (jm h) (ja h) (jb h) (jM h) (jc h) H locs cells slots Q (F0 (jm h) pc ls st)
theorem ra_uniq {U : State} {c1 c2 : ClassId} {ty : FieldType} (hp : ∀ C, ty ≠ .object C) (h1 : va_RA U c1 ty) (h2 : va_RA U c2 ty) : c1 = c2 := by
  cases ty with
  | object C => exact absurd rfl (hp C)
  | _ => exact Option.some.inj (h1.symm.trans h2)
section QG
variable {g : G0} {h : G1} {μ : MI} {A : Nat → Prop} {ws : va_W} {L : List (Nat × Value)} {st : List Value} {cells slots : Nat} {Q : State → Prop} {pc : Nat}
theorem gp_w {ws2 : va_W} (e : ws = ws2) (k : gp g h μ A ws2 L st cells slots Q pc) : gp g h μ A ws L st cells slots Q pc := e ▸ k
theorem g_aload {k : Fin 4} {i x : Nat} (n : Nat) (d : decode (mC μ) pc = .ok (.aload_n k, 1)) (hi : (k : Nat) = i) (hL : L[n]? = some (i, .ref x)) (kk : gp g h μ A ws L (.ref x :: st) cells slots Q (pc + 1)) : gp g h μ A ws L st cells slots Q pc := fun H locs ls hs hP hD hS hl => lv_aload_n hs.1 hs.2.1 d hi (lv_at hl n hL) (kk H locs ls hs hP hD hS hl)
theorem g_iload {k : Fin 4} {i : Nat} {x : Int32} (n : Nat) (d : decode (mC μ) pc = .ok (.iload_n k, 1)) (hi : (k : Nat) = i) (hL : L[n]? = some (i, .int x)) (kk : gp g h μ A ws L (.int x :: st) cells slots Q (pc + 1)) : gp g h μ A ws L st cells slots Q pc := fun H locs ls hs hP hD hS hl => lv_iload_n hs.1 hs.2.1 d hi (lv_at hl n hL) (kk H locs ls hs hP hD hS hl)
theorem g_iconst {n : Int} {v : Int32} (d : decode (mC μ) pc = .ok (.iconst n, 1)) (hv : Int32.ofInt n = v) (kk : gp g h μ A ws L (.int v :: st) cells slots Q (pc + 1)) : gp g h μ A ws L st cells slots Q pc := fun H locs ls hs hP hD hS hl => lv_iconst hs.1 hs.2.1 d hv (kk H locs ls hs hP hD hS hl)
theorem g_bipush {n : Int} {v : Int32} (d : decode (mC μ) pc = .ok (.bipush n, 2)) (hv : (Int8.ofInt n).toInt32 = v) (kk : gp g h μ A ws L (.int v :: st) cells slots Q (pc + 2)) : gp g h μ A ws L st cells slots Q pc := fun H locs ls hs hP hD hS hl => lv_bipush hs.1 hs.2.1 d hv (kk H locs ls hs hP hD hS hl)
theorem g_sipush {n : Int} {v : Int32} (d : decode (mC μ) pc = .ok (.sipush n, 3)) (hv : (Int16.ofInt n).toInt32 = v) (kk : gp g h μ A ws L (.int v :: st) cells slots Q (pc + 3)) : gp g h μ A ws L st cells slots Q pc := fun H locs ls hs hP hD hS hl => lv_sipush hs.1 hs.2.1 d hv (kk H locs ls hs hP hD hS hl)
theorem g_lconst {n : Fin 2} {v : Int64} (d : decode (mC μ) pc = .ok (.lconst n, 1)) (hv : Int64.ofNat (n : Nat) = v) (kk : gp g h μ A ws L (.long v :: st) cells slots Q (pc + 1)) : gp g h μ A ws L st cells slots Q pc := fun H locs ls hs hP hD hS hl => lv_lconst hs.1 hs.2.1 d hv (kk H locs ls hs hP hD hS hl)
theorem g_imul {x y z : Int32} (d : decode (mC μ) pc = .ok (.imul, 1)) (hz : x * y = z) (kk : gp g h μ A ws L (.int z :: st) cells slots Q (pc + 1)) : gp g h μ A ws L (.int y :: .int x :: st) cells slots Q pc := fun H locs ls hs hP hD hS hl => lv_imul hs.1 hs.2.1 d (by rw [hz]; exact kk H locs ls hs hP hD hS hl)
theorem g_dup {v : Value} (d : decode (mC μ) pc = .ok (.dup, 1)) (hv : v.category = 1) (kk : gp g h μ A ws L (v :: v :: st) cells slots Q (pc + 1)) : gp g h μ A ws L (v :: st) cells slots Q pc := fun H locs ls hs hP hD hS hl => lv_dup hs.1 hs.2.1 d hv (kk H locs ls hs hP hD hS hl)
theorem g_obj {idx a : Nat} (d : decode (mC μ) pc = .ok (.invokespecial idx, 3)) (ml : Cond.methodLink (mN μ).cls idx Lib.objectInit ∈ UW) (hfr : 1 ≤ (mR μ).frames) (hlo : (st.map fun v => v.category).sum + 12 ≤ (mR μ).locals) (kk : gp g h μ A ws L st cells slots Q (pc + 3)) : gp g h μ A ws L (.ref a :: st) cells slots Q pc := fun H locs ls hs hP hD hS hl =>
  W.objInit hs.1 hs.2.1 hs.2.2.2.2.1 (hs.2.2.2.2.2.1 _ ml) (hs.2.2.2.2.2.1 _ uw_65) (hs.2.2.2.2.2.1 _ uw_66) (g := F0 (jm h) pc ls (.ref a :: st)) rfl (by rw [hs.2.2.2.1]; exact hl.1) rfl d (by rw [hs.2.2.2.2.2.2.2.2.1]; exact hfr) (by rw [hs.2.2.2.2.2.2.2.2.1]; show 2 * 0 + _ + 12 ≤ _; omega) (kk H locs ls hs hP hD hS hl)
theorem g_newa {atype : ArrayType} {ty : FieldType} {cT : ClassId} (t : Nat) (d : decode (mC μ) pc = .ok (.newarray atype, 2)) (harr : Cond.arrayClass (newarray.typeOf atype) ∈ UW) (hty : newarray.typeOf atype = ty) (ht : (tysG g)[t]? = some (cT, ty)) (hp : ∀ C, ty ≠ .object C) {n : Int32} {N' : Nat} {a0 : vp_A} (ha : ∀ cA : ClassId, vp_cell cA a0 = arrV cA N' (fun _ => defaultValue ty)) (hn : ¬ n < 0) (hN : n.toNatClampNeg = N') (hbytes : N' * componentBytes ty ≤ 536870912) (hcells : cells + 1 ≤ (mR μ).cells) (hslots : slots + N' ≤ (mR μ).slots)
    (kk : ∀ q : Nat, gp g h μ A (ws ++ [(q, .inl (cT, a0))]) L (.ref q :: st) (cells + 1) (slots + N') Q (pc + 2)) : gp g h μ A ws L (.int n :: st) cells slots Q pc := by
  intro H locs ls hs hP hD hS hl
  have hK := hs.2.2.2.2.2.2.2.1.1
  refine va_newa hs.1 hs.2.1 (hs.2.2.2.2.2.1 _ harr) hty hK hP hD hS hs.2.2.2.2.2.2.2.2.2 ha hn hN hbytes (by rw [hs.2.2.2.2.2.2.2.2.1]; exact hcells) (by rw [hs.2.2.2.2.2.2.2.2.1]; exact hslots) d (fun q cA H1 hK1 hP1 hD1 hS1 => ?_)
  have e : cA = cT := ra_uniq hp (hK1.2 4 (cA, ty) rfl).2 (hK.2 t (cT, ty) ht).2
  subst e
  exact kk q H1 locs ls hs hP1 hD1 hS1 hl
theorem g_new {idx ci N9 : Nat} {C : String} {T9 : u_T} {ty9 : Nat → FieldType} {fs : List Value} (d : decode (mC μ) pc = .ok (.new idx, 3)) (hcl : Cond.classLink (mN μ).cls idx C ∈ UW) (hinst : Cond.instantiable C N9 ∈ UW) (hini : Cond.initialized C ∈ UW) (hc : vwCl[ci]? = some (C, T9, N9)) (hin : ∀ x ∈ u_ws C T9 N9, x ∈ UW) (hty : ∀ k, k < N9 → parseFieldDescriptor (T9 k).2.2.1 = some (ty9 k)) (hfs : ∀ j, j < N9 → defaultValue (ty9 j) = vp_V fs j) (hcells : cells + 1 ≤ (mR μ).cells) (hslots : slots + N9 ≤ (mR μ).slots)
    (kk : ∀ q : Nat, gp g h μ A (ws ++ [(q, .inr (ci, fs))]) L (.ref q :: st) (cells + 1) (slots + N9) Q (pc + 3)) : gp g h μ A ws L st cells slots Q pc := by
  intro H locs ls hs hP hD hS hl
  exact va_new hs.1 hs.2.1 hs.2.2.2.2.2.1 hin ty9 hty hs.2.2.2.2.1 (hs.2.2.2.2.2.1 _ hcl) (hs.2.2.2.2.2.1 _ hinst) (hs.2.2.2.2.2.1 _ hini) hs.2.2.2.2.2.2.2.1.1 hP hD hS hs.2.2.2.2.2.2.2.2.2 hc hfs (by rw [hs.2.2.2.2.2.2.2.2.1]; exact hcells) (by rw [hs.2.2.2.2.2.2.2.2.1]; exact hslots) d (fun q H1 hP1 hD1 hS1 => kk q H1 locs ls hs hP1 hD1 hS1 hl)
theorem g_put {q0 a ci j idx N9 : Nat} {C ref : String} {T9 : u_T} {ty0 : Nat → FieldType} {ty : FieldType} {fs : List Value} {v : Value} (d : decode (mC μ) pc = .ok (.putfield idx, 3)) (he : ws[q0]? = some (a, .inr (ci, fs))) (hc : vwCl[ci]? = some (C, T9, N9)) (hin : ∀ x ∈ u_ws C T9 N9, x ∈ UW) (hty : ∀ k, k < N9 → parseFieldDescriptor (T9 k).2.2.1 = some (ty0 k)) (hnm : ∀ a, a < N9 → ∀ b, b < N9 → a ≠ b → (T9 a).2.1 ≠ (T9 b).2.1) (hj : j < N9) (hl9 : Cond.fieldLink (mN μ).cls idx ref (T9 j).2.1 (T9 j).2.2.1 ∈ UW) (hr : (T9 j).1 = ref) (hfin : (T9 j).2.2.2 = false) (hd9 : ty0 j = ty) (hn : narrow ty v = v) (hfit : fits ty v = true) (hlen : j < fs.length)
    {w2 : va_W} (e : ws.set q0 (a, .inr (ci, fs.set j v)) = w2) (kk : gp g h μ A w2 L st cells slots Q (pc + 3)) : gp g h μ A ws L (v :: .ref a :: st) cells slots Q pc := by
  intro H locs ls hs hP hD hS hl
  subst e
  exact va_put (ty := ty) hs.1 hs.2.1 hs.2.2.2.2.2.1 hin ty0 hty hnm hs.2.2.2.2.1 hs.2.2.2.2.2.2.2.1.1 hP hD hS q0 he hc j hj (hs.2.2.2.2.2.1 _ hl9) (fun x hx => by rw [← hr]; exact hx) hfin (by rw [← hd9]; exact hty j hj) hn hfit hlen d (fun H1 locs1 hP1 hD1 hS1 => kk H1 locs1 ls hs hP1 hD1 hS1 hl)
theorem g_putF {q0 a ci j idx N9 : Nat} {C ref : String} {T9 : u_T} {ty0 : Nat → FieldType} {ty : FieldType} {fs : List Value} {v : Value} (hin2 : (jM h).name = "<init>") (d : decode (mC μ) pc = .ok (.putfield idx, 3)) (he : ws[q0]? = some (a, .inr (ci, fs))) (hc : vwCl[ci]? = some (C, T9, N9)) (hin : ∀ x ∈ u_ws C T9 N9, x ∈ UW) (hty : ∀ k, k < N9 → parseFieldDescriptor (T9 k).2.2.1 = some (ty0 k)) (hnm : ∀ a, a < N9 → ∀ b, b < N9 → a ≠ b → (T9 a).2.1 ≠ (T9 b).2.1) (hj : j < N9) (hl9 : Cond.fieldLink (mN μ).cls idx ref (T9 j).2.1 (T9 j).2.2.1 ∈ UW) (hr : (T9 j).1 = ref) (hfin : (T9 j).2.2.2 = true) (hdecl : (T9 j).1 = (mN μ).cls) (hd9 : ty0 j = ty) (hn : narrow ty v = v) (hfit : fits ty v = true) (hlen : j < fs.length)
    {w2 : va_W} (e : ws.set q0 (a, .inr (ci, fs.set j v)) = w2) (kk : gp g h μ A w2 L st cells slots Q (pc + 3)) : gp g h μ A ws L (v :: .ref a :: st) cells slots Q pc := by
  intro H locs ls hs hP hD hS hl
  subst e
  exact va_putF (ty := ty) hs.1 hs.2.1 hs.2.2.2.2.2.1 hin ty0 hty hnm hs.2.2.2.2.1 hs.2.2.2.2.2.2.2.1.1 hP hD hS q0 he hc j hj (hs.2.2.2.2.2.1 _ hl9) (fun x hx => by rw [← hr]; exact hx) hfin hin2 hdecl (by rw [← hd9]; exact hty j hj) hn hfit hlen d (fun H1 locs1 hP1 hD1 hS1 => kk H1 locs1 ls hs hP1 hD1 hS1 hl)
theorem g_get {q0 a ci j idx N9 : Nat} {C ref : String} {T9 : u_T} {fs : List Value} {v : Value} (d : decode (mC μ) pc = .ok (.getfield idx, 3)) (he : ws[q0]? = some (a, .inr (ci, fs))) (hc : vwCl[ci]? = some (C, T9, N9)) (hin : ∀ x ∈ u_ws C T9 N9, x ∈ UW) (hj : j < N9) (hl9 : Cond.fieldLink (mN μ).cls idx ref (T9 j).2.1 (T9 j).2.2.1 ∈ UW) (hr : (T9 j).1 = ref) (hv : fs[j]? = some v) (kk : gp g h μ A ws L (v :: st) cells slots Q (pc + 3)) : gp g h μ A ws L (.ref a :: st) cells slots Q pc := fun H locs ls hs hP hD hS hl =>
  va_get hs.1 hs.2.1 hs.2.2.2.2.2.1 hin hs.2.2.2.2.1 hs.2.2.2.2.2.2.2.1.1 hP q0 he hc j hj (hs.2.2.2.2.2.1 _ hl9) (fun x hx => by rw [← hr]; exact hx) hv d (kk H locs ls hs hP hD hS hl)
theorem g_iast {q0 a n : Nat} {f : Nat → Int32} {i x : Int32} (d : decode (mC μ) pc = .ok (.iastore, 1)) (he : ws[q0]? = some (a, .inl (gI g, n, .inl f))) (j : Nat) (hi : i = nI j) (hj : j < n) (hn : n < 2147483648) {w2 : va_W} (e : ws.set q0 (a, .inl (gI g, n, .inl (upd f j x))) = w2) (kk : gp g h μ A w2 L st cells slots Q (pc + 1)) : gp g h μ A ws L (.int x :: .int i :: .ref a :: st) cells slots Q pc := by
  intro H locs ls hs hP hD hS hl
  obtain ⟨h1, h2⟩ := q_in hi hj hn
  subst e
  refine va_iast hs.1 hs.2.1 hs.2.2.2.2.2.2.2.1.1 hP hD hS q0 0 he rfl h1 d (fun H1 locs1 hP1 hD1 hS1 => ?_)
  rw [h2] at hP1 hD1
  exact kk H1 locs1 ls hs hP1 hD1 hS1 hl
theorem g_mmax {x y z : Int32} {idx : Nat} (d : decode (mC μ) pc = .ok (.invokestatic idx, 3)) (ml : Cond.methodLink (mN μ).cls idx Lib.Math.max.name ∈ UW) (hz : (if x < y then y else x) = z) (hfr : 1 ≤ (mR μ).frames) (hlo : (st.map fun v => v.category).sum + 13 ≤ (mR μ).locals) (hcells : cells ≤ (mR μ).cells) (hslots : slots ≤ (mR μ).slots) (kk : gp g h μ A ws L (.int z :: st) cells slots Q (pc + 3)) : gp g h μ A ws L (.int y :: .int x :: st) cells slots Q pc := by
  intro H locs ls hs hP hD hS hl
  have hR := hs.2.2.2.2.2.2.2.2.1
  refine va_mmax hs.1 hs.2.1 (hs.2.2.2.1.trans hl.1.symm) hs.2.2.2.2.1 (hs.2.2.2.2.2.1 _ ml) (hs.2.2.2.2.2.1 _ uw_106) (hs.2.2.2.2.2.1 _ uw_43) (hs.2.2.2.2.2.1 _ uw_107) (by rw [hR]; exact hfr) (by rw [hR]; exact hlo) (by rw [hR]; exact hcells) (by rw [hR]; exact hslots) d ?_
  rw [hz]
  exact kk H locs ls hs hP hD hS hl
/-- a constructor's contract -/
def cI (g : G0) (μ : MI) (as : List Value) (ws : va_W) (post : va_W → Prop) : Prop := ∀ sz : Nat, Met (gl g) (mN μ) (.code (mN μ) (mC μ) (mL μ) none :: UW) (mR μ) (va_Pc as (fun U => U.heap.size = sz ∧ va_P (gD g) vwCl ws U.heap ∧ KC g U ∧ va_D (fun _ => True) ws)) (va_Qv post (fun w2 t => va_P (gD g) vwCl w2 t.heap ∧ va_D (va_A ws sz) w2) (va_A ws sz)) (mR μ).cells (mR μ).slots (va_A ws sz)
def QC (g : G0) (h : G1) (A : Nat → Prop) (post : va_W → Prop) (cells slots : Nat) : State → Prop := MQ (jb h) (va_Qv post (fun w2 t => va_P (gD g) vwCl w2 t.heap ∧ va_D A w2) A) (ja h) (js h) cells slots A
theorem g_ret {post : va_W → Prop} (d : decode (mC μ) pc = .ok (.return_, 1)) (hT : mT μ = none) (hp : post ws) : gp g h μ A ws L [] cells slots (QC g h A post cells slots) pc := by
  intro H locs ls hs hP hD hS hl
  exact W.vret hs.1 hs.2.1 (hs.2.2.1.trans hT) (fun t ht hW => ⟨⟨ws, rfl, hp, by rw [ht]; exact hP, hD⟩, hS.F ht⟩) hS.2.2 d hs.2.2.2.2.2.2.1
theorem cI_of {as : List Value} {post : va_W → Prop} (hT : mT μ = none) (hy : plainName (mN μ).cls = true) (hL : lv_args 0 as = L) (hn : (lg_sl as).length ≤ mL μ) (k : ∀ (h : G1) (A : Nat → Prop), (jM h).name = (mN μ).name → gp g h μ A ws L [] 0 0 (QC g h A post (mR μ).cells (mR μ).slots) 0) : cI g μ as ws post := by
  intro sz
  refine Met.ofW (cc := mC μ) (maxL := mL μ) (ret := none) hy rfl ?_
  intro p e s m args below meth c s₁ B hml hv
  obtain ⟨rfl, hsz, hP, hK, hD0⟩ := hv
  have hts := atoms_spec (ws := .code (mN μ) (mC μ) (mL μ) none :: UW) B.pre
  have hin : meth.name = (mN μ).name := (name_of_methodNamed B.named B.method).1
  subst hsz
  have hD := hD0.self (sz := s.heap.size)
  rw [lg_entry_eq]
  have hl := lv_entry as (n := mL μ) hn
  rw [hL] at hl
  exact k (p, e, (mR μ), s, m, _, below, meth, c) _ hin s.heap [] _ ⟨B.exec, B.bytes, B.returns.trans hT.symm, hml, findClass_of_methodNamed B.named, fun w hw => hts w (List.mem_cons_of_mem _ hw), B.notSynchronized, hK, rfl, fun q h => Or.inr h⟩ hP hD va_S.rf hl
theorem g_callI {ν : MI} {q0 a idx n : Nat} {e0 : va_E} {As rest : List Value} {post : va_W → Prop} {wr : va_W} (isR : List Nat) (d : decode (mC μ) pc = .ok (.invokespecial idx, 3)) (ml : Cond.methodLink (mN μ).cls idx (mN ν) ∈ UW) (hini : Cond.initialized (mN ν).cls ∈ UW) (him : Cond.instanceMethod (mN ν) ∈ UW) (hcd : Cond.code (mN ν) (mC ν) (mL ν) none ∈ UW) (hy1 : (mN ν).name = "<init>") (hdd : (mN ν).cls ≠ "java/lang/invoke/MethodHandle" ∧ (mN ν).cls ≠ "java/lang/invoke/VarHandle" ∧ (parseMethodDescriptor (mN ν).desc).map (fun d => d.parameters.length) = some n) (hc : cI g ν (.ref a :: As) [(a, e0)] post) (he : ws[q0]? = some (a, e0)) (hR : isR.map (fun i => ws[i]?) = wr.map some) (hnd : va_nd isR = true) (hdis : ∀ i ∈ isR, i ∉ [q0]) (hst : st = As.reverse ++ .ref a :: rest) (hn : As.length = n) (hcat : (rest.map fun v => v.category).sum ≤ 8) (hfr : (mR ν).frames + 1 ≤ (mR μ).frames) (hlo : 8 + (mL ν + 11) + (mR ν).locals ≤ (mR μ).locals) (hcells : cells + (mR ν).cells ≤ (mR μ).cells) (hslots : slots + (mR ν).slots ≤ (mR μ).slots)
    (kk : ∀ w2, post w2 → gp g h μ A (wr ++ w2) L rest (cells + (mR ν).cells) (slots + (mR ν).slots) Q (pc + 3)) : gp g h μ A ws L st cells slots Q pc := by
  intro H locs ls hs hP hD hS hl
  have hR0 := hs.2.2.2.2.2.2.2.2.1
  have hK := hs.2.2.2.2.2.2.2.1
  have hC : [q0].map (fun i => ws[i]?) = ([(a, e0)] : va_W).map some := by simp only [List.map_cons, List.map_nil, he]
  have hPc : va_P (gD g) vwCl [(a, e0)] H := hP.sub [q0] (by simp only [List.filterMap_cons, List.filterMap_nil, he])
  have hDc : va_D A [(a, e0)] := ⟨fun i j p q hi hj _ => by
    have h1 : i < 1 := (List.getElem?_eq_some_iff.mp hi).1
    have h2 : j < 1 := (List.getElem?_eq_some_iff.mp hj).1
    omega, fun k q hk => by
    have h1 : k < 1 := (List.getElem?_eq_some_iff.mp hk).1
    obtain rfl : k = 0 := by omega
    cases hk
    exact hD.2 q0 _ he⟩
  have hFc := va_free (wc := [(a, e0)]) hD hS hs.2.2.2.2.2.2.2.2.2 [q0] hC
  refine va_callv (va_runI (Ts := UW) (As := As) (rest := rest) (nL := mL μ) ⟨hs.1, hs.2.1, hs.2.2.2.1, hs.2.2.2.2.1, hs.2.2.2.2.2.1⟩ (hc H.size) (cwI n hs.2.2.2.2.2.1 (UW_in0 hcd) rfl rfl rfl (hs.2.2.2.2.2.1 _ hini) (hs.2.2.2.2.2.1 _ ml) (hs.2.2.2.2.2.1 _ him) hy1 hdd ⟨by rw [hR0]; exact hfr, by rw [hR0]; exact hlo⟩) ⟨fun a U g mk q => by obtain ⟨q0, q1, qP, qK, qD⟩ := q; exact ⟨q0, q1, qP, KC.same (s := U) rfl qK, qD⟩, fun U hU hW => ⟨rfl, by rw [hU], by rw [hU]; exact hPc, KC.warm hW hK, hDc.weaken (fun _ _ _ _ => trivial)⟩⟩ rfl hn hl.1 hst (lv_room hcat) d ⟨by rw [hR0]; exact hcells, by rw [hR0]; exact hslots⟩) hS (fun q _ h => hFc q h) hFc (fun u t H1 locs1 ht hvm hw hB hz1 hk1 hS1 => ?_)
  obtain ⟨hP1, hD1⟩ := hB
  rw [ht] at hP1
  obtain ⟨hP2, hD2⟩ := va_join hP hD [q0] isR hC hR hnd hdis hk1 hFc hP1 hD1
  exact kk u hw H1 locs1 ls hs hP2 hD2 hS1 hl
theorem g_callIN {ν : MI} {host : String} {q0 a idx n : Nat} {e0 : va_E} {As rest : List Value} {post : va_W → Prop} {wr : va_W} (isR : List Nat) (d : decode (mC μ) pc = .ok (.invokespecial idx, 3)) (ml : ((mN μ).cls, idx, mN ν, host) ∈ nestC) (hini : Cond.initialized (mN ν).cls ∈ UW) (him : Cond.instanceMethod (mN ν) ∈ UW) (hcd : Cond.code (mN ν) (mC ν) (mL ν) none ∈ UW) (hy1 : (mN ν).name = "<init>") (hdd : (mN ν).cls ≠ "java/lang/invoke/MethodHandle" ∧ (mN ν).cls ≠ "java/lang/invoke/VarHandle" ∧ (parseMethodDescriptor (mN ν).desc).map (fun d => d.parameters.length) = some n) (hc : cI g ν (.ref a :: As) [(a, e0)] post) (he : ws[q0]? = some (a, e0)) (hR : isR.map (fun i => ws[i]?) = wr.map some) (hnd : va_nd isR = true) (hdis : ∀ i ∈ isR, i ∉ [q0]) (hst : st = As.reverse ++ .ref a :: rest) (hn : As.length = n) (hcat : (rest.map fun v => v.category).sum ≤ 8) (hfr : (mR ν).frames + 1 ≤ (mR μ).frames) (hlo : 8 + (mL ν + 11) + (mR ν).locals ≤ (mR μ).locals) (hcells : cells + (mR ν).cells ≤ (mR μ).cells) (hslots : slots + (mR ν).slots ≤ (mR μ).slots)
    (kk : ∀ w2, post w2 → gp g h μ A (wr ++ w2) L rest (cells + (mR ν).cells) (slots + (mR ν).slots) Q (pc + 3)) : gp g h μ A ws L st cells slots Q pc := by
  intro H locs ls hs hP hD hS hl
  have hR0 := hs.2.2.2.2.2.2.2.2.1
  have hK := hs.2.2.2.2.2.2.2.1
  have hC : [q0].map (fun i => ws[i]?) = ([(a, e0)] : va_W).map some := by simp only [List.map_cons, List.map_nil, he]
  have hPc : va_P (gD g) vwCl [(a, e0)] H := hP.sub [q0] (by simp only [List.filterMap_cons, List.filterMap_nil, he])
  have hDc : va_D A [(a, e0)] := ⟨fun i j p q hi hj _ => by
    have h1 : i < 1 := (List.getElem?_eq_some_iff.mp hi).1
    have h2 : j < 1 := (List.getElem?_eq_some_iff.mp hj).1
    omega, fun k q hk => by
    have h1 : k < 1 := (List.getElem?_eq_some_iff.mp hk).1
    obtain rfl : k = 0 := by omega
    cases hk
    exact hD.2 q0 _ he⟩
  have hFc := va_free (wc := [(a, e0)]) hD hS hs.2.2.2.2.2.2.2.2.2 [q0] hC
  refine va_callv (va_runIN (host := host) (Ts := UW) (As := As) (rest := rest) (nL := mL μ) ⟨hs.1, hs.2.1, hs.2.2.2.1, hs.2.2.2.2.1, hs.2.2.2.2.2.1⟩ (hc H.size) ⟨va_cnB n hs.2.2.2.2.2.1 (UW_in0 hcd) rfl rfl rfl (hK.2 _ ml) (hs.2.2.2.2.2.1 _ hini) hdd ⟨by rw [hR0]; exact hfr, by rw [hR0]; exact hlo⟩, hy1, hs.2.2.2.2.2.1 _ him⟩ ⟨fun a U g mk q => by obtain ⟨q0, q1, qP, qK, qD⟩ := q; exact ⟨q0, q1, qP, KC.same (s := U) rfl qK, qD⟩, fun U hU hW => ⟨rfl, by rw [hU], by rw [hU]; exact hPc, KC.warm hW hK, hDc.weaken (fun _ _ _ _ => trivial)⟩⟩ rfl hn hl.1 hst (lv_room hcat) d ⟨by rw [hR0]; exact hcells, by rw [hR0]; exact hslots⟩) hS (fun q _ h => hFc q h) hFc (fun u t H1 locs1 ht hvm hw hB hz1 hk1 hS1 => ?_)
  obtain ⟨hP1, hD1⟩ := hB
  rw [ht] at hP1
  obtain ⟨hP2, hD2⟩ := va_join hP hD [q0] isR hC hR hnd hdis hk1 hFc hP1 hD1
  exact kk u hw H1 locs1 ls hs hP2 hD2 hS1 hl
end QG
