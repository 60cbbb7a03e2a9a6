section QH
variable {g : G0} {h : G1} {μ : MI} {w : Nat → va_E} {L : List (Option Value)} {st : List Value} {b : Nat} {Q : State → Prop} {pc : Nat}
theorem Sta.K {g : G0} {h : G1} {μ : MI} (hs : Sta g h μ) : va_K (gD g) vwCl (tysG g) (js h) := hs.2.2.2.2.2.2.2.2.1.1
theorem Sta.G {g : G0} {h : G1} {μ : MI} (hs : Sta g h μ) : Gd g := hs.2.2.2.2.2.2.2.2.2.1
theorem Sta.Kn {g : G0} {h : G1} {μ : MI} (hs : Sta g h μ) : Kn g (js h) (js h).heap := hs.2.2.2.2.2.2.2.2.1
theorem Sta.R {g : G0} {h : G1} {μ : MI} (hs : Sta g h μ) : jR h = mR μ := hs.2.2.2.2.2.2.2.2.2.2
theorem Sta.tab {g : G0} {h : G1} {μ : MI} (hs : Sta g h μ) : (jc h).exceptionTable.toList = tableOf (mH μ) := hs.2.2.2.2.2.2.2.1
theorem Sta.locks {g : G0} {h : G1} {μ : MI} (hs : Sta g h μ) : (jM h).locks = false := hs.2.2.2.2.2.2.1
theorem Sta.own {g : G0} {h : G1} {μ : MI} (hs : Sta g h μ) : (js h).vm.findClass (mN μ).cls = some (jm h).cls := hs.2.2.2.2.1
theorem Sta.u {g : G0} {h : G1} {μ : MI} (hs : Sta g h μ) : ∀ w ∈ UW, w.before (ja h) (js h) = true := hs.2.2.2.2.2.1
theorem Sta.ml {g : G0} {h : G1} {μ : MI} (hs : Sta g h μ) : (jc h).maxLocals = mL μ := hs.2.2.2.1
theorem wl_obj {ad : Nat → Nat} {w : Nat → va_E} {k ci : Nat} {fs : List Value} (hk : k < NC) (hw : w k = .inr (ci, fs)) : (wl ad w)[k]? = some (ad k, .inr (ci, fs.map (emv ad))) := by rw [wl_get hk, hw]; rfl
theorem wl_arr {ad : Nat → Nat} {w : Nat → va_E} {k : Nat} {a : ClassId × vp_A} (hk : k < NC) (hw : w k = .inl a) : (wl ad w)[k]? = some (ad k, .inl a) := by rw [wl_get hk, hw]; rfl
theorem wl_obj_set {ad : Nat → Nat} {w : Nat → va_E} {k ci j : Nat} {fs : List Value} {v : Value} (hk : k < NC) : (wl ad w).set k (ad k, .inr (ci, (fs.map (emv ad)).set j (emv ad v))) = wl ad (va_up w k (.inr (ci, fs.set j v))) := by
  rw [← wl_set _ hk]
  simp only [emb, List.map_set]
theorem wl_arr_set {ad : Nat → Nat} {w : Nat → va_E} {k : Nat} {a : ClassId × vp_A} (hk : k < NC) : (wl ad w).set k (ad k, .inl a) = wl ad (va_up w k (.inl a)) := by rw [← wl_set _ hk]; rfl
theorem q_get {k ci j idx N9 : Nat} {C ref : String} {T9 : u_T} {fs : List Value} {v : Value} (d : decode (mC μ) pc = .ok (.getfield idx, 3)) (hk : k < NC) (hw : w k = .inr (ci, fs)) (hc : vwCl[ci]? = some (C, T9, N9)) (hin : ∀ x ∈ u_ws C T9 N9, x ∈ UW) (hj : j < N9) (hl : Cond.fieldLink (mN μ).cls idx ref (T9 j).2.1 (T9 j).2.2.1 ∈ UW) (hr : (T9 j).1 = ref) (hv : fs[j]? = some v)
    (kk : wp g h μ w L (v :: st) b Q (pc + 3)) : wp g h μ w L (.ref k :: st) b Q pc := by
  intro H locs ls cells slots hs hd
  exact va_get (D := gD g) (v := emv (gA g) v) hs.1 hs.2.1 hs.u hin hs.own hs.K hd.1 k (wl_obj hk hw) hc j hj (hs.u _ hl) (fun x hx => by rw [← hr]; exact hx) (by rw [List.getElem?_map, hv]; rfl) d (kk H locs ls cells slots hs hd)
theorem q_getN {k ci j idx N9 : Nat} {C ref host : String} {T9 : u_T} {fs : List Value} {v : Value} (d : decode (mC μ) pc = .ok (.getfield idx, 3)) (hk : k < NC) (hw : w k = .inr (ci, fs)) (hc : vwCl[ci]? = some (C, T9, N9)) (hin : ∀ x ∈ u_ws C T9 N9, x ∈ UW) (hj : j < N9) (hl : ((mN μ).cls, idx, ref, (T9 j).2.1, (T9 j).2.2.1, host) ∈ nestF) (hr : (T9 j).1 = ref) (hv : fs[j]? = some v)
    (kk : wp g h μ w L (v :: st) b Q (pc + 3)) : wp g h μ w L (.ref k :: st) b Q pc := by
  intro H locs ls cells slots hs hd
  exact va_getN (D := gD g) (v := emv (gA g) v) hs.1 hs.2.1 hs.u hin hs.own hs.K hd.1 k (wl_obj hk hw) hc j hj (va_Nw.use rfl (hs.Kn.2.2.2.1 _ hl)) (fun x hx => by rw [← hr]; exact hx) (by rw [List.getElem?_map, hv]; rfl) d (kk H locs ls cells slots hs hd)
theorem q_put {k ci j idx N9 : Nat} {C ref : String} {T9 : u_T} {ty0 : Nat → FieldType} {ty : FieldType} {fs : List Value} {v : Value} (d : decode (mC μ) pc = .ok (.putfield idx, 3)) (hk : k < NC) (hw : w k = .inr (ci, fs)) (hc : vwCl[ci]? = some (C, T9, N9)) (hin : ∀ x ∈ u_ws C T9 N9, x ∈ UW) (hty : ∀ k, k < N9 → parseFieldDescriptor (T9 k).2.2.1 = some (ty0 k)) (hnm : ∀ a, a < N9 → ∀ b, b < N9 → a ≠ b → (T9 a).2.1 ≠ (T9 b).2.1) (hj : j < N9) (hl : Cond.fieldLink (mN μ).cls idx ref (T9 j).2.1 (T9 j).2.2.1 ∈ UW) (hr : (T9 j).1 = ref) (hfin : (T9 j).2.2.2 = false) (hd9 : ty0 j = ty) (hn : narrow ty (emv (gA g) v) = emv (gA g) v) (hfit : fits ty (emv (gA g) v) = true) (hlen : j < fs.length)
    (kk : wp g h μ (va_up w k (.inr (ci, fs.set j v))) L st b Q (pc + 3)) : wp g h μ w L (v :: .ref k :: st) b Q pc := by
  intro H locs ls cells slots hs hd
  refine va_put (D := gD g) (v := emv (gA g) v) (ty := ty) hs.1 hs.2.1 hs.u hin ty0 hty hnm hs.own hs.K hd.1 (hs.G.D w) hd.2.1 k (wl_obj hk hw) hc j hj (hs.u _ hl) (fun x hx => by rw [← hr]; exact hx) hfin (by rw [← hd9]; exact hty j hj) hn hfit (by rw [List.length_map]; exact hlen) d (fun H1 locs1 hP1 hD1 hS1 => ?_)
  rw [wl_obj_set hk] at hP1
  exact kk H1 locs1 ls cells slots hs ⟨hP1, hS1, hd.2.2⟩
theorem q_in {i : Int32} {j n : Nat} (hi : i = nI j) (hj : j < n) (hn : n < 2147483648) : vp_in i n ∧ i.toNatClampNeg = j := by
  subst hi
  exact ⟨vp_in_nI hj hn, nI_clamp (by omega)⟩
theorem q_iald {k n : Nat} {f : Nat → Int32} {i : Int32} (d : decode (mC μ) pc = .ok (.iaload, 1)) (hk : k < NC) (hw : w k = .inl (gI g, n, .inl f)) (j : Nat) (hi : i = nI j) (hj : j < n) (hn : n < 2147483648) (kk : wp g h μ w L (.int (f j) :: st) b Q (pc + 1)) : wp g h μ w L (.int i :: .ref k :: st) b Q pc := by
  intro H locs ls cells slots hs hd
  obtain ⟨h1, h2⟩ := q_in hi hj hn
  refine va_iald (D := gD g) hs.1 hs.2.1 hs.K hd.1 k 0 (wl_arr hk hw) rfl h1 d ?_
  rw [h2]
  exact kk H locs ls cells slots hs hd
theorem q_lald {k n : Nat} {f : Nat → Int64} {i : Int32} (d : decode (mC μ) pc = .ok (.laload, 1)) (hk : k < NC) (hw : w k = .inl (gJ g, n, .inr (.inl f))) (j : Nat) (hi : i = nI j) (hj : j < n) (hn : n < 2147483648) (kk : wp g h μ w L (.long (f j) :: st) b Q (pc + 1)) : wp g h μ w L (.int i :: .ref k :: st) b Q pc := by
  intro H locs ls cells slots hs hd
  obtain ⟨h1, h2⟩ := q_in hi hj hn
  refine va_lald (D := gD g) hs.1 hs.2.1 hs.K hd.1 k 1 (wl_arr hk hw) rfl h1 d ?_
  rw [h2]
  exact kk H locs ls cells slots hs hd
theorem q_zald {k n : Nat} {f : Nat → Int32} {i : Int32} (d : decode (mC μ) pc = .ok (.baload, 1)) (hk : k < NC) (hw : w k = .inl (gZ g, n, .inl f)) (j : Nat) (hi : i = nI j) (hj : j < n) (hn : n < 2147483648) (kk : wp g h μ w L (.int (f j) :: st) b Q (pc + 1)) : wp g h μ w L (.int i :: .ref k :: st) b Q pc := by
  intro H locs ls cells slots hs hd
  obtain ⟨h1, h2⟩ := q_in hi hj hn
  refine va_zald (D := gD g) hs.1 hs.2.1 hs.K hd.1 k 2 (wl_arr hk hw) rfl h1 d ?_
  rw [h2]
  exact kk H locs ls cells slots hs hd
theorem q_cald {k n : Nat} {f : Nat → Int32} {i : Int32} (d : decode (mC μ) pc = .ok (.caload, 1)) (hk : k < NC) (hw : w k = .inl (gC g, n, .inl f)) (j : Nat) (hi : i = nI j) (hj : j < n) (hn : n < 2147483648) (kk : wp g h μ w L (.int (f j) :: st) b Q (pc + 1)) : wp g h μ w L (.int i :: .ref k :: st) b Q pc := by
  intro H locs ls cells slots hs hd
  obtain ⟨h1, h2⟩ := q_in hi hj hn
  refine va_cald (D := gD g) hs.1 hs.2.1 hs.K hd.1 k 3 (wl_arr hk hw) rfl h1 d ?_
  rw [h2]
  exact kk H locs ls cells slots hs hd
theorem q_iast {k n : Nat} {f : Nat → Int32} {i x : Int32} (d : decode (mC μ) pc = .ok (.iastore, 1)) (hk : k < NC) (hw : w k = .inl (gI g, n, .inl f)) (j : Nat) (hi : i = nI j) (hj : j < n) (hn : n < 2147483648) (kk : wp g h μ (va_up w k (.inl (gI g, n, .inl (upd f j x)))) L st b Q (pc + 1)) : wp g h μ w L (.int x :: .int i :: .ref k :: st) b Q pc := by
  intro H locs ls cells slots hs hd
  obtain ⟨h1, h2⟩ := q_in hi hj hn
  refine va_iast (D := gD g) hs.1 hs.2.1 hs.K hd.1 (hs.G.D w) hd.2.1 k 0 (wl_arr hk hw) rfl h1 d (fun H1 locs1 hP1 hD1 hS1 => ?_)
  rw [h2, wl_arr_set hk] at hP1
  exact kk H1 locs1 ls cells slots hs ⟨hP1, hS1, hd.2.2⟩
theorem q_last {k n : Nat} {f : Nat → Int64} {i : Int32} {x : Int64} (d : decode (mC μ) pc = .ok (.lastore, 1)) (hk : k < NC) (hw : w k = .inl (gJ g, n, .inr (.inl f))) (j : Nat) (hi : i = nI j) (hj : j < n) (hn : n < 2147483648) (kk : wp g h μ (va_up w k (.inl (gJ g, n, .inr (.inl (vp_updL f j x))))) L st b Q (pc + 1)) : wp g h μ w L (.long x :: .int i :: .ref k :: st) b Q pc := by
  intro H locs ls cells slots hs hd
  obtain ⟨h1, h2⟩ := q_in hi hj hn
  refine va_last (D := gD g) hs.1 hs.2.1 hs.K hd.1 (hs.G.D w) hd.2.1 k 1 (wl_arr hk hw) rfl h1 d (fun H1 locs1 hP1 hD1 hS1 => ?_)
  rw [h2, wl_arr_set hk] at hP1
  exact kk H1 locs1 ls cells slots hs ⟨hP1, hS1, hd.2.2⟩
theorem q_zast {k n : Nat} {f : Nat → Int32} {i x : Int32} (d : decode (mC μ) pc = .ok (.bastore, 1)) (hk : k < NC) (hw : w k = .inl (gZ g, n, .inl f)) (j : Nat) (hi : i = nI j) (hj : j < n) (hn : n < 2147483648) {y : Int32} (hx : vp_nar .boolean x = y) (kk : wp g h μ (va_up w k (.inl (gZ g, n, .inl (upd f j y)))) L st b Q (pc + 1)) : wp g h μ w L (.int x :: .int i :: .ref k :: st) b Q pc := by
  intro H locs ls cells slots hs hd
  obtain ⟨h1, h2⟩ := q_in hi hj hn
  refine va_zast (D := gD g) hs.1 hs.2.1 hs.K hd.1 (hs.G.D w) hd.2.1 k 2 (wl_arr hk hw) rfl h1 d (fun H1 locs1 hP1 hD1 hS1 => ?_)
  rw [h2, wl_arr_set hk, hx] at hP1
  exact kk H1 locs1 ls cells slots hs ⟨hP1, hS1, hd.2.2⟩
theorem q_cast {k n : Nat} {f : Nat → Int32} {i x : Int32} (d : decode (mC μ) pc = .ok (.castore, 1)) (hk : k < NC) (hw : w k = .inl (gC g, n, .inl f)) (j : Nat) (hi : i = nI j) (hj : j < n) (hn : n < 2147483648) {y : Int32} (hx : vp_nar .char x = y) (kk : wp g h μ (va_up w k (.inl (gC g, n, .inl (upd f j y)))) L st b Q (pc + 1)) : wp g h μ w L (.int x :: .int i :: .ref k :: st) b Q pc := by
  intro H locs ls cells slots hs hd
  obtain ⟨h1, h2⟩ := q_in hi hj hn
  refine va_cast (D := gD g) hs.1 hs.2.1 hs.K hd.1 (hs.G.D w) hd.2.1 k 3 (wl_arr hk hw) rfl h1 d (fun H1 locs1 hP1 hD1 hS1 => ?_)
  rw [h2, wl_arr_set hk, hx] at hP1
  exact kk H1 locs1 ls cells slots hs ⟨hP1, hS1, hd.2.2⟩
theorem q_alen {k t : Nat} {cA : ClassId} {x : vp_A} {ty : FieldType} {v : Int32} (d : decode (mC μ) pc = .ok (.arraylength, 1)) (hk : k < NC) (hw : w k = .inl (cA, x)) (ht : (tysG g)[t]? = some (cA, ty)) (hv : Int32.ofNat x.1 = v) (kk : wp g h μ w L (.int v :: st) b Q (pc + 1)) : wp g h μ w L (.ref k :: st) b Q pc := by
  intro H locs ls cells slots hs hd
  exact va_alen (D := gD g) hs.1 hs.2.1 hs.K hd.1 k t (wl_arr hk hw) ht hv d (kk H locs ls cells slots hs hd)
variable {post : Option Value → (Nat → va_E) → Prop} {xp : String → (Nat → va_E) → Prop}
theorem q_iret {v : Int32} (d : decode (mC μ) pc = .ok (.ireturn, 1)) (hr : mT μ = some .int) (hp : post (some (.int v)) w) : wp g h μ w L [.int v] b (QQ g h μ post xp) pc := by
  intro H locs ls cells slots hs hd
  refine W.widen (k := (mR μ).cells) (n := (mR μ).slots) (by have := hd.2.2.2.1; omega) (by have := hd.2.2.2.2; omega) (vx_ret (W.iret hs.1 hs.2.1 (hs.2.2.1.trans hr) (fun t ht _ => ⟨⟨some (.int v), w, rfl, hp, ?_⟩, hd.2.1.F ht⟩) hd.2.1.2.2 d hs.locks))
  rw [ht]
  exact hd.1
theorem q_zret {v : Int32} (d : decode (mC μ) pc = .ok (.ireturn, 1)) (hr : mT μ = some .boolean) (hn : narrow .boolean (.int v) = .int v) (hp : post (some (.int v)) w) : wp g h μ w L [.int v] b (QQ g h μ post xp) pc := by
  intro H locs ls cells slots hs hd
  refine W.widen (k := (mR μ).cells) (n := (mR μ).slots) (by have := hd.2.2.2.1; omega) (by have := hd.2.2.2.2; omega) (vx_ret (W.zret hs.1 hs.2.1 (hs.2.2.1.trans hr) hn (fun t ht _ => ⟨⟨some (.int v), w, rfl, hp, ?_⟩, hd.2.1.F ht⟩) hd.2.1.2.2 d hs.locks))
  rw [ht]
  exact hd.1
theorem q_lret {v : Int64} (d : decode (mC μ) pc = .ok (.lreturn, 1)) (hr : mT μ = some .long) (hp : post (some (.long v)) w) : wp g h μ w L [.long v] b (QQ g h μ post xp) pc := by
  intro H locs ls cells slots hs hd
  refine W.widen (k := (mR μ).cells) (n := (mR μ).slots) (by have := hd.2.2.2.1; omega) (by have := hd.2.2.2.2; omega) (vx_ret (W.lret hs.1 hs.2.1 (hs.2.2.1.trans hr) (fun t ht _ => ⟨⟨some (.long v), w, rfl, hp, ?_⟩, hd.2.1.F ht⟩) hd.2.1.2.2 d hs.locks))
  rw [ht]
  exact hd.1
theorem q_vret (d : decode (mC μ) pc = .ok (.return_, 1)) (hr : mT μ = none) (hp : post none w) : wp g h μ w L [] b (QQ g h μ post xp) pc := by
  intro H locs ls cells slots hs hd
  refine W.widen (k := (mR μ).cells) (n := (mR μ).slots) (by have := hd.2.2.2.1; omega) (by have := hd.2.2.2.2; omega) (vx_ret (W.vret hs.1 hs.2.1 (hs.2.2.1.trans hr) (fun t ht _ => ⟨⟨none, w, rfl, hp, ?_⟩, hd.2.1.F ht⟩) hd.2.1.2.2 d hs.locks))
  rw [ht]
  exact hd.1
end QH
