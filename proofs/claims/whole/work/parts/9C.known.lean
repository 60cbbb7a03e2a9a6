theorem str_ex {own tx : String} {k : Nat} {A : Array Value} {U : State} (h : (Cond.stringRef own k tx).before A U = true) : ∃ a, vk_R own k tx a U := by
  have h0 := h
  simp only [Cond.before, Cond.holds, Cond.value] at h
  cases hc : U.vm.findClass own with
  | none => simp [hc] at h
  | some cur =>
    obtain ⟨k9, cf, j, a, -, -, -, -, -, hev⟩ := Cond.stringRef_spec hc h0
    exact ⟨a, vk_R.of h0 hev⟩
theorem UW_tbl {w : Cond} (h : w ∈ UW) : w ∈ lw_tbl := (List.mem_filter.mp h).1
theorem arr_ex {A : Array Value} {s : State} {ty : FieldType} (hp : ∀ C, ty ≠ .object C) (h : (Cond.arrayClass ty).before A s = true) : ∃ cA, ArrOfT s cA ty ∧ va_RA s cA ty := by
  obtain ⟨cA, kA, comp, h1, h2, h3⟩ := Cond.arrayClass_spec h
  refine ⟨cA, fun n z => ⟨fun k h => (by cases h), kA, h2, comp, h3⟩, ?_⟩
  cases ty with
  | object C => exact absurd rfl (hp C)
  | _ => exact h1
theorem mem_strs : ∀ q ∈ strs, Cond.stringRef RX9 q.1 q.2 ∈ lw_tbl := by decide +kernel
theorem mem_nestF : ∀ q ∈ nestF, Cond.fieldLinkNest q.1 q.2.1 q.2.2.1 q.2.2.2.1 q.2.2.2.2.1 q.2.2.2.2.2 ∈ lw_tbl := by decide +kernel
theorem mem_nestM : ∀ q ∈ nestM, Cond.methodLinkNest q.1 q.2.1 q.2.2.1 q.2.2.2 ∈ lw_tbl := by decide +kernel
theorem mem_nestC : ∀ q ∈ nestC, Cond.methodLinkNest q.1 q.2.1 q.2.2.1 q.2.2.2 ∈ lw_tbl := by decide +kernel
theorem mem_decls : ∀ x ∈ decls, Cond.declares x ∈ lw_tbl := by decide +kernel
theorem mem_casts : ∀ E ∈ casts, Cond.castable E E ∈ lw_tbl := by decide +kernel
theorem mem_ncs : ∀ q ∈ ncs, Cond.not (.castable q.1 q.2) ∈ flatC (Jvm.Cond.and given_1 narrow_1) := by decide +kernel
theorem mem_z : Cond.laysStatic Bundle.tN "UNASSIGNED_STACK" Bundle.steD ∈ lw_tbl ∧ Cond.laysStatic Bundle.tN "SUPPRESSED_SENTINEL" Bundle.listD ∈ lw_tbl ∧ Cond.initialized Bundle.tN ∈ lw_tbl := by decide +kernel
theorem mem_y : Cond.isRef (.static Bundle.tN "UNASSIGNED_STACK" Bundle.steD) ∈ flatC (Jvm.Cond.and given_1 narrow_1) ∧ Cond.isRef (.static Bundle.tN "SUPPRESSED_SENTINEL" Bundle.listD) ∈ flatC (Jvm.Cond.and given_1 narrow_1) := by decide +kernel
set_option maxRecDepth 100000 in
theorem law_K {A : Array Value} {s : State} (hts : ∀ w ∈ UW, w.before A s = true) : ∃ (D : va_G) (cI cJ cZ cC : ClassId), va_K D vwCl [(cI, .int), (cJ, .long), (cZ, .boolean), (cC, .char)] s := by
  obtain ⟨c0, i0, k0⟩ := u_known (C := RX0) (T := TX0) (N := 4) (n := 4) hts iuX0 (hts _ uw_139)
  obtain ⟨c1, i1, k1⟩ := u_known (C := RX1) (T := TX1) (N := 2) (n := 2) hts iuX1 (hts _ uw_68)
  obtain ⟨c2, i2, k2⟩ := u_known (C := RX2) (T := TX2) (N := 3) (n := 3) hts iuX2 (hts _ uw_94)
  obtain ⟨c3, i3, k3⟩ := u_known (C := RX3) (T := TX3) (N := 1) (n := 1) hts iuX3 (hts _ uw_161)
  obtain ⟨c4, i4, k4⟩ := u_known (C := RX4) (T := TX4) (N := 4) (n := 4) hts iuX4 (hts _ uw_171)
  obtain ⟨c5, i5, k5⟩ := u_known (C := RX5) (T := TX5) (N := 4) (n := 4) hts iuX5 (hts _ uw_190)
  obtain ⟨c6, i6, k6⟩ := u_known (C := RX6) (T := TX6) (N := 1) (n := 1) hts iuX6 (hts _ uw_128)
  obtain ⟨c7, i7, k7⟩ := u_known (C := RX7) (T := TX7) (N := 1) (n := 1) hts iuX7 (hts _ uw_82)
  obtain ⟨c8, i8, k8⟩ := u_known (C := RX8) (T := TX8) (N := 2) (n := 2) hts iuX8 (hts _ uw_100)
  obtain ⟨c9, i9, k9⟩ := u_known (C := RX9) (T := TX9) (N := 13) (n := 13) hts iuX9 (hts _ uw_60)
  obtain ⟨c10, i10, k10⟩ := u_known (C := RX10) (T := TX10) (N := 21) (n := 21) hts iuX10 (hts _ uw_919)
  obtain ⟨cI, aI, rI⟩ := arr_ex (ty := .int) (fun _ z => by cases z) (hts _ uw_92)
  obtain ⟨cJ, aJ, rJ⟩ := arr_ex (ty := .long) (fun _ z => by cases z) (hts _ uw_159)
  obtain ⟨cZ, aZ, rZ⟩ := arr_ex (ty := .boolean) (fun _ z => by cases z) (hts _ uw_137)
  obtain ⟨cC, aC, rC⟩ := arr_ex (ty := .char) (fun _ z => by cases z) (hts _ uw_80)
  refine ⟨(fun k => match k with | 0 => c0 | 1 => c1 | 2 => c2 | 3 => c3 | 4 => c4 | 5 => c5 | 6 => c6 | 7 => c7 | 8 => c8 | 9 => c9 | _ => c10, fun k => match k with | 0 => i0 | 1 => i1 | 2 => i2 | 3 => i3 | 4 => i4 | 5 => i5 | 6 => i6 | 7 => i7 | 8 => i8 | 9 => i9 | _ => i10), cI, cJ, cZ, cC, fun c q hq => ?_, fun k q hq => ?_⟩
  · match c, hq with
    | 0, hq => cases hq; exact k0
    | 1, hq => cases hq; exact k1
    | 2, hq => cases hq; exact k2
    | 3, hq => cases hq; exact k3
    | 4, hq => cases hq; exact k4
    | 5, hq => cases hq; exact k5
    | 6, hq => cases hq; exact k6
    | 7, hq => cases hq; exact k7
    | 8, hq => cases hq; exact k8
    | 9, hq => cases hq; exact k9
    | 10, hq => cases hq; exact k10
    | c + 11, hq => simp [vwCl] at hq
  · match k, hq with
    | 0, hq => cases hq; exact ⟨aI, rI⟩
    | 1, hq => cases hq; exact ⟨aJ, rJ⟩
    | 2, hq => cases hq; exact ⟨aZ, rZ⟩
    | 3, hq => cases hq; exact ⟨aC, rC⟩
    | k + 4, hq => simp at hq
theorem law_Kn {g : G0} {s : State} {b : Nat} (hts : ∀ w ∈ lw_tbl, w.before #[Value.ref b] s = true) (hgv : (Jvm.Cond.and given_1 narrow_1).before #[Value.ref b] s = true) (hK : va_K (gD g) vwCl (tysG g) s) (hB : gB g = s.heap.size) : Kn g s s.heap ∧ KC g s := by
  have hA : ∀ a : Nat, a < s.heap.size → ¬ bigA g a := fun a h z => by
    unfold bigA at z
    rw [hB] at z
    omega
  have hfl := flat_of_before _ hgv
  refine ⟨⟨hK, ⟨vx_Zqof (hts _ mem_z.1) (hts _ mem_z.2.2) (hfl _ mem_y.1) hA, vx_Zqof (hts _ mem_z.2.1) (hts _ mem_z.2.2) (hfl _ mem_y.2) hA⟩, fun q hq => str_ex (hts _ (mem_strs q hq)), fun q hq => va_Nw.of rfl (hts _ (mem_nestF q hq)), fun q hq => va_Nw.of rfl (hts _ (mem_nestM q hq)), fun x hx => va_Nw.of rfl (hts _ (mem_decls x hx)), fun E hE => va_Nw.of rfl (hts _ (mem_casts E hE)), fun q hq => va_Nc.of (hfl _ (mem_ncs q hq))⟩, hK, fun q hq => va_Nw.of rfl (hts _ (mem_nestC q hq))⟩
def S00 : SS := ((((((0, fun _ => 0), (upd (upd (fun _ => 0) 2 100) 3 900, upd (upd (fun _ => 0) 2 100) 3 900)), ((0, 0), (fun _ => 0, fun _ => 0))), (((fun _ => 0, fun _ => 0), (0, 1)), ((fun _ => 0, fun _ => 0), (fun _ => 0, 0)))), ((((0, fun _ => 0), (fun _ => 0, 0)), ((1, 0), (1, 0))), (((1, 0), (1, 0)), ((1, 0), 1)))), (((((0, 0), 0), ((0, 0), 0)), (((0, 0), upd (upd (fun _ => 0) 26 100) 27 900), (fun _ => 0, fun _ => 0))), ((((fun _ => 0, fun _ => 0), fun _ => 0), ((fun _ => 0, fun _ => 0), fun _ => 0)), (((fun _ => 0, fun _ => 0), fun _ => 0), (fun _ => 0, fun _ => 0)))))
theorem RLaw_0 : RLaw S00 := by
  refine ⟨⟨0, 0, _, _, _, RR_0 (a := 100) (b := 900) (by omega) (by omega) (fun j _ h2 h3 => ?_) (fun j _ h2 h3 => ?_) rfl rfl rfl rfl⟩, ⟨0, 0, by omega, by omega, rfl, rfl, rfl, rfl⟩, RG_0 (fun _ _ => rfl) (fun _ _ => rfl), RG_0 (fun _ _ => rfl) (fun _ _ => rfl), fun _ _ => rfl, ⟨0, fun _ => 0, by omega, rfl, rfl, fun j hj => absurd hj (by omega)⟩, ⟨0, 0, rfl, rfl, rfl, by omega, by omega, fun _ => rfl, fun k hk => absurd hk (by omega)⟩⟩
  · show upd (upd (fun _ => 0) 2 100) 3 900 j = 0
    rw [pk_un h3, pk_un h2]
  · show upd (upd (fun _ => 0) 26 100) 27 900 j = 0
    rw [pk_un h3, pk_un h2]
