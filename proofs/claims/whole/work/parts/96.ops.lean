section
variable {f g : Nat → Int32} {N fc : Nat} {w r t : Nat → Nat}
theorem RS.eqr (h : RS f g N fc w r t) {c d : Nat} (hc : c < N) (hd : d < 2) : f (4 + 2 * c + d) = g (1 + 2 * c + d) := by
  have := h.2.2.2.2.2.1 (2 * c + d) (by omega)
  rw [Nat.add_assoc, Nat.add_assoc, this.2.1, this.2.2]
theorem RS.eqt (h : RS f g N fc w r t) {c d : Nat} (hc : c < N) (hd : d < 2) : f (16 + 2 * c + d) = g (13 + 2 * c + d) := by
  have := h.2.2.2.2.2.2 (2 * c + d) (by omega)
  rw [Nat.add_assoc, Nat.add_assoc, this.2.1, this.2.2]
theorem RR.eqc (h : RR f g N fc w r t) {c d : Nat} (hc : c < N) (hd : d < 2) : f (28 + 2 * c + d) = g (28 + 2 * c + d) := by
  have := h.2.1 (2 * c + d) (by omega)
  rw [Nat.add_assoc]
  exact this
theorem RS.eqf (h : RS f g N fc w r t) {d : Nat} (hd : d < 2) : f (2 + d) = g (26 + d) := by
  have := h.2.2.2.2.1 d hd
  rw [this.2.1, this.2.2]
theorem RR.eqa (h : RR f g N fc w r t) {p d : Nat} (hp : p = 8 ∨ p = 9) (hd : d < 2) : f (40 + 2 * (p - 8) + d) = g (40 + 2 * (p - 8) + d) := by
  have := h.2.2.2 (2 * (p - 8) + d) (by omega)
  rw [Nat.add_assoc]
  exact this
end
/-- a call that is noted -/
theorem RLaw_act {S S2 : SS} (h : RLaw S) {p q : Nat} (hp : p < 14) (hq : q ≤ 14) {f' g' : Nat → Int32} (hx : RX f' g') (e1 : z_SV S2 = f') (e2 : z_NW S2 = g') (e3 : z_HN S2 = nI ((p + 1) % 14)) (e4 : z_NX S2 = nI ((p + 1) % 14)) (e5 : z_HK S2 = nI (min (q + 1) 14)) (e6 : z_AC S2 = nI (min (q + 1) 14)) (e7 : z_HR S2 = va_cpy (z_SV S) (z_HR S) 0 (p * 44) 44) (e8 : z_DI S2 = va_cpy (z_NW S) (z_DI S) 0 (p * 44) 44) (e9 : z_SL S2 = z_SL S) (e10 : z_KE S2 = z_KE S) (e11 : z_SF S2 = z_SF S) (e12 : z_IK S2 = z_IK S) (e13 : z_TL S2 = z_TL S) (e14 : z_SS S2 = z_SS S) (e15 : z_TX S2 = z_TX S) (e16 : z_SC S2 = z_SC S) (e17 : z_QN S2 = z_QN S) (e18 : z_QS S2 = z_QS S) (e19 : z_ME S2 = z_ME S) (e20 : z_QK S2 = z_QK S) (e21 : z_QV S2 = z_QV S) (e22 : z_MW S2 = z_MW S) (e23 : z_MS S2 = z_MS S) : RLaw S2 := by
  obtain ⟨hx0, _, hr, hs, hf, ht, hm⟩ := h
  unfold RLaw
  rw [e1, e2, e3, e4, e5, e6, e7, e8, e9, e10, e11, e12, e13, e14, e15, e16, e17, e18, e19, e20, e21, e22, e23]
  exact ⟨hx, ⟨(p + 1) % 14, min (q + 1) 14, by omega, by omega, rfl, rfl, rfl, rfl⟩, hr.put hx0, hs, hf, ht, hm⟩
theorem op_recovery {g : G0} (hG : Gd g) {S : SS} (h : RLaw S) (a b : Int32) : opA g mL_recovery mX10_recovery endI [.int a, .int b] S := by
  obtain ⟨⟨N, fc, w, r, t, hR⟩, -⟩ := id h
  have hN := hR.1.1
  have f0 := hR.1.2.2.1.1
  have g0 := hR.1.2.2.1.2
  by_cases q : (0 ≤ a ∧ a < z_SV S 0) ∧ (b = 0 ∨ b = 1)
  · obtain ⟨c, hc, rfl⟩ := ar_c hN (f0 ▸ q.1)
    obtain ⟨d, hd, rfl⟩ := ar_b q.2
    refine cW_v (k_L_recovery hG S _ _ _ _ (c_X9_recovery hG S c d N f0 hN hc hd)) ⟨0, rfl, ?_⟩
    exact cM_v (c_X10_recovery hG _ c d N g0 hN hc hd) ⟨_, rfl, rfl, fun _ => congrArg Int32.toInt64 (hR.1.eqr hc hd), RLaw_eq h rfl rfl rfl rfl rfl rfl rfl rfl rfl rfl rfl rfl rfl rfl rfl rfl rfl rfl rfl rfl rfl rfl rfl⟩
  · refine cW_v (k_L_recovery_EIO hG S _ _ _ (c_X9_recovery_x hG S a b q)) ⟨1, rfl, ?_⟩
    exact cM_v (c_X10_recovery_x hG _ a b N g0 hN (by rw [g0, ← f0]; exact q)) ⟨_, rfl, rfl, fun z => absurd z (by decide), RLaw_eq h rfl rfl rfl rfl rfl rfl rfl rfl rfl rfl rfl rfl rfl rfl rfl rfl rfl rfl rfl rfl rfl rfl rfl⟩
theorem op_destination {g : G0} (hG : Gd g) {S : SS} (h : RLaw S) (a b : Int32) : opA g mL_destination mX10_destination endI [.int a, .int b] S := by
  obtain ⟨⟨N, fc, w, r, t, hR⟩, -⟩ := id h
  have hN := hR.1.1
  have f0 := hR.1.2.2.1.1
  have g0 := hR.1.2.2.1.2
  by_cases q : (0 ≤ a ∧ a < z_SV S 0) ∧ (b = 0 ∨ b = 1)
  · obtain ⟨c, hc, rfl⟩ := ar_c hN (f0 ▸ q.1)
    obtain ⟨d, hd, rfl⟩ := ar_b q.2
    refine cW_v (k_L_destination hG S _ _ _ _ (c_X9_destination hG S c d N f0 hN hc hd)) ⟨0, rfl, ?_⟩
    exact cM_v (c_X10_destination hG _ c d N g0 hN hc hd) ⟨_, rfl, rfl, fun _ => congrArg Int32.toInt64 (hR.1.eqt hc hd), RLaw_eq h rfl rfl rfl rfl rfl rfl rfl rfl rfl rfl rfl rfl rfl rfl rfl rfl rfl rfl rfl rfl rfl rfl rfl⟩
  · refine cW_v (k_L_destination_EIO hG S _ _ _ (c_X9_destination_x hG S a b q)) ⟨1, rfl, ?_⟩
    exact cM_v (c_X10_destination_x hG _ a b N g0 hN (by rw [g0, ← f0]; exact q)) ⟨_, rfl, rfl, fun z => absurd z (by decide), RLaw_eq h rfl rfl rfl rfl rfl rfl rfl rfl rfl rfl rfl rfl rfl rfl rfl rfl rfl rfl rfl rfl rfl rfl rfl⟩
theorem op_content {g : G0} (hG : Gd g) {S : SS} (h : RLaw S) (a b : Int32) : opA g mL_content mX10_content endI [.int a, .int b] S := by
  obtain ⟨⟨N, fc, w, r, t, hR⟩, -⟩ := id h
  have hN := hR.1.1
  have f0 := hR.1.2.2.1.1
  have g0 := hR.1.2.2.1.2
  by_cases q : (0 ≤ a ∧ a < z_SV S 0) ∧ (b = 0 ∨ b = 1)
  · obtain ⟨c, hc, rfl⟩ := ar_c hN (f0 ▸ q.1)
    obtain ⟨d, hd, rfl⟩ := ar_b q.2
    refine cW_v (k_L_content hG S _ _ _ _ (c_X9_content hG S c d N f0 hN hc hd)) ⟨0, rfl, ?_⟩
    exact cM_v (c_X10_content hG _ c d N g0 hN hc hd) ⟨_, rfl, rfl, fun _ => congrArg Int32.toInt64 (hR.eqc hc hd), RLaw_eq h rfl rfl rfl rfl rfl rfl rfl rfl rfl rfl rfl rfl rfl rfl rfl rfl rfl rfl rfl rfl rfl rfl rfl⟩
  · refine cW_v (k_L_content_EIO hG S _ _ _ (c_X9_content_x hG S a b q)) ⟨1, rfl, ?_⟩
    exact cM_v (c_X10_content_x hG _ a b N g0 hN (by rw [g0, ← f0]; exact q)) ⟨_, rfl, rfl, fun z => absurd z (by decide), RLaw_eq h rfl rfl rfl rfl rfl rfl rfl rfl rfl rfl rfl rfl rfl rfl rfl rfl rfl rfl rfl rfl rfl rfl rfl⟩
theorem op_append {g : G0} (hG : Gd g) {S : SS} (h : RLaw S) (a : Int32) : opA g mL_append mX10_append endI [.int a] S := by
  obtain ⟨hx, hh, hr, hs, hf, ⟨len, t, hl, e1, e2, ht⟩, hm⟩ := id h
  by_cases q : 0 ≤ a ∧ a ≤ 255
  · obtain ⟨n, hn, rfl⟩ := ar_r (m := 255) rfl q
    by_cases q2 : len < 60
    · refine cW_v (k_L_append hG S _ _ _ (c_X9_append hG S n len e1 q2 hn)) ⟨0, rfl, ?_⟩
      refine cM_v (c_X10_append hG _ n len e2 q2 hn) ⟨_, rfl, rfl, fun _ => rfl, ⟨hx, hh, hr, hs, hf, ⟨len + 1, fun j => if j = len then n else t j, by omega, rfl, rfl, fun j hj => ?_⟩, hm⟩⟩
      show upd (z_TX S) len (nI n) j = nI (if j = len then n else t j) ∧ upd (z_SC S) len (nI n) j = nI (if j = len then n else t j) ∧ (if j = len then n else t j) < 65536
      by_cases z : j = len
      · rw [z, upd_self, upd_self, if_pos rfl]; exact ⟨rfl, rfl, by omega⟩
      · rw [pk_un z, pk_un z, if_neg z]; exact ht j (by omega)
    · have l60 : len = 60 := by omega
      refine cW_v (k_L_append_EIS hG S _ _ (c_X9_append_x2 hG S n (by rw [e1, l60]) hn)) ⟨2, rfl, ?_⟩
      exact cM_v (c_X10_append_x2 hG _ n (by rw [e2, l60]) hn) ⟨_, rfl, rfl, fun z => absurd z (by decide), RLaw_eq h rfl rfl rfl rfl rfl rfl rfl rfl rfl rfl rfl rfl rfl rfl rfl rfl rfl rfl rfl rfl rfl rfl rfl⟩
  · refine cW_v (k_L_append_EIA hG S _ _ (c_X9_append_x1 hG S a q)) ⟨1, rfl, ?_⟩
    exact cM_v (c_X10_append_x1 hG _ a q) ⟨_, rfl, rfl, fun z => absurd z (by decide), RLaw_eq h rfl rfl rfl rfl rfl rfl rfl rfl rfl rfl rfl rfl rfl rfl rfl rfl rfl rfl rfl rfl rfl rfl rfl⟩
theorem op_clearText {g : G0} (hG : Gd g) {S : SS} (h : RLaw S) : opB g mX9_clearText mX10_clearText S := by
  obtain ⟨hx, hh, hr, hs, hf, ⟨len, t, hl, e1, e2, ht⟩, hm⟩ := id h
  refine cM_v (c_X9_clearText hG S) ⟨_, rfl, ?_⟩
  refine cM_v (c_X10_clearText hG _) ⟨?_, ⟨hx, hh, hr, hs, hf, ⟨0, t, by omega, nI_0.symm, nI_0.symm, fun j hj => absurd hj (by omega)⟩, hm⟩⟩
  exact congrArg Value.int (e2.trans e1.symm)
theorem op_errorPosition {g : G0} (hG : Gd g) {S : SS} (h : RLaw S) : opB g mX9_errorPosition mX10_errorPosition S := by
  obtain ⟨hx, hh, hr, hs, hf, ⟨len, t, hl, e1, e2, ht⟩, hm⟩ := id h
  refine cM_v (c_X9_errorPosition hG S t len e1 hl (fun j hj => ⟨(ht j hj).1, (ht j hj).2.2⟩)) ⟨_, rfl, ?_⟩
  refine ⟨_, c_X10_errorPosition hG S t len e2 hl (fun j hj => ⟨(ht j hj).2.1, (ht j hj).2.2⟩), fun v w1 hv => ?_⟩
  obtain ⟨h1, s, rd, h2⟩ := hv
  exact ⟨_, _, h1, h2, rfl, RLaw_eq h rfl rfl rfl rfl rfl rfl rfl rfl rfl rfl rfl rfl rfl rfl rfl rfl rfl rfl rfl rfl rfl rfl rfl⟩
theorem err_fe {t : Nat → Nat} {len s : Nat} (h : errAt t len s) (hl : len ≤ 60) : ¬ feF t len len = -9 := by
  obtain ⟨h1, h2, h3⟩ := h
  have st : ∀ n, n ≤ len → len - n ≤ s → ¬ feF t len n = -9 := by
    intro n
    induction n with
    | zero =>
      intro _ hs
      have e : s = len := by omega
      rw [feF]
      rcases h3 with z | z
      · omega
      · rw [if_neg z.2]; exact nI_m9 hl
    | succ n ih =>
      intro hn hs
      by_cases z : len - (n + 1) < s
      · rw [feF_t (h2 _ z)]; exact ih (by omega) (by omega)
      · have e : len - (n + 1) = s := by omega
        rcases h3 with y | y
        · rw [feF_f (by rw [e]; exact y.2)]; exact nI_m9 (by omega)
        · omega
  exact st len (Nat.le_refl len) (by omega)
theorem ok_fe {t : Nat → Nat} {len c : Nat} (hc : len = 8 + 7 * c) (ha : ∀ j, j < len → allow j (t j)) : feF t len len = -9 := by
  have st : ∀ n, n ≤ len → feF t len n = -9 := by
    intro n
    induction n with
    | zero => intro _; rw [feF, if_pos ⟨by omega, by omega⟩]
    | succ n ih => intro hn; rw [feF_t (ha _ (by omega))]; exact ih (by omega)
  exact st len (Nat.le_refl len)
theorem fe_ok {t : Nat → Nat} {len : Nat} (h : feF t len len = -9) (hl : len ≤ 60) : (∀ j, j < len → allow j (t j)) ∧ 8 ≤ len ∧ (len - 8) % 7 = 0 := by
  have st : ∀ n, n ≤ len → feF t len n = -9 → (∀ j, len - n ≤ j → j < len → allow j (t j)) ∧ 8 ≤ len ∧ (len - 8) % 7 = 0 := by
    intro n
    induction n with
    | zero =>
      intro _ e
      rw [feF] at e
      by_cases z : 8 ≤ len ∧ (len - 8) % 7 = 0
      · exact ⟨fun j h1 h2 => by omega, z⟩
      · rw [if_neg z] at e; exact absurd e (nI_m9 hl)
    | succ n ih =>
      intro hn e
      by_cases z : allow (len - (n + 1)) (t (len - (n + 1)))
      · rw [feF_t z] at e
        obtain ⟨i1, i2⟩ := ih (by omega) e
        refine ⟨fun j h1 h2 => ?_, i2⟩
        by_cases y : j = len - (n + 1)
        · rw [y]; exact z
        · exact i1 j (by omega) h2
      · rw [feF_f z] at e; exact absurd e (nI_m9 (by omega))
  obtain ⟨a, b⟩ := st len (Nat.le_refl len) h
  exact ⟨fun j hj => a j (by omega) hj, b⟩
theorem op_load {g : G0} (hG : Gd g) {S : SS} (h : RLaw S) : opA g mL_load mX10_load endI [] S := by
  obtain ⟨hx, ⟨p, q, hp, hq, e3, e4, e5, e6⟩, hr, hs, hf, ⟨len, t, hl, e1, e2, ht⟩, hm⟩ := id h
  by_cases z : feF t len len = -9
  · obtain ⟨ha, h8, h7⟩ := fe_ok z hl
    have hc : len = 8 + 7 * ((len - 8) / 7) := by omega
    have c6 : (len - 8) / 7 ≤ 6 := by
      by_cases y : len ≤ 50
      · omega
      · have a := ha 50 (by omega)
        unfold allow at a
        rw [if_neg (by decide), if_neg (by decide), if_neg (by decide)] at a
        have := a.1
        omega
    have dg : ∀ j, 1 ≤ j → j < len → ¬ (8 ≤ j ∧ (j - 8) % 7 = 0) → 48 ≤ t j ∧ t j ≤ 57 := by
      intro j h1 h2 h3
      have a := ha j h2
      unfold allow at a
      rw [if_neg (by omega)] at a
      by_cases y : j = 1
      · rw [if_pos y] at a; unfold isCD at a; omega
      · rw [if_neg y] at a
        by_cases x : j < 8
        · rw [if_pos x] at a; unfold isDig at a; omega
        · rw [if_neg x] at a
          have a2 := a.2
          unfold allowC at a2
          rw [if_neg (by omega)] at a2
          by_cases v : (j - 8) % 7 < 5
          · rw [if_pos v] at a2; unfold isDig at a2; omega
          · rw [if_neg v] at a2; unfold isCD at a2; omega
    refine cW_v (k_L_load hG S _ _ (c_X9_load hG S t len ((len - 8) / 7) e1 hl (fun j hj => ⟨(ht j hj).1, (ht j hj).2.2⟩) z hc c6 dg)) ⟨0, rfl, ?_⟩
    refine ⟨_, c_X10_load hG _ t len e2 hl (fun j hj => ⟨(ht j hj).2.1, (ht j hj).2.2⟩), fun v w1 hv => ?_⟩
    rcases hv with ⟨c, h1, ⟨h2, h3, h4⟩, h5⟩ | ⟨s, rd, h1, h2, h3⟩
    · have ec : c = (len - 8) / 7 := by omega
      obtain ⟨fc, w, r, tt, hR⟩ := RX_read (t := t) (f := z_SV S) (g := z_RD S) (c := c) h2 (fun j hj => h4 j (by omega))
      have hR2 := hR.congr (f2 := rdF t (z_SV S) ((len - 8) / 7)) (g2 := va_cpy (rdM t (z_RD S) c) (z_NW S) 0 0 44) (fun j _ => by rw [ec]) (fun j hj => cpy_at hj)
      refine ⟨_, _, h1, h5, ⟨_, rfl, rfl, fun _ => ?_, ⟨⟨_, _, _, _, _, hR2⟩, ⟨p, 0, hp, by omega, e3, e4, nI_0.symm, nI_0.symm⟩, hr, hs, fun s hs2 => ?_, ⟨len, t, hl, e1, e2, ht⟩, hm⟩⟩⟩
      · exact congrArg (fun x => (nI x).toInt64) ec.symm
      · show upd (upd (z_SF S) 0 0) 1 0 s = upd (upd (z_IK S) 0 0) 1 0 s
        match s, hs2 with
        | 0, _ => rfl
        | 1, _ => rfl
    · exact absurd z (err_fe h2 hl)
  · refine cW_v (k_L_load_EIS hG S _ (c_X9_load_x hG S t len e1 hl (fun j hj => ⟨(ht j hj).1, (ht j hj).2.2⟩) z)) ⟨1, rfl, ?_⟩
    refine ⟨_, c_X10_load hG _ t len e2 hl (fun j hj => ⟨(ht j hj).2.1, (ht j hj).2.2⟩), fun v w1 hv => ?_⟩
    rcases hv with ⟨c, h1, ⟨h2, h3, h4⟩, h5⟩ | ⟨s, rd, h1, h2, h3⟩
    · exact absurd (ok_fe h3 h4) z
    · exact ⟨_, _, h1, h3, ⟨_, rfl, rfl, fun z => absurd z (by decide), RLaw_eq h rfl rfl rfl rfl rfl rfl rfl rfl rfl rfl rfl rfl rfl rfl rfl rfl rfl rfl rfl rfl rfl rfl rfl⟩⟩
theorem op_cellCount {g : G0} (hG : Gd g) {S : SS} (h : RLaw S) : opB g mX9_cellCount mX10_cellCount S := by
  obtain ⟨⟨N, fc, w, r, t, hR⟩, ⟨p, q, hp, hq, e3, e4, e5, e6⟩, hr, hs, hf, ht, hm⟩ := id h
  have hN := hR.1.1
  have f0 := hR.1.2.2.1.1
  have g0 := hR.1.2.2.1.2
  refine cM_v (c_X9_cellCount hG S) ⟨_, rfl, ?_⟩
  exact cM_v (c_X10_cellCount hG _) ⟨congrArg Value.int (g0.trans f0.symm), RLaw_eq h rfl rfl rfl rfl rfl rfl rfl rfl rfl rfl rfl rfl rfl rfl rfl rfl rfl rfl rfl rfl rfl rfl rfl⟩
theorem op_feedCell {g : G0} (hG : Gd g) {S : SS} (h : RLaw S) : opB g mX9_feedCell mX10_feedCell S := by
  obtain ⟨⟨N, fc, w, r, t, hR⟩, ⟨p, q, hp, hq, e3, e4, e5, e6⟩, hr, hs, hf, ht, hm⟩ := id h
  have hN := hR.1.1
  have f0 := hR.1.2.2.1.1
  have g0 := hR.1.2.2.1.2
  refine cM_v (c_X9_feedCell hG S) ⟨_, rfl, ?_⟩
  exact cM_v (c_X10_feedCell hG _) ⟨congrArg Value.int (hR.1.2.2.2.1.2.trans hR.1.2.2.2.1.1.symm), RLaw_eq h rfl rfl rfl rfl rfl rfl rfl rfl rfl rfl rfl rfl rfl rfl rfl rfl rfl rfl rfl rfl rfl rfl rfl⟩
theorem op_feedAmount {g : G0} (hG : Gd g) {S : SS} (h : RLaw S) (a : Int32) : opA g mL_feedAmount mX10_feedAmount endI [.int a] S := by
  obtain ⟨⟨N, fc, w, r, t, hR⟩, ⟨p, q, hp, hq, e3, e4, e5, e6⟩, hr, hs, hf, ht, hm⟩ := id h
  have hN := hR.1.1
  have f0 := hR.1.2.2.1.1
  have g0 := hR.1.2.2.1.2
  by_cases z : a = 0 ∨ a = 1
  · obtain ⟨d, hd, rfl⟩ := ar_b z
    refine cW_v (k_L_feedAmount hG S _ _ _ (c_X9_feedAmount hG S d hd)) ⟨0, rfl, ?_⟩
    exact cM_v (c_X10_feedAmount hG _ d hd) ⟨_, rfl, rfl, fun _ => congrArg Int32.toInt64 (hR.1.eqf hd), RLaw_eq h rfl rfl rfl rfl rfl rfl rfl rfl rfl rfl rfl rfl rfl rfl rfl rfl rfl rfl rfl rfl rfl rfl rfl⟩
  · refine cW_v (k_L_feedAmount_EIO hG S _ _ (c_X9_feedAmount_x hG S a z)) ⟨1, rfl, ?_⟩
    exact cM_v (c_X10_feedAmount_x hG _ a z) ⟨_, rfl, rfl, fun z => absurd z (by decide), RLaw_eq h rfl rfl rfl rfl rfl rfl rfl rfl rfl rfl rfl rfl rfl rfl rfl rfl rfl rfl rfl rfl rfl rfl rfl⟩
theorem op_amount {g : G0} (hG : Gd g) {S : SS} (h : RLaw S) (a b : Int32) : opA g mL_amount mX10_amount endI [.int a, .int b] S := by
  obtain ⟨⟨N, fc, w, r, t, hR⟩, ⟨p, q, hp, hq, e3, e4, e5, e6⟩, hr, hs, hf, ht, hm⟩ := id h
  have hN := hR.1.1
  have f0 := hR.1.2.2.1.1
  have g0 := hR.1.2.2.1.2
  by_cases z : (a = 8 ∨ a = 9) ∧ (b = 0 ∨ b = 1)
  · obtain ⟨d, hd, rfl⟩ := ar_b z.2
    obtain ⟨c, hc, rfl⟩ : ∃ c, (c = 8 ∨ c = 9) ∧ a = nI c := by
      rcases z.1 with y | y
      · exact ⟨8, Or.inl rfl, by rw [y]; rfl⟩
      · exact ⟨9, Or.inr rfl, by rw [y]; rfl⟩
    refine cW_v (k_L_amount hG S _ _ _ _ (c_X9_amount hG S c d hc hd)) ⟨0, rfl, ?_⟩
    exact cM_v (c_X10_amount hG _ c d hc hd) ⟨_, rfl, rfl, fun _ => congrArg Int32.toInt64 (hR.eqa hc hd), RLaw_eq h rfl rfl rfl rfl rfl rfl rfl rfl rfl rfl rfl rfl rfl rfl rfl rfl rfl rfl rfl rfl rfl rfl rfl⟩
  · refine cW_v (k_L_amount_EIO hG S _ _ _ (c_X9_amount_x hG S a b z)) ⟨1, rfl, ?_⟩
    exact cM_v (c_X10_amount_x hG _ a b z) ⟨_, rfl, rfl, fun z => absurd z (by decide), RLaw_eq h rfl rfl rfl rfl rfl rfl rfl rfl rfl rfl rfl rfl rfl rfl rfl rfl rfl rfl rfl rfl rfl rfl rfl⟩
theorem op_addCell {g : G0} (hG : Gd g) {S : SS} (h : RLaw S) (a b x y : Int32) : opA g mL_addCell mX10_addCell endI [.int a, .int b, .int x, .int y] S := by
  obtain ⟨⟨N, fc, w, r, t, hR⟩, ⟨p, q, hp, hq, e3, e4, e5, e6⟩, hr, hs, hf, ht, hm⟩ := id h
  have hN := hR.1.1
  have f0 := hR.1.2.2.1.1
  have g0 := hR.1.2.2.1.2
  by_cases z : (0 ≤ a ∧ a ≤ 100) ∧ (0 ≤ b ∧ b ≤ 100) ∧ ((x = 8 ∨ x = 9) ∨ (0 ≤ x ∧ x < 6)) ∧ ((y = 8 ∨ y = 9) ∨ (0 ≤ y ∧ y < 6))
  · obtain ⟨a1, h1, rfl⟩ := ar_r (m := 100) rfl z.1
    obtain ⟨b1, h2, rfl⟩ := ar_r (m := 100) rfl z.2.1
    obtain ⟨x1, h3, rfl⟩ := ar_d z.2.2.1
    obtain ⟨y1, h4, rfl⟩ := ar_d z.2.2.2
    by_cases z2 : N < 6
    · refine cW_v (k_L_addCell hG S _ _ _ _ _ _ (c_X9_addCell hG S a1 b1 x1 y1 N p q f0 hN e3 hp e5 hq h1 h2 h3 h4 z2)) ⟨0, rfl, ?_⟩
      exact cM_v (c_X10_addCell hG _ a1 b1 x1 y1 N p q g0 hN e4 hp e6 hq h1 h2 h3 h4 z2) ⟨_, rfl, rfl, fun _ => rfl, RLaw_act h hp hq ⟨_, _, _, _, _, hR.push z2 h1 h2 h3 h4⟩ rfl rfl rfl rfl rfl rfl rfl rfl rfl rfl rfl rfl rfl rfl rfl rfl rfl rfl rfl rfl rfl rfl rfl⟩
    · have n6 : N = 6 := by omega
      refine cW_v (k_L_addCell_EIS hG S _ _ _ _ _ (c_X9_addCell_x2 hG S a1 b1 x1 y1 (by rw [f0, n6]) h1 h2 h3 h4)) ⟨2, rfl, ?_⟩
      exact cM_v (c_X10_addCell_x2 hG _ a1 b1 x1 y1 (by rw [g0, n6]) h1 h2 h3 h4) ⟨_, rfl, rfl, fun z => absurd z (by decide), RLaw_eq h rfl rfl rfl rfl rfl rfl rfl rfl rfl rfl rfl rfl rfl rfl rfl rfl rfl rfl rfl rfl rfl rfl rfl⟩
  · refine cW_v (k_L_addCell_EIA hG S _ _ _ _ _ (c_X9_addCell_x1 hG S a b x y z)) ⟨1, rfl, ?_⟩
    exact cM_v (c_X10_addCell_x1 hG _ a b x y z) ⟨_, rfl, rfl, fun z => absurd z (by decide), RLaw_eq h rfl rfl rfl rfl rfl rfl rfl rfl rfl rfl rfl rfl rfl rfl rfl rfl rfl rfl rfl rfl rfl rfl rfl⟩
theorem op_removeLastCell {g : G0} (hG : Gd g) {S : SS} (h : RLaw S) : opA g mL_removeLastCell mX10_removeLastCell endI [] S := by
  obtain ⟨⟨N, fc, w, r, t, hR⟩, ⟨p, q, hp, hq, e3, e4, e5, e6⟩, hr, hs, hf, ht, hm⟩ := id h
  have hN := hR.1.1
  have f0 := hR.1.2.2.1.1
  have g0 := hR.1.2.2.1.2
  by_cases z : 0 < N
  · refine cW_v (k_L_removeLastCell hG S _ _ (c_X9_removeLastCell hG S N p q f0 hN e3 hp e5 hq z)) ⟨0, rfl, ?_⟩
    exact cM_v (c_X10_removeLastCell hG _ N p q g0 hN e4 hp e6 hq z) ⟨_, rfl, rfl, fun _ => rfl, RLaw_act h hp hq ⟨_, _, _, _, _, hR.pop z⟩ rfl rfl rfl rfl rfl rfl rfl rfl rfl rfl rfl rfl rfl rfl rfl rfl rfl rfl rfl rfl rfl rfl rfl⟩
  · have n0 : N = 0 := by omega
    refine cW_v (k_L_removeLastCell_EIS hG S _ (c_X9_removeLastCell_x hG S (by rw [f0, n0]))) ⟨1, rfl, ?_⟩
    exact cM_v (c_X10_removeLastCell_x hG _ (by rw [g0, n0])) ⟨_, rfl, rfl, fun z => absurd z (by decide), RLaw_eq h rfl rfl rfl rfl rfl rfl rfl rfl rfl rfl rfl rfl rfl rfl rfl rfl rfl rfl rfl rfl rfl rfl rfl⟩
theorem op_setFeed {g : G0} (hG : Gd g) {S : SS} (h : RLaw S) (a b x : Int32) : opA g mL_setFeed mX10_setFeed endI [.int a, .int b, .int x] S := by
  obtain ⟨⟨N, fc, w, r, t, hR⟩, ⟨p, q, hp, hq, e3, e4, e5, e6⟩, hr, hs, hf, ht, hm⟩ := id h
  have hN := hR.1.1
  have f0 := hR.1.2.2.1.1
  have g0 := hR.1.2.2.1.2
  by_cases z : (0 ≤ a ∧ a ≤ 5) ∧ (0 ≤ b ∧ b ≤ 999) ∧ (0 ≤ x ∧ x ≤ 999)
  · obtain ⟨a1, h1, rfl⟩ := ar_r (m := 5) rfl z.1
    obtain ⟨b1, h2, rfl⟩ := ar_r (m := 999) rfl z.2.1
    obtain ⟨x1, h3, rfl⟩ := ar_r (m := 999) rfl z.2.2
    refine cW_v (k_L_setFeed hG S _ _ _ _ _ (c_X9_setFeed hG S a1 b1 x1 N p q f0 hN e3 hp e5 hq h1 h2 h3)) ⟨0, rfl, ?_⟩
    exact cM_v (c_X10_setFeed hG _ a1 b1 x1 N p q g0 hN e4 hp e6 hq h1 h2 h3) ⟨_, rfl, rfl, fun _ => congrArg Int32.toInt64 (hR.1.2.2.2.1.1.trans hR.1.2.2.2.1.2.symm), RLaw_act h hp hq ⟨_, _, _, _, _, hR.feed h1 h2 h3⟩ rfl rfl rfl rfl rfl rfl rfl rfl rfl rfl rfl rfl rfl rfl rfl rfl rfl rfl rfl rfl rfl rfl rfl⟩
  · refine cW_v (k_L_setFeed_EIA hG S _ _ _ _ (c_X9_setFeed_x hG S a b x z)) ⟨1, rfl, ?_⟩
    exact cM_v (c_X10_setFeed_x hG _ a b x z) ⟨_, rfl, rfl, fun z => absurd z (by decide), RLaw_eq h rfl rfl rfl rfl rfl rfl rfl rfl rfl rfl rfl rfl rfl rfl rfl rfl rfl rfl rfl rfl rfl rfl rfl⟩
theorem op_drain {g : G0} (hG : Gd g) {S : SS} (h : RLaw S) : opB g mX9_drain mX10_drain S := by
  obtain ⟨⟨N, fc, w, r, t, hR⟩, ⟨p, q, hp, hq, e3, e4, e5, e6⟩, hr, hs, hf, ht, hm⟩ := id h
  have hN := hR.1.1
  have f0 := hR.1.2.2.1.1
  have g0 := hR.1.2.2.1.2
  refine cM_v (c_X9_drain hG S N p q f0 hN e3 hp e5 hq) ⟨_, rfl, ?_⟩
  exact cM_v (c_X10_drain hG _ N p q g0 hN e4 hp e6 hq) ⟨congrArg Value.int hR.drain.2.symm, RLaw_act h hp hq ⟨_, _, _, _, _, hR.drain.1⟩ rfl rfl rfl rfl rfl rfl rfl rfl rfl rfl rfl rfl rfl rfl rfl rfl rfl rfl rfl rfl rfl rfl rfl⟩
theorem op_undo {g : G0} (hG : Gd g) {S : SS} (h : RLaw S) : opA g mL_undo mX10_undo endI [] S := by
  obtain ⟨⟨N, fc, w, r, t, hR⟩, ⟨p, q, hp, hq, e3, e4, e5, e6⟩, hr, hs, hf, ht, hm⟩ := id h
  have hN := hR.1.1
  have f0 := hR.1.2.2.1.1
  have g0 := hR.1.2.2.1.2
  by_cases z : 0 < q
  · refine cW_v (k_L_undo hG S _ _ (c_X9_undo hG S p q e3 hp e5 z hq)) ⟨0, rfl, ?_⟩
    refine cM_v (c_X10_undo hG _ p q e4 hp e6 z hq) ⟨_, rfl, rfl, fun _ => rfl, ⟨?_, ⟨(p + 13) % 14, q - 1, by omega, by omega, rfl, rfl, rfl, rfl⟩, hr, hs, hf, ht, hm⟩⟩
    exact hr.get (by omega)
  · have q0 : q = 0 := by omega
    refine cW_v (k_L_undo_EIS hG S _ (c_X9_undo_x hG S (by rw [e5, q0]))) ⟨1, rfl, ?_⟩
    exact cM_v (c_X10_undo_x hG _ (by rw [← q0]; exact e6)) ⟨_, rfl, rfl, fun z => absurd z (by decide), RLaw_eq h rfl rfl rfl rfl rfl rfl rfl rfl rfl rfl rfl rfl rfl rfl rfl rfl rfl rfl rfl rfl rfl rfl rfl⟩
theorem op_save {g : G0} (hG : Gd g) {S : SS} (h : RLaw S) (a : Int32) : opA g mL_save mX10_save endI [.int a] S := by
  obtain ⟨⟨N, fc, w, r, t, hR⟩, ⟨p, q, hp, hq, e3, e4, e5, e6⟩, hr, hs, hf, ht, hm⟩ := id h
  have hN := hR.1.1
  have f0 := hR.1.2.2.1.1
  have g0 := hR.1.2.2.1.2
  by_cases z : a = 0 ∨ a = 1
  · obtain ⟨d, hd, rfl⟩ := ar_b z
    refine cW_v (k_L_save hG S _ _ _ (c_X9_save hG S d hd)) ⟨0, rfl, ?_⟩
    refine cM_v (c_X10_save hG _ d hd) ⟨_, rfl, rfl, fun _ => congrArg Int32.toInt64 (f0.trans g0.symm), ⟨⟨N, fc, w, r, t, hR⟩, ⟨p, q, hp, hq, e3, e4, e5, e6⟩, hr, ?_, fun s hs2 => ?_, ht, hm⟩⟩
    · exact hs.put ⟨N, fc, w, r, t, hR⟩
    · show upd (z_SF S) d 1 s = upd (z_IK S) d 1 s
      by_cases y : s = d
      · rw [y, upd_self, upd_self]
      · rw [pk_un y, pk_un y]; exact hf s hs2
  · refine cW_v (k_L_save_EIO hG S _ _ (c_X9_save_x hG S a z)) ⟨1, rfl, ?_⟩
    exact cM_v (c_X10_save_x hG _ a z) ⟨_, rfl, rfl, fun z => absurd z (by decide), RLaw_eq h rfl rfl rfl rfl rfl rfl rfl rfl rfl rfl rfl rfl rfl rfl rfl rfl rfl rfl rfl rfl rfl rfl rfl⟩
theorem op_restore {g : G0} (hG : Gd g) {S : SS} (h : RLaw S) (a : Int32) : opA g mL_restore mX10_restore endI [.int a] S := by
  obtain ⟨⟨N, fc, w, r, t, hR⟩, ⟨p, q, hp, hq, e3, e4, e5, e6⟩, hr, hs, hf, ht, hm⟩ := id h
  have hN := hR.1.1
  have f0 := hR.1.2.2.1.1
  have g0 := hR.1.2.2.1.2
  by_cases z : a = 0 ∨ a = 1
  · obtain ⟨d, hd, rfl⟩ := ar_b z
    by_cases z2 : z_SF S d = 0
    · refine cW_v (k_L_restore_EIS hG S _ _ (c_X9_restore_x2 hG S d hd z2)) ⟨2, rfl, ?_⟩
      exact cM_v (c_X10_restore_x2 hG _ d hd ((hf d hd).symm.trans z2)) ⟨_, rfl, rfl, fun z => absurd z (by decide), RLaw_eq h rfl rfl rfl rfl rfl rfl rfl rfl rfl rfl rfl rfl rfl rfl rfl rfl rfl rfl rfl rfl rfl rfl rfl⟩
    · refine cW_v (k_L_restore hG S _ _ _ (c_X9_restore hG S d hd z2)) ⟨0, rfl, ?_⟩
      have hx2 : RX (va_cpy (z_SL S) (z_SV S) (d * 44) 0 44) (va_cpy (z_KE S) (z_NW S) (d * 44) 0 44) := hs.get hd
      refine cM_v (c_X10_restore hG _ d hd (fun y => z2 ((hf d hd).trans y))) ⟨_, rfl, rfl, fun _ => ?_, ⟨hx2, ⟨p, 0, hp, by omega, e3, e4, nI_0.symm, nI_0.symm⟩, hr, hs, hf, ht, hm⟩⟩
      obtain ⟨N2, fc2, w2, r2, t2, hR2⟩ := hx2
      exact congrArg Int32.toInt64 (hR2.1.2.2.1.1.trans hR2.1.2.2.1.2.symm)
  · refine cW_v (k_L_restore_EIO hG S _ _ (c_X9_restore_x1 hG S a z)) ⟨1, rfl, ?_⟩
    exact cM_v (c_X10_restore_x1 hG _ a z) ⟨_, rfl, rfl, fun z => absurd z (by decide), RLaw_eq h rfl rfl rfl rfl rfl rfl rfl rfl rfl rfl rfl rfl rfl rfl rfl rfl rfl rfl rfl rfl rfl rfl rfl⟩
theorem op_measure {g : G0} (hG : Gd g) {S : SS} (h : RLaw S) (a b : Int32) : opA g mL_measure mX10_measure endI [.int a, .int b] S := by
  obtain ⟨hx, hh, hr, hs, hf, ht, ⟨p, q, e1, e2, e3, hM⟩⟩ := id h
  by_cases z : (0 ≤ a ∧ a ≤ 1) ∧ (0 ≤ b ∧ b ≤ 1000)
  · obtain ⟨k, hk, rfl⟩ := ar_r (m := 1) rfl z.1
    obtain ⟨v, hv, rfl⟩ := ar_r (m := 1000) rfl z.2
    refine cW_v (k_L_measure hG S _ _ _ _ (c_X9_measure hG S k v p q e1 hM.1 e2 hM.2.1 hk hv)) ⟨0, rfl, ?_⟩
    by_cases y : q < 5
    · have hq5 : min (q + 1) 5 = q + 1 := by omega
      refine cM_v (c_X10_measure hG _ k v q e3 y hk hv) ⟨_, rfl, rfl, fun _ => ?_, ⟨hx, hh, hr, hs, hf, ht, ⟨(p + 1) % 5, q + 1, rfl, ?_, rfl, hM.add y (nI k) (nI v)⟩⟩⟩
      · exact congrArg (fun x => (nI x).toInt64) hq5
      · exact congrArg nI hq5
    · have h5 : q = 5 := by have := hM.2.1; omega
      subst h5
      exact cM_v (c_X10_measure_5 hG _ k v e3 hk hv) ⟨_, rfl, rfl, fun _ => rfl, ⟨hx, hh, hr, hs, hf, ht, ⟨(p + 1) % 5, 5, rfl, rfl, rfl, hM.add5 (nI k) (nI v)⟩⟩⟩
  · refine cW_v (k_L_measure_EIA hG S _ _ _ (c_X9_measure_x hG S a b z)) ⟨1, rfl, ?_⟩
    exact cM_v (c_X10_measure_x hG _ a b (fun y => z ⟨ar_01.mpr y.1, y.2⟩)) ⟨_, rfl, rfl, fun z => absurd z (by decide), RLaw_eq h rfl rfl rfl rfl rfl rfl rfl rfl rfl rfl rfl rfl rfl rfl rfl rfl rfl rfl rfl rfl rfl rfl rfl⟩
theorem op_setRecovery {g : G0} (hG : Gd g) {S : SS} (h : RLaw S) (a b x : Int32) : opA g mL_setRecovery mX10_setRecovery endI [.int a, .int b, .int x] S := by
  obtain ⟨⟨N, fc, w, r, t, hR⟩, ⟨p, q, hp, hq, e3, e4, e5, e6⟩, hr, hs, hf, ht, hm⟩ := id h
  have hN := hR.1.1
  have f0 := hR.1.2.2.1.1
  have g0 := hR.1.2.2.1.2
  by_cases z : (0 ≤ a ∧ a < z_SV S 0) ∧ (b = 0 ∨ b = 1)
  · obtain ⟨c, hc, rfl⟩ := ar_c hN (f0 ▸ z.1)
    obtain ⟨d, hd, rfl⟩ := ar_b z.2
    by_cases z2 : 0 ≤ x ∧ x ≤ 100
    · obtain ⟨x1, h1, rfl⟩ := ar_r (m := 100) rfl z2
      refine cW_v (k_L_setRecovery hG S _ _ _ _ _ (c_X9_setRecovery hG S c d x1 N p q f0 hN e3 hp e5 hq hc hd h1)) ⟨0, rfl, ?_⟩
      have hR2 := hR.setr (k := 2 * c + d) (x := x1) (by omega) h1
      rw [← Nat.add_assoc, ← Nat.add_assoc] at hR2
      exact cM_v (c_X10_setRecovery hG _ c d x1 N p q g0 hN e4 hp e6 hq hc hd h1) ⟨_, rfl, rfl, fun _ => congrArg Int32.toInt64 (hR.1.eqr hc hd), RLaw_act h hp hq ⟨_, _, _, _, _, hR2⟩ rfl rfl rfl rfl rfl rfl rfl rfl rfl rfl rfl rfl rfl rfl rfl rfl rfl rfl rfl rfl rfl rfl rfl⟩
    · refine cW_v (k_L_setRecovery_EIA hG S _ _ _ _ (c_X9_setRecovery_x2 hG S c d x N f0 hN hc hd z2)) ⟨2, rfl, ?_⟩
      exact cM_v (c_X10_setRecovery_x2 hG _ c d x N g0 hN hc hd z2) ⟨_, rfl, rfl, fun z => absurd z (by decide), RLaw_eq h rfl rfl rfl rfl rfl rfl rfl rfl rfl rfl rfl rfl rfl rfl rfl rfl rfl rfl rfl rfl rfl rfl rfl⟩
  · refine cW_v (k_L_setRecovery_EIO hG S _ _ _ _ (c_X9_setRecovery_x1 hG S a b x z)) ⟨1, rfl, ?_⟩
    exact cM_v (c_X10_setRecovery_x1 hG _ a b x N g0 hN (by rw [show z_NW S 0 = nI N from g0, ← f0]; exact z)) ⟨_, rfl, rfl, fun z => absurd z (by decide), RLaw_eq h rfl rfl rfl rfl rfl rfl rfl rfl rfl rfl rfl rfl rfl rfl rfl rfl rfl rfl rfl rfl rfl rfl rfl⟩
theorem op_setDestination {g : G0} (hG : Gd g) {S : SS} (h : RLaw S) (a b x : Int32) : opA g mL_setDestination mX10_setDestination endI [.int a, .int b, .int x] S := by
  obtain ⟨⟨N, fc, w, r, t, hR⟩, ⟨p, q, hp, hq, e3, e4, e5, e6⟩, hr, hs, hf, ht, hm⟩ := id h
  have hN := hR.1.1
  have f0 := hR.1.2.2.1.1
  have g0 := hR.1.2.2.1.2
  by_cases z : (0 ≤ a ∧ a < z_SV S 0) ∧ (b = 0 ∨ b = 1)
  · obtain ⟨c, hc, rfl⟩ := ar_c hN (f0 ▸ z.1)
    obtain ⟨d, hd, rfl⟩ := ar_b z.2
    by_cases z2 : (x = 8 ∨ x = 9) ∨ (0 ≤ x ∧ x < 6)
    · obtain ⟨x1, h1, rfl⟩ := ar_d z2
      refine cW_v (k_L_setDestination hG S _ _ _ _ _ (c_X9_setDestination hG S c d x1 N p q f0 hN e3 hp e5 hq hc hd h1)) ⟨0, rfl, ?_⟩
      have hR2 := hR.sett (k := 2 * c + d) (x := x1) (by omega) h1
      rw [← Nat.add_assoc, ← Nat.add_assoc] at hR2
      exact cM_v (c_X10_setDestination hG _ c d x1 N p q g0 hN e4 hp e6 hq hc hd h1) ⟨_, rfl, rfl, fun _ => congrArg Int32.toInt64 (hR.1.eqt hc hd), RLaw_act h hp hq ⟨_, _, _, _, _, hR2⟩ rfl rfl rfl rfl rfl rfl rfl rfl rfl rfl rfl rfl rfl rfl rfl rfl rfl rfl rfl rfl rfl rfl rfl⟩
    · refine cW_v (k_L_setDestination_EIA hG S _ _ _ _ (c_X9_setDestination_x2 hG S c d x N f0 hN hc hd z2)) ⟨2, rfl, ?_⟩
      exact cM_v (c_X10_setDestination_x2 hG _ c d x N g0 hN hc hd z2) ⟨_, rfl, rfl, fun z => absurd z (by decide), RLaw_eq h rfl rfl rfl rfl rfl rfl rfl rfl rfl rfl rfl rfl rfl rfl rfl rfl rfl rfl rfl rfl rfl rfl rfl⟩
  · refine cW_v (k_L_setDestination_EIO hG S _ _ _ _ (c_X9_setDestination_x1 hG S a b x z)) ⟨1, rfl, ?_⟩
    exact cM_v (c_X10_setDestination_x1 hG _ a b x N g0 hN (by rw [show z_NW S 0 = nI N from g0, ← f0]; exact z)) ⟨_, rfl, rfl, fun z => absurd z (by decide), RLaw_eq h rfl rfl rfl rfl rfl rfl rfl rfl rfl rfl rfl rfl rfl rfl rfl rfl rfl rfl rfl rfl rfl rfl rfl⟩
