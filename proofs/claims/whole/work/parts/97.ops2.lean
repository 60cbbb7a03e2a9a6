theorem co_all {S S2 : SS} (e : co S2 = co S) : z_TL S2 = z_TL S ∧ z_TX S2 = z_TX S ∧ z_SV S2 = z_SV S ∧ z_HN S2 = z_HN S ∧ z_HK S2 = z_HK S ∧ z_HR S2 = z_HR S ∧ z_SL S2 = z_SL S ∧ z_SF S2 = z_SF S ∧ z_QN S2 = z_QN S ∧ z_QS S2 = z_QS S ∧ z_QK S2 = z_QK S ∧ z_QV S2 = z_QV S ∧ z_RF S2 = z_RF S ∧ z_AC S2 = z_AC S ∧ z_NX S2 = z_NX S ∧ z_SS S2 = z_SS S ∧ z_SP S2 = z_SP S ∧ z_ME S2 = z_ME S ∧ z_UP S2 = z_UP S ∧ z_LO S2 = z_LO S ∧ z_NW S2 = z_NW S ∧ z_TR S2 = z_TR S ∧ z_AF S2 = z_AF S ∧ z_DI S2 = z_DI S ∧ z_KE S2 = z_KE S ∧ z_IK S2 = z_IK S ∧ z_SC S2 = z_SC S ∧ z_RD S2 = z_RD S ∧ z_MW S2 = z_MW S ∧ z_MS S2 = z_MS S ∧ z_MX S2 = z_MX S ∧ z_RT S2 = z_RT S ∧ z_MO S2 = z_MO S ∧ z_OU S2 = z_OU S := by
  simp only [co, Prod.mk.injEq] at e
  exact e
theorem cm_all {S S2 : SS} (e : cm S2 = cm S) : z_TL S2 = z_TL S ∧ z_TX S2 = z_TX S ∧ z_SV S2 = z_SV S ∧ z_TV S2 = z_TV S ∧ z_HN S2 = z_HN S ∧ z_HK S2 = z_HK S ∧ z_HR S2 = z_HR S ∧ z_SL S2 = z_SL S ∧ z_SF S2 = z_SF S ∧ z_AR S2 = z_AR S ∧ z_BN S2 = z_BN S ∧ z_BD S2 = z_BD S ∧ z_EQ S2 = z_EQ S ∧ z_MI S2 = z_MI S ∧ z_RE S2 = z_RE S ∧ z_QN S2 = z_QN S ∧ z_QS S2 = z_QS S ∧ z_QK S2 = z_QK S ∧ z_QV S2 = z_QV S ∧ z_A0 S2 = z_A0 S ∧ z_A1 S2 = z_A1 S ∧ z_A2 S2 = z_A2 S ∧ z_A3 S2 = z_A3 S ∧ z_B0 S2 = z_B0 S ∧ z_B1 S2 = z_B1 S ∧ z_B2 S2 = z_B2 S ∧ z_B3 S2 = z_B3 S ∧ z_C0 S2 = z_C0 S ∧ z_C1 S2 = z_C1 S ∧ z_C2 S2 = z_C2 S ∧ z_C3 S2 = z_C3 S ∧ z_RF S2 = z_RF S ∧ z_AC S2 = z_AC S ∧ z_NX S2 = z_NX S ∧ z_SS S2 = z_SS S ∧ z_ME S2 = z_ME S ∧ z_NW S2 = z_NW S ∧ z_DI S2 = z_DI S ∧ z_KE S2 = z_KE S ∧ z_IK S2 = z_IK S ∧ z_SC S2 = z_SC S ∧ z_MW S2 = z_MW S ∧ z_MS S2 = z_MS S ∧ z_OU S2 = z_OU S := by
  simp only [cm, Prod.mk.injEq] at e
  exact e
theorem op_step {g : G0} (hG : Gd g) {S : SS} (h : RLaw S) (a : Int32) : opA g mL_step mX10_step endI [.int a] S := by
  obtain ⟨⟨N, fc, w, r, t, hR⟩, ⟨p, q, hp, hq, e3, e4, e5, e6⟩, hr, hs, hf, ht, hm⟩ := id h
  have hN := hR.1.1
  have f0 := hR.1.2.2.1.1
  have g0 := hR.1.2.2.1.2
  by_cases z : 1 ≤ a ∧ a ≤ 100
  · obtain ⟨k, hk, rfl⟩ := ar_r (m := 100) rfl ⟨Int32.le_trans (by decide) z.1, z.2⟩
    have hk1 : 1 ≤ k := (nI_leI (a := 1) (by omega) (by omega)).mp z.1
    refine cW_g (k_L_step_g hG S _ _ _ (c_X9_step hG S k N p q _ _ f0 hN e3 hp e5 hq hk1 hk hR.1.tgts)) (fun S2 hS2 => ⟨0, rfl, ?_⟩)
    obtain ⟨kTL, kTX, kSV, kHN, kHK, kHR, kSL, kSF, kQN, kQS, kQK, kQV, kRF, kAC, kNX, kSS, kSP, kME, kUP, kLO, kNW, kTR, kAF, kDI, kKE, kIK, kSC, kRD, kMW, kMS, kMX, kRT, kMO, kOU⟩ := co_all hS2
    have hR2 : RR (z_SV S) (z_NW S2) N fc w r t := by rw [show z_NW S2 = z_NW S from kNW]; exact hR
    refine cM_g (c_X10_step hG _ k N p q _ _ hR2.1.2.2.1.2 hN (kNX.trans e4) hp (kAC.trans e6) hq hk1 hk hR2.1.tgtM) (fun S3 hS3 => ?_)
    obtain ⟨cTL, cTX, cSV, cTV, cHN, cHK, cHR, cSL, cSF, cAR, cBN, cBD, cEQ, cMI, cRE, cQN, cQS, cQK, cQV, cA0, cA1, cA2, cA3, cB0, cB1, cB2, cB3, cC0, cC1, cC2, cC3, cRF, cAC, cNX, cSS, cME, cNW, cDI, cKE, cIK, cSC, cMW, cMS, cOU⟩ := cm_all hS3
    refine ⟨_, rfl, cRF, fun _ => ?_, RLaw_act h hp hq ⟨_, _, _, _, _, hR2.it k⟩ (cSV.trans kSV) cNW (cHN.trans kHN) cNX (cHK.trans kHK) cAC (cHR.trans kHR) ?_ (cSL.trans kSL) (cKE.trans kKE) (cSF.trans kSF) (cIK.trans kIK) (cTL.trans kTL) (cSS.trans kSS) (cTX.trans kTX) (cSC.trans kSC) (cQN.trans kQN) (cQS.trans kQS) (cME.trans kME) (cQK.trans kQK) (cQV.trans kQV) (cMW.trans kMW) (cMS.trans kMS)⟩
    · rw [cOU]
      exact congrArg Int32.toInt64 (hR2.it k).am
    · refine cDI.trans ?_
      show va_cpy (z_NW S2) (z_DI S2) 0 (p * 44) 44 = va_cpy (z_NW S) (z_DI S) 0 (p * 44) 44
      rw [show z_NW S2 = z_NW S from kNW, show z_DI S2 = z_DI S from kDI]
  · refine cW_v (k_L_step_EIA hG S _ _ (c_X9_step_x hG S a z)) ⟨1, rfl, ?_⟩
    exact cM_v (c_X10_step_x hG _ a z) ⟨_, rfl, rfl, fun z => absurd z (by decide), RLaw_eq h rfl rfl rfl rfl rfl rfl rfl rfl rfl rfl rfl rfl rfl rfl rfl rfl rfl rfl rfl rfl rfl rfl rfl⟩
theorem op_disturb {g : G0} (hG : Gd g) {S : SS} (h : RLaw S) (x : Int64) (a : Int32) : opA g mL_disturb mX10_disturb endI [.long x, .int a] S := by
  obtain ⟨⟨N, fc, w, r, t, hR⟩, ⟨p, q, hp, hq, e3, e4, e5, e6⟩, hr, hs, hf, ht, hm⟩ := id h
  have hN := hR.1.1
  have f0 := hR.1.2.2.1.1
  have g0 := hR.1.2.2.1.2
  by_cases z : 1 ≤ a ∧ a ≤ 100
  · obtain ⟨k, hk, rfl⟩ := ar_r (m := 100) rfl ⟨Int32.le_trans (by decide) z.1, z.2⟩
    have hk1 : 1 ≤ k := (nI_leI (a := 1) (by omega) (by omega)).mp z.1
    refine cW_g (k_L_disturb_g hG S _ _ _ _ (c_X9_disturb hG S x k _ N _ hR.1.tgts hk1 hk)) (fun S2 hS2 => ⟨0, rfl, ?_⟩)
    have h2 := (RLaw_co hS2 h).1
    obtain ⟨kTL, kTX, kSV, kHN, kHK, kHR, kSL, kSF, kQN, kQS, kQK, kQV, kRF, kAC, kNX, kSS, kSP, kME, kUP, kLO, kNW, kTR, kAF, kDI, kKE, kIK, kSC, kRD, kMW, kMS, kMX, kRT, kMO, kOU⟩ := co_all hS2
    have hR2 : RR (z_SV S) (z_NW S2) N fc w r t := by rw [show z_NW S2 = z_NW S from kNW]; exact hR
    refine cM_g (c_X10_disturb hG _ x k _ N _ hR2.1.tgtM hk1 hk) (fun S3 hS3 => ?_)
    obtain ⟨cTL, cTX, cSV, cTV, cHN, cHK, cHR, cSL, cSF, cAR, cBN, cBD, cEQ, cMI, cRE, cQN, cQS, cQK, cQV, cA0, cA1, cA2, cA3, cB0, cB1, cB2, cB3, cC0, cC1, cC2, cC3, cRF, cAC, cNX, cSS, cME, cNW, cDI, cKE, cIK, cSC, cMW, cMS, cOU⟩ := cm_all hS3
    refine ⟨_, rfl, cRF, fun _ => ?_, RLaw_eq h2 cSV cNW cHN cNX cHK cAC cHR cDI cSL cKE cSF cIK cTL cSS cTX cSC cQN cQS cME cQK cQV cMW cMS⟩
    rw [cOU]
    obtain ⟨r', hR3⟩ := RR.di (nx := nxF) (rn := rN) k (z_SV S) (va_cpy (z_NW S2) (z_TR S2) 0 0 44) r x (hR2.congr (fun j _ => rfl) (fun j hj => cpy_at hj))
    exact congrArg Int32.toInt64 hR3.am
  · refine cW_v (k_L_disturb_EIA hG S _ _ _ (c_X9_disturb_x hG S x a z)) ⟨1, rfl, ?_⟩
    exact cM_v (c_X10_disturb_x hG _ x a z) ⟨_, rfl, rfl, fun z => absurd z (by decide), RLaw_eq h rfl rfl rfl rfl rfl rfl rfl rfl rfl rfl rfl rfl rfl rfl rfl rfl rfl rfl rfl rfl rfl rfl rfl⟩
theorem op_hasSteadyState {g : G0} (hG : Gd g) {S : SS} (h : RLaw S) : opB g mX9_hasSteadyState mX10_hasSteadyState S := by
  obtain ⟨⟨N, fc, w, r, t, hR⟩, ⟨p, q, hp, hq, e3, e4, e5, e6⟩, hr, hs, hf, ht, hm⟩ := id h
  have hN := hR.1.1
  have f0 := hR.1.2.2.1.1
  have g0 := hR.1.2.2.1.2
  refine cM_v (c_X9_hasSteadyState hG S _ N _ hR.1.tgts) ⟨_, rfl, ?_⟩
  refine cM_v (c_X10_hasSteadyState hG _ N g0 hN) ⟨congrArg Value.int (pI_iff ?_), RLaw_eq h rfl rfl rfl rfl rfl rfl rfl rfl rfl rfl rfl rfl rfl rfl rfl rfl rfl rfl rfl rfl rfl rfl rfl⟩
  rw [svD_eq hN (by decide) (fun _ _ => rfl), svD_eq hN (by decide) (fun _ _ => rfl), hR.1.pos (by decide), hR.1.pos (by decide)]
  exact Iff.rfl
theorem sv_pos {S : SS} {f g : Nat → Int32} {N fc : Nat} {w r t : Nat → Nat} (h : RS f g N fc w r t) {e m : Nat → Int64} {d : Nat} (hd : d < 2) : (0 < svD f d N (fun k => tq N (t k)) e m) ↔ SM g N d := by
  rw [svD_eq h.1 hd (fun _ _ => rfl)]
  exact h.pos hd
theorem op_totalRecovery {g : G0} (hG : Gd g) {S : SS} (h : RLaw S) : opA g mL_totalRecovery mX10_totalRecovery endI [] S := by
  obtain ⟨⟨N, fc, w, r, t, hR⟩, ⟨p, q, hp, hq, e3, e4, e5, e6⟩, hr, hs, hf, ht, hm⟩ := id h
  have hN := hR.1.1
  have f0 := hR.1.2.2.1.1
  have g0 := hR.1.2.2.1.2
  by_cases z : SM (z_NW S) N 0 ∧ SM (z_NW S) N 1
  · refine cW_v (k_L_totalRecovery hG S _ _ (c_X9_totalRecovery hG S _ N _ hR.1.tgts ⟨(sv_pos (S := S) hR.1 (by decide)).mpr z.1, (sv_pos (S := S) hR.1 (by decide)).mpr z.2⟩)) ⟨0, rfl, ?_⟩
    obtain ⟨k1, k2⟩ := hR.1.rec z.1
    refine ⟨_, c_X10_totalRecovery hG _ N g0 hN z k1, fun v w1 hv => ?_⟩
    obtain ⟨h1, mx, rt, mo, u, l, h2⟩ := hv
    refine ⟨_, _, h1, h2, ⟨_, rfl, rfl, fun _ => ?_, RLaw_eq h rfl rfl rfl rfl rfl rfl rfl rfl rfl rfl rfl rfl rfl rfl rfl rfl rfl rfl rfl rfl rfl rfl rfl⟩⟩
    refine congrArg Int32.toInt64 (Eq.trans ?_ k2)
    rw [svN_eq hN (by decide) (fun _ _ => rfl), svD_eq hN (by decide) (fun _ _ => rfl)]
  · refine cW_v (k_L_totalRecovery_EIS hG S _ (c_X9_totalRecovery_x hG S _ N _ hR.1.tgts (fun y => z ⟨(sv_pos (S := S) hR.1 (by decide)).mp y.1, (sv_pos (S := S) hR.1 (by decide)).mp y.2⟩))) ⟨1, rfl, ?_⟩
    exact cM_v (c_X10_totalRecovery_x hG _ N g0 hN z) ⟨_, rfl, rfl, fun z => absurd z (by decide), RLaw_eq h rfl rfl rfl rfl rfl rfl rfl rfl rfl rfl rfl rfl rfl rfl rfl rfl rfl rfl rfl rfl rfl rfl rfl⟩
theorem op_grade {g : G0} (hG : Gd g) {S : SS} (h : RLaw S) : opA g mL_grade mX10_grade endI [] S := by
  obtain ⟨⟨N, fc, w, r, t, hR⟩, ⟨p, q, hp, hq, e3, e4, e5, e6⟩, hr, hs, hf, ht, hm⟩ := id h
  have hN := hR.1.1
  have f0 := hR.1.2.2.1.1
  have g0 := hR.1.2.2.1.2
  by_cases z : SM (z_NW S) N 0 ∧ SM (z_NW S) N 1
  · refine cW_v (k_L_grade hG S _ _ (c_X9_grade hG S _ N _ hR.1.tgts ⟨(sv_pos (S := S) hR.1 (by decide)).mpr z.1, (sv_pos (S := S) hR.1 (by decide)).mpr z.2⟩)) ⟨0, rfl, ?_⟩
    obtain ⟨k1, k2⟩ := hR.1.gra z.1 z.2
    refine ⟨_, c_X10_grade hG _ N g0 hN z k1, fun v w1 hv => ?_⟩
    obtain ⟨h1, mx, rt, mo, u, l, h2⟩ := hv
    refine ⟨_, _, h1, h2, ⟨_, rfl, rfl, fun _ => ?_, RLaw_eq h rfl rfl rfl rfl rfl rfl rfl rfl rfl rfl rfl rfl rfl rfl rfl rfl rfl rfl rfl rfl rfl rfl rfl⟩⟩
    refine congrArg Int32.toInt64 (Eq.trans ?_ k2)
    rw [svN_eq hN (by decide) (fun _ _ => rfl), svN_eq hN (by decide) (fun _ _ => rfl), svD_eq hN (by decide) (fun _ _ => rfl), svD_eq hN (by decide) (fun _ _ => rfl)]
  · refine cW_v (k_L_grade_EIS hG S _ (c_X9_grade_x hG S _ N _ hR.1.tgts (fun y => z ⟨(sv_pos (S := S) hR.1 (by decide)).mp y.1, (sv_pos (S := S) hR.1 (by decide)).mp y.2⟩))) ⟨1, rfl, ?_⟩
    exact cM_v (c_X10_grade_x hG _ N g0 hN z) ⟨_, rfl, rfl, fun z => absurd z (by decide), RLaw_eq h rfl rfl rfl rfl rfl rfl rfl rfl rfl rfl rfl rfl rfl rfl rfl rfl rfl rfl rfl rfl rfl rfl rfl⟩
theorem ar_cp {x : Int32} {N : Nat} (hN : N ≤ 6) (h : (0 ≤ x ∧ x < nI N) ∨ (x = 8 ∨ x = 9)) : ∃ c, (c < N ∨ c = 8 ∨ c = 9) ∧ x = nI c := by
  rcases h with h | h | h
  · obtain ⟨c, hc, e⟩ := ar_c hN h
    exact ⟨c, Or.inl hc, e⟩
  · exact ⟨8, by omega, by rw [h]; rfl⟩
  · exact ⟨9, by omega, by rw [h]; rfl⟩
theorem op_flowNumerator {g : G0} (hG : Gd g) {S : SS} (h : RLaw S) (a b : Int32) : opA g mL_flowNumerator mX10_flowNumerator endJ [.int a, .int b] S := by
  obtain ⟨⟨N, fc, w, r, t, hR⟩, ⟨p, q, hp, hq, e3, e4, e5, e6⟩, hr, hs, hf, ht, hm⟩ := id h
  have hN := hR.1.1
  have f0 := hR.1.2.2.1.1
  have g0 := hR.1.2.2.1.2
  by_cases z : ((0 ≤ a ∧ a < z_SV S 0) ∨ (a = 8 ∨ a = 9)) ∧ (b = 0 ∨ b = 1)
  · obtain ⟨c, hc, rfl⟩ := ar_cp hN (f0 ▸ z.1)
    obtain ⟨d, hd, rfl⟩ := ar_b z.2
    by_cases z2 : SM (z_NW S) N d
    · refine cW_v (k_L_flowNumerator hG S _ _ _ _ (c_X9_flowNumerator hG S c d _ N _ hR.1.tgts hc hd ((sv_pos (S := S) hR.1 hd).mpr z2))) ⟨0, rfl, ?_⟩
      have hfl := hR.1.flow hd hc z2
      refine ⟨_, c_X10_flowNumerator hG _ c d N g0 hN hc hd z2 hfl.1, fun v w1 hv => ?_⟩
      obtain ⟨h1, mx, rt, mo, u, l, h2⟩ := hv
      refine ⟨_, _, h1, h2, ⟨_, rfl, rfl, fun _ => ?_, RLaw_eq h rfl rfl rfl rfl rfl rfl rfl rfl rfl rfl rfl rfl rfl rfl rfl rfl rfl rfl rfl rfl rfl rfl rfl⟩⟩
      refine Eq.trans ?_ hfl.2.1
      show rnF _ _ _ = rnF _ _ _
      rw [svN_eq hN hd (fun _ _ => rfl), svD_eq hN hd (fun _ _ => rfl)]
    · refine cW_v (k_L_flowNumerator_EIS hG S _ _ _ (c_X9_flowNumerator_x2 hG S c d _ N _ hR.1.tgts hc hd (fun y => z2 ((sv_pos (S := S) hR.1 hd).mp y)))) ⟨2, rfl, ?_⟩
      exact cM_v (c_X10_flowNumerator_x2 hG _ c d N g0 hN hc hd z2) ⟨_, rfl, rfl, fun z => absurd z (by decide), RLaw_eq h rfl rfl rfl rfl rfl rfl rfl rfl rfl rfl rfl rfl rfl rfl rfl rfl rfl rfl rfl rfl rfl rfl rfl⟩
  · refine cW_v (k_L_flowNumerator_EIO hG S _ _ _ (c_X9_flowNumerator_x1 hG S a b z)) ⟨1, rfl, ?_⟩
    exact cM_v (c_X10_flowNumerator_x1 hG _ a b N g0 hN (fun y => z (by rw [show z_NW S 0 = nI N from g0, ← f0, ar_89] at y; exact y))) ⟨_, rfl, rfl, fun z => absurd z (by decide), RLaw_eq h rfl rfl rfl rfl rfl rfl rfl rfl rfl rfl rfl rfl rfl rfl rfl rfl rfl rfl rfl rfl rfl rfl rfl⟩
theorem op_flowDenominator {g : G0} (hG : Gd g) {S : SS} (h : RLaw S) (a b : Int32) : opA g mL_flowDenominator mX10_flowDenominator endJ [.int a, .int b] S := by
  obtain ⟨⟨N, fc, w, r, t, hR⟩, ⟨p, q, hp, hq, e3, e4, e5, e6⟩, hr, hs, hf, ht, hm⟩ := id h
  have hN := hR.1.1
  have f0 := hR.1.2.2.1.1
  have g0 := hR.1.2.2.1.2
  by_cases z : ((0 ≤ a ∧ a < z_SV S 0) ∨ (a = 8 ∨ a = 9)) ∧ (b = 0 ∨ b = 1)
  · obtain ⟨c, hc, rfl⟩ := ar_cp hN (f0 ▸ z.1)
    obtain ⟨d, hd, rfl⟩ := ar_b z.2
    by_cases z2 : SM (z_NW S) N d
    · refine cW_v (k_L_flowDenominator hG S _ _ _ _ (c_X9_flowDenominator hG S c d _ N _ hR.1.tgts hc hd ((sv_pos (S := S) hR.1 hd).mpr z2))) ⟨0, rfl, ?_⟩
      have hfl := hR.1.flow hd hc z2
      refine ⟨_, c_X10_flowDenominator hG _ c d N g0 hN hc hd z2 hfl.1, fun v w1 hv => ?_⟩
      obtain ⟨h1, mx, rt, mo, u, l, h2⟩ := hv
      refine ⟨_, _, h1, h2, ⟨_, rfl, rfl, fun _ => ?_, RLaw_eq h rfl rfl rfl rfl rfl rfl rfl rfl rfl rfl rfl rfl rfl rfl rfl rfl rfl rfl rfl rfl rfl rfl rfl⟩⟩
      refine Eq.trans ?_ hfl.2.2
      show rdenF _ _ _ = rdenF _ _ _
      rw [svN_eq hN hd (fun _ _ => rfl), svD_eq hN hd (fun _ _ => rfl)]
    · refine cW_v (k_L_flowDenominator_EIS hG S _ _ _ (c_X9_flowDenominator_x2 hG S c d _ N _ hR.1.tgts hc hd (fun y => z2 ((sv_pos (S := S) hR.1 hd).mp y)))) ⟨2, rfl, ?_⟩
      exact cM_v (c_X10_flowDenominator_x2 hG _ c d N g0 hN hc hd z2) ⟨_, rfl, rfl, fun z => absurd z (by decide), RLaw_eq h rfl rfl rfl rfl rfl rfl rfl rfl rfl rfl rfl rfl rfl rfl rfl rfl rfl rfl rfl rfl rfl rfl rfl⟩
  · refine cW_v (k_L_flowDenominator_EIO hG S _ _ _ (c_X9_flowDenominator_x1 hG S a b z)) ⟨1, rfl, ?_⟩
    exact cM_v (c_X10_flowDenominator_x1 hG _ a b N g0 hN (fun y => z (by rw [show z_NW S 0 = nI N from g0, ← f0, ar_89] at y; exact y))) ⟨_, rfl, rfl, fun z => absurd z (by decide), RLaw_eq h rfl rfl rfl rfl rfl rfl rfl rfl rfl rfl rfl rfl rfl rfl rfl rfl rfl rfl rfl rfl rfl rfl rfl⟩
theorem op_isInLoop {g : G0} (hG : Gd g) {S : SS} (h : RLaw S) (a : Int32) : opA g mL_isInLoop mX10_isInLoop endZ [.int a] S := by
  obtain ⟨⟨N, fc, w, r, t, hR⟩, ⟨p, q, hp, hq, e3, e4, e5, e6⟩, hr, hs, hf, ht, hm⟩ := id h
  have hN := hR.1.1
  have f0 := hR.1.2.2.1.1
  have g0 := hR.1.2.2.1.2
  by_cases z : 0 ≤ a ∧ a < z_SV S 0
  · obtain ⟨c, hc, rfl⟩ := ar_c hN (f0 ▸ z)
    refine cW_v (k_L_isInLoop hG S _ _ _ (c_X9_isInLoop hG S c N f0 hN hc)) ⟨0, rfl, ?_⟩
    refine cM_v (c_X10_isInLoop hG _ c N g0 hN hc) ⟨_, rfl, rfl, fun _ => ?_, RLaw_eq h rfl rfl rfl rfl rfl rfl rfl rfl rfl rfl rfl rfl rfl rfl rfl rfl rfl rfl rfl rfl rfl rfl rfl⟩
    exact congrArg (fun x : Int32 => (if x = 0 then 0 else 1 : Int64)) (pI_iff (hR.1.loops _ hc hc))
  · refine cW_v (k_L_isInLoop_EIO hG S _ _ (c_X9_isInLoop_x hG S a z)) ⟨1, rfl, ?_⟩
    exact cM_v (c_X10_isInLoop_x hG _ a N g0 hN (by rw [show z_NW S 0 = nI N from g0, ← f0]; exact z)) ⟨_, rfl, rfl, fun z => absurd z (by decide), RLaw_eq h rfl rfl rfl rfl rfl rfl rfl rfl rfl rfl rfl rfl rfl rfl rfl rfl rfl rfl rfl rfl rfl rfl rfl⟩
theorem op_loopCount {g : G0} (hG : Gd g) {S : SS} (h : RLaw S) : opB g mX9_loopCount mX10_loopCount S := by
  obtain ⟨⟨N, fc, w, r, t, hR⟩, ⟨p, q, hp, hq, e3, e4, e5, e6⟩, hr, hs, hf, ht, hm⟩ := id h
  have hN := hR.1.1
  have f0 := hR.1.2.2.1.1
  have g0 := hR.1.2.2.1.2
  refine cM_v (c_X9_loopCount hG S N f0 hN) ⟨_, rfl, ?_⟩
  exact cM_v (c_X10_loopCount hG _ N g0 hN) ⟨congrArg Value.int (hR.1.count _).symm, RLaw_eq h rfl rfl rfl rfl rfl rfl rfl rfl rfl rfl rfl rfl rfl rfl rfl rfl rfl rfl rfl rfl rfl rfl rfl⟩
theorem op_bestImprovement {g : G0} (hG : Gd g) {S : SS} (h : RLaw S) : opB g mX9_bestImprovement mX10_bestImprovement S := by
  obtain ⟨⟨N, fc, w, r, t, hR⟩, ⟨p, q, hp, hq, e3, e4, e5, e6⟩, hr, hs, hf, ht, hm⟩ := id h
  have hN := hR.1.1
  have f0 := hR.1.2.2.1.1
  have g0 := hR.1.2.2.1.2
  refine cM_g (c_X9_bestImprovement hG S _ N _ hR.1.tgts) (fun S2 hS2 => ⟨_, rfl, ?_⟩)
  have h2 := (RLaw_co hS2 h).1
  obtain ⟨kTL, kTX, kSV, kHN, kHK, kHR, kSL, kSF, kQN, kQS, kQK, kQV, kRF, kAC, kNX, kSS, kSP, kME, kUP, kLO, kNW, kTR, kAF, kDI, kKE, kIK, kSC, kRD, kMW, kMS, kMX, kRT, kMO, kOU⟩ := co_all hS2
  have hR2 : RR (z_SV S) (z_NW S2) N fc w r t := by rw [kNW]; exact hR
  refine ⟨_, c_X10_bestImprovement hG S2 N hR2.1.2.2.1.2 hN (fun i hi => (hR2.1.imp hi).sv), fun v w1 hv => ?_⟩
  obtain ⟨h1, tr, mx, rt, mo, u, l, h3⟩ := hv
  refine ⟨_, _, h1, h3, ?_, RLaw_eq h2 rfl rfl rfl rfl rfl rfl rfl rfl rfl rfl rfl rfl rfl rfl rfl rfl rfl rfl rfl rfl rfl rfl rfl⟩
  exact congrArg (fun x : Int32 × Int32 => Value.int x.1) hR2.1.bestI.symm
theorem op_bestShutdown {g : G0} (hG : Gd g) {S : SS} (h : RLaw S) : opB g mX9_bestShutdown mX10_bestShutdown S := by
  obtain ⟨⟨N, fc, w, r, t, hR⟩, ⟨p, q, hp, hq, e3, e4, e5, e6⟩, hr, hs, hf, ht, hm⟩ := id h
  have hN := hR.1.1
  have f0 := hR.1.2.2.1.1
  have g0 := hR.1.2.2.1.2
  refine cM_g (c_X9_bestShutdown hG S _ N _ hR.1.tgts) (fun S2 hS2 => ⟨_, rfl, ?_⟩)
  have h2 := (RLaw_co hS2 h).1
  obtain ⟨kTL, kTX, kSV, kHN, kHK, kHR, kSL, kSF, kQN, kQS, kQK, kQV, kRF, kAC, kNX, kSS, kSP, kME, kUP, kLO, kNW, kTR, kAF, kDI, kKE, kIK, kSC, kRD, kMW, kMS, kMX, kRT, kMO, kOU⟩ := co_all hS2
  have hR2 : RR (z_SV S) (z_NW S2) N fc w r t := by rw [kNW]; exact hR
  refine ⟨_, c_X10_bestShutdown hG S2 N hR2.1.2.2.1.2 hN (fun i hi => (hR2.1.shu hi).sv), fun v w1 hv => ?_⟩
  obtain ⟨h1, tr, mx, rt, mo, u, l, h3⟩ := hv
  refine ⟨_, _, h1, h3, ?_, RLaw_eq h2 rfl rfl rfl rfl rfl rfl rfl rfl rfl rfl rfl rfl rfl rfl rfl rfl rfl rfl rfl rfl rfl rfl rfl⟩
  exact congrArg (fun x : Int32 × Int32 => Value.int x.1) hR2.1.bestS.symm
theorem op_recoveryFor {g : G0} (hG : Gd g) {S : SS} (h : RLaw S) (a b : Int32) : opA g mL_recoveryFor mX10_recoveryFor endI [.int a, .int b] S := by
  obtain ⟨⟨N, fc, w, r, t, hR⟩, ⟨p, q, hp, hq, e3, e4, e5, e6⟩, hr, hs, hf, ht, hm⟩ := id h
  have hN := hR.1.1
  have f0 := hR.1.2.2.1.1
  have g0 := hR.1.2.2.1.2
  by_cases z : 0 ≤ a ∧ a < z_SV S 0
  · obtain ⟨c, hc, rfl⟩ := ar_c hN (f0 ▸ z)
    by_cases z2 : 0 ≤ b ∧ b ≤ 1000
    · obtain ⟨v, hv, rfl⟩ := ar_r (m := 1000) rfl z2
      refine cW_g (k_L_recoveryFor_g hG S _ _ _ _ (c_X9_recoveryFor hG S c v _ N _ hR.1.tgts hc hv)) (fun S2 hS2 => ⟨0, rfl, ?_⟩)
      have h2 := (RLaw_co hS2 h).1
      obtain ⟨kTL, kTX, kSV, kHN, kHK, kHR, kSL, kSF, kQN, kQS, kQK, kQV, kRF, kAC, kNX, kSS, kSP, kME, kUP, kLO, kNW, kTR, kAF, kDI, kKE, kIK, kSC, kRD, kMW, kMS, kMX, kRT, kMO, kOU⟩ := co_all hS2
      have hR2 : RR (z_SV S) (z_NW S2) N fc w r t := by rw [kNW]; exact hR
      refine ⟨_, c_X10_recoveryFor hG _ c v N hR2.1.2.2.1.2 hN hc hv (hR2.1.sv_u (d := 0) hc (by decide)), fun x w1 hx => ?_⟩
      obtain ⟨h1, tr, mx, rt, mo, u, l, h3⟩ := hx
      refine ⟨_, _, h1, h3, ⟨_, rfl, rfl, fun _ => ?_, RLaw_eq h2 rfl rfl rfl rfl rfl rfl rfl rfl rfl rfl rfl rfl rfl rfl rfl rfl rfl rfl rfl rfl rfl rfl rfl⟩⟩
      exact congrArg Int32.toInt64 (hR2.1.recFor hc 101 (Nat.le_refl 101))
    · refine cW_v (k_L_recoveryFor_EIA hG S _ _ _ (c_X9_recoveryFor_x2 hG S c b N f0 hN hc z2)) ⟨2, rfl, ?_⟩
      exact cM_v (c_X10_recoveryFor_x2 hG _ c b N g0 hN hc z2) ⟨_, rfl, rfl, fun z => absurd z (by decide), RLaw_eq h rfl rfl rfl rfl rfl rfl rfl rfl rfl rfl rfl rfl rfl rfl rfl rfl rfl rfl rfl rfl rfl rfl rfl⟩
  · refine cW_v (k_L_recoveryFor_EIO hG S _ _ _ (c_X9_recoveryFor_x1 hG S a b z)) ⟨1, rfl, ?_⟩
    exact cM_v (c_X10_recoveryFor_x1 hG _ a b N g0 hN (by rw [show z_NW S 0 = nI N from g0, ← f0]; exact z)) ⟨_, rfl, rfl, fun z => absurd z (by decide), RLaw_eq h rfl rfl rfl rfl rfl rfl rfl rfl rfl rfl rfl rfl rfl rfl rfl rfl rfl rfl rfl rfl rfl rfl rfl⟩
theorem op_possibleRecoveries {g : G0} (hG : Gd g) {S : SS} (h : RLaw S) (a b : Int32) : opA g mL_possibleRecoveries mX10_possibleRecoveries endI [.int a, .int b] S := by
  obtain ⟨⟨N, fc, w, r, t, hR⟩, ⟨p, q, hp, hq, e3, e4, e5, e6⟩, hr, hs, hf, ht, hm⟩ := id h
  have hN := hR.1.1
  have f0 := hR.1.2.2.1.1
  have g0 := hR.1.2.2.1.2
  obtain ⟨p9, q9, m1, m2, m3, hM⟩ := hm
  by_cases z : (0 ≤ a ∧ a < z_SV S 0) ∧ (b = 0 ∨ b = 1)
  · obtain ⟨c, hc, rfl⟩ := ar_c hN (f0 ▸ z.1)
    obtain ⟨d, hd, rfl⟩ := ar_b z.2
    refine cW_g (k_L_possibleRecoveries_g hG S _ _ _ _ (c_X9_possibleRecoveries hG S c d _ N _ q9 hR.1.tgts hc hd m2 hM.2.1)) (fun S2 hS2 => ⟨0, rfl, ?_⟩)
    have h2 := (RLaw_co hS2 h).1
    obtain ⟨kTL, kTX, kSV, kHN, kHK, kHR, kSL, kSF, kQN, kQS, kQK, kQV, kRF, kAC, kNX, kSS, kSP, kME, kUP, kLO, kNW, kTR, kAF, kDI, kKE, kIK, kSC, kRD, kMW, kMS, kMX, kRT, kMO, kOU⟩ := co_all hS2
    have hR2 : RR (z_SV S) (z_NW S2) N fc w r t := by rw [kNW]; exact hR
    have hM2 : MRm (z_QK S) (z_QV S) (z_MW S2) (z_MS S2) p9 q9 := by rw [kMW, kMS]; exact hM
    refine ⟨_, c_X10_possibleRecoveries hG _ c d N q9 hR2.1.2.2.1.2 hN (kME.trans m3) hM.2.1 hc hd (hR2.1.mv_u hc hd), fun x w1 hx => ?_⟩
    obtain ⟨h1, tr, mx, rt, mo, u, l, h3⟩ := hx
    refine ⟨_, _, h1, h3, ⟨_, rfl, rfl, fun _ => ?_, RLaw_eq h2 rfl rfl rfl rfl rfl rfl rfl rfl rfl rfl rfl rfl rfl rfl rfl rfl rfl rfl rfl rfl rfl rfl rfl⟩⟩
    exact congrArg Int32.toInt64 (hR2.1.poss hc hd hM2.agree 101 (Nat.le_refl 101))
  · refine cW_v (k_L_possibleRecoveries_EIO hG S _ _ _ (c_X9_possibleRecoveries_x hG S a b z)) ⟨1, rfl, ?_⟩
    exact cM_v (c_X10_possibleRecoveries_x hG _ a b N g0 hN (by rw [show z_NW S 0 = nI N from g0, ← f0]; exact z)) ⟨_, rfl, rfl, fun z => absurd z (by decide), RLaw_eq h rfl rfl rfl rfl rfl rfl rfl rfl rfl rfl rfl rfl rfl rfl rfl rfl rfl rfl rfl rfl rfl rfl rfl⟩
