theorem co_TV (S : SS) (v : (Nat → Int32)) : co (s_TV S v) = co S := by simp only [co, s_TV, z_TL, z_TX, z_SV, z_HN, z_HK, z_HR, z_SL, z_SF, z_QN, z_QS, z_QK, z_QV, z_RF, z_AC, z_NX, z_SS, z_SP, z_ME, z_UP, z_LO, z_NW, z_TR, z_AF, z_DI, z_KE, z_IK, z_SC, z_RD, z_MW, z_MS, z_MX, z_RT, z_MO, z_OU]
theorem co_AR (S : SS) (v : (Nat → Int32)) : co (s_AR S v) = co S := by simp only [co, s_AR, z_TL, z_TX, z_SV, z_HN, z_HK, z_HR, z_SL, z_SF, z_QN, z_QS, z_QK, z_QV, z_RF, z_AC, z_NX, z_SS, z_SP, z_ME, z_UP, z_LO, z_NW, z_TR, z_AF, z_DI, z_KE, z_IK, z_SC, z_RD, z_MW, z_MS, z_MX, z_RT, z_MO, z_OU]
theorem co_BN (S : SS) (v : Int64) : co (s_BN S v) = co S := by simp only [co, s_BN, z_TL, z_TX, z_SV, z_HN, z_HK, z_HR, z_SL, z_SF, z_QN, z_QS, z_QK, z_QV, z_RF, z_AC, z_NX, z_SS, z_SP, z_ME, z_UP, z_LO, z_NW, z_TR, z_AF, z_DI, z_KE, z_IK, z_SC, z_RD, z_MW, z_MS, z_MX, z_RT, z_MO, z_OU]
theorem co_BD (S : SS) (v : Int64) : co (s_BD S v) = co S := by simp only [co, s_BD, z_TL, z_TX, z_SV, z_HN, z_HK, z_HR, z_SL, z_SF, z_QN, z_QS, z_QK, z_QV, z_RF, z_AC, z_NX, z_SS, z_SP, z_ME, z_UP, z_LO, z_NW, z_TR, z_AF, z_DI, z_KE, z_IK, z_SC, z_RD, z_MW, z_MS, z_MX, z_RT, z_MO, z_OU]
theorem co_EQ (S : SS) (v : (Nat → Int64)) : co (s_EQ S v) = co S := by simp only [co, s_EQ, z_TL, z_TX, z_SV, z_HN, z_HK, z_HR, z_SL, z_SF, z_QN, z_QS, z_QK, z_QV, z_RF, z_AC, z_NX, z_SS, z_SP, z_ME, z_UP, z_LO, z_NW, z_TR, z_AF, z_DI, z_KE, z_IK, z_SC, z_RD, z_MW, z_MS, z_MX, z_RT, z_MO, z_OU]
theorem co_MI (S : SS) (v : (Nat → Int64)) : co (s_MI S v) = co S := by simp only [co, s_MI, z_TL, z_TX, z_SV, z_HN, z_HK, z_HR, z_SL, z_SF, z_QN, z_QS, z_QK, z_QV, z_RF, z_AC, z_NX, z_SS, z_SP, z_ME, z_UP, z_LO, z_NW, z_TR, z_AF, z_DI, z_KE, z_IK, z_SC, z_RD, z_MW, z_MS, z_MX, z_RT, z_MO, z_OU]
theorem co_RE (S : SS) (v : (Nat → Int32)) : co (s_RE S v) = co S := by simp only [co, s_RE, z_TL, z_TX, z_SV, z_HN, z_HK, z_HR, z_SL, z_SF, z_QN, z_QS, z_QK, z_QV, z_RF, z_AC, z_NX, z_SS, z_SP, z_ME, z_UP, z_LO, z_NW, z_TR, z_AF, z_DI, z_KE, z_IK, z_SC, z_RD, z_MW, z_MS, z_MX, z_RT, z_MO, z_OU]
theorem co_A0 (S : SS) (v : Int64) : co (s_A0 S v) = co S := by simp only [co, s_A0, z_TL, z_TX, z_SV, z_HN, z_HK, z_HR, z_SL, z_SF, z_QN, z_QS, z_QK, z_QV, z_RF, z_AC, z_NX, z_SS, z_SP, z_ME, z_UP, z_LO, z_NW, z_TR, z_AF, z_DI, z_KE, z_IK, z_SC, z_RD, z_MW, z_MS, z_MX, z_RT, z_MO, z_OU]
theorem co_A1 (S : SS) (v : Int64) : co (s_A1 S v) = co S := by simp only [co, s_A1, z_TL, z_TX, z_SV, z_HN, z_HK, z_HR, z_SL, z_SF, z_QN, z_QS, z_QK, z_QV, z_RF, z_AC, z_NX, z_SS, z_SP, z_ME, z_UP, z_LO, z_NW, z_TR, z_AF, z_DI, z_KE, z_IK, z_SC, z_RD, z_MW, z_MS, z_MX, z_RT, z_MO, z_OU]
theorem co_A2 (S : SS) (v : Int64) : co (s_A2 S v) = co S := by simp only [co, s_A2, z_TL, z_TX, z_SV, z_HN, z_HK, z_HR, z_SL, z_SF, z_QN, z_QS, z_QK, z_QV, z_RF, z_AC, z_NX, z_SS, z_SP, z_ME, z_UP, z_LO, z_NW, z_TR, z_AF, z_DI, z_KE, z_IK, z_SC, z_RD, z_MW, z_MS, z_MX, z_RT, z_MO, z_OU]
theorem co_A3 (S : SS) (v : Int64) : co (s_A3 S v) = co S := by simp only [co, s_A3, z_TL, z_TX, z_SV, z_HN, z_HK, z_HR, z_SL, z_SF, z_QN, z_QS, z_QK, z_QV, z_RF, z_AC, z_NX, z_SS, z_SP, z_ME, z_UP, z_LO, z_NW, z_TR, z_AF, z_DI, z_KE, z_IK, z_SC, z_RD, z_MW, z_MS, z_MX, z_RT, z_MO, z_OU]
theorem co_B0 (S : SS) (v : Int64) : co (s_B0 S v) = co S := by simp only [co, s_B0, z_TL, z_TX, z_SV, z_HN, z_HK, z_HR, z_SL, z_SF, z_QN, z_QS, z_QK, z_QV, z_RF, z_AC, z_NX, z_SS, z_SP, z_ME, z_UP, z_LO, z_NW, z_TR, z_AF, z_DI, z_KE, z_IK, z_SC, z_RD, z_MW, z_MS, z_MX, z_RT, z_MO, z_OU]
theorem co_B1 (S : SS) (v : Int64) : co (s_B1 S v) = co S := by simp only [co, s_B1, z_TL, z_TX, z_SV, z_HN, z_HK, z_HR, z_SL, z_SF, z_QN, z_QS, z_QK, z_QV, z_RF, z_AC, z_NX, z_SS, z_SP, z_ME, z_UP, z_LO, z_NW, z_TR, z_AF, z_DI, z_KE, z_IK, z_SC, z_RD, z_MW, z_MS, z_MX, z_RT, z_MO, z_OU]
theorem co_B2 (S : SS) (v : Int64) : co (s_B2 S v) = co S := by simp only [co, s_B2, z_TL, z_TX, z_SV, z_HN, z_HK, z_HR, z_SL, z_SF, z_QN, z_QS, z_QK, z_QV, z_RF, z_AC, z_NX, z_SS, z_SP, z_ME, z_UP, z_LO, z_NW, z_TR, z_AF, z_DI, z_KE, z_IK, z_SC, z_RD, z_MW, z_MS, z_MX, z_RT, z_MO, z_OU]
theorem co_B3 (S : SS) (v : Int64) : co (s_B3 S v) = co S := by simp only [co, s_B3, z_TL, z_TX, z_SV, z_HN, z_HK, z_HR, z_SL, z_SF, z_QN, z_QS, z_QK, z_QV, z_RF, z_AC, z_NX, z_SS, z_SP, z_ME, z_UP, z_LO, z_NW, z_TR, z_AF, z_DI, z_KE, z_IK, z_SC, z_RD, z_MW, z_MS, z_MX, z_RT, z_MO, z_OU]
theorem co_C0 (S : SS) (v : Int64) : co (s_C0 S v) = co S := by simp only [co, s_C0, z_TL, z_TX, z_SV, z_HN, z_HK, z_HR, z_SL, z_SF, z_QN, z_QS, z_QK, z_QV, z_RF, z_AC, z_NX, z_SS, z_SP, z_ME, z_UP, z_LO, z_NW, z_TR, z_AF, z_DI, z_KE, z_IK, z_SC, z_RD, z_MW, z_MS, z_MX, z_RT, z_MO, z_OU]
theorem co_C1 (S : SS) (v : Int64) : co (s_C1 S v) = co S := by simp only [co, s_C1, z_TL, z_TX, z_SV, z_HN, z_HK, z_HR, z_SL, z_SF, z_QN, z_QS, z_QK, z_QV, z_RF, z_AC, z_NX, z_SS, z_SP, z_ME, z_UP, z_LO, z_NW, z_TR, z_AF, z_DI, z_KE, z_IK, z_SC, z_RD, z_MW, z_MS, z_MX, z_RT, z_MO, z_OU]
theorem co_C2 (S : SS) (v : Int64) : co (s_C2 S v) = co S := by simp only [co, s_C2, z_TL, z_TX, z_SV, z_HN, z_HK, z_HR, z_SL, z_SF, z_QN, z_QS, z_QK, z_QV, z_RF, z_AC, z_NX, z_SS, z_SP, z_ME, z_UP, z_LO, z_NW, z_TR, z_AF, z_DI, z_KE, z_IK, z_SC, z_RD, z_MW, z_MS, z_MX, z_RT, z_MO, z_OU]
theorem co_C3 (S : SS) (v : Int64) : co (s_C3 S v) = co S := by simp only [co, s_C3, z_TL, z_TX, z_SV, z_HN, z_HK, z_HR, z_SL, z_SF, z_QN, z_QS, z_QK, z_QV, z_RF, z_AC, z_NX, z_SS, z_SP, z_ME, z_UP, z_LO, z_NW, z_TR, z_AF, z_DI, z_KE, z_IK, z_SC, z_RD, z_MW, z_MS, z_MX, z_RT, z_MO, z_OU]
theorem mv1_congr {f a a2 : Nat → Int32} {d c t0 t1 : Nat} (h0 : t0 < 10) (h1 : t1 < 10) (h : ∀ j, j < 10 → a j = a2 j) : ∀ j, j < 10 → mv1 f a d c t0 t1 j = mv1 f a2 d c t0 t1 j := by
  intro j hj
  simp only [mv1, upd]
  rw [h j hj, h t0 h0, h t1 h1]
theorem mvA_congr {f ar ar2 : Nat → Int32} {d ft n : Nat} {tg : Nat → Nat} (hf : ft < 10) (ht : ∀ k, k < 2 * n → tg k < 10) : ∀ i, i ≤ n → ∀ j, j < 10 → mvA f ar d ft tg i j = mvA f ar2 d ft tg i j
  | 0, _, j, hj => by
    simp only [mvA, mv0, upd, filF]
    rw [if_pos hf, if_pos hf, if_pos hj, if_pos hj]
  | i + 1, hi, j, hj => by
    simp only [mvA]
    exact mv1_congr (ht _ (by omega)) (ht _ (by omega)) (mvA_congr hf ht i (by omega)) j hj
theorem mvH_congr {f a a2 : Nat → Int32} {d n : Nat} (hn : n ≤ 6) (h : ∀ j, j < 10 → a j = a2 j) : ∀ i, i ≤ n → mvH f a d i = mvH f a2 d i
  | 0, _ => rfl
  | i + 1, hi => by simp only [mvH]; rw [mvH_congr hn h i (by omega), h i (by omega)]
theorem mvF_congr {f ar ar2 : Nat → Int32} {d ft n : Nat} {tg : Nat → Nat} (hn : n ≤ 6) (hf : ft < 10) (ht : ∀ k, k < 2 * n → tg k < 10) : mvF f ar d ft n tg = mvF f ar2 d ft n tg := by
  have h := mvA_congr (f := f) (ar := ar) (ar2 := ar2) (d := d) hf ht n (Nat.le_refl n)
  unfold mvF mvC
  rw [mvH_congr hn h n (Nat.le_refl n), h 8 (by omega), h 9 (by omega)]
def z0 : Nat → Int32 := fun _ => 0
def advF (f : Nat → Int32) (ft N : Nat) (tg : Nat → Nat) : Nat → Int32 := mvF (mvF f z0 0 ft N tg) z0 1 ft N tg
theorem adv_eq {f ar ar2 : Nat → Int32} {ft N : Nat} {tg : Nat → Nat} (h : tgts f N ft tg) : mvF (mvF f ar 0 ft N tg) ar2 1 ft N tg = advF f ft N tg := by
  have ht : ∀ k, k < 2 * N → tg k < 10 := fun k hk => (h.2.2.2.2 k hk).2
  unfold advF
  rw [mvF_congr (f := f) (ar := ar) (ar2 := z0) h.2.1 h.2.2.2.1 ht, mvF_congr (ar := ar2) (ar2 := z0) h.2.1 h.2.2.2.1 ht]
theorem tgts_adv {f : Nat → Int32} {ft N : Nat} {tg : Nat → Nat} (h : tgts f N ft tg) : tgts (advF f ft N tg) N ft tg := tgts_mv (tgts_mv h)
def itF (f : Nat → Int32) (ft N : Nat) (tg : Nat → Nat) : Nat → Nat → Int32
  | 0 => f
  | i + 1 => advF (itF f ft N tg i) ft N tg
theorem tgts_it {f : Nat → Int32} {ft N : Nat} {tg : Nat → Nat} (h : tgts f N ft tg) : ∀ i, tgts (itF f ft N tg i) N ft tg
  | 0 => h
  | i + 1 => tgts_adv (tgts_it h i)
theorem co_SV_congr {S S2 : SS} (h : co S = co S2) (v : Nat → Int32) : co (s_SV S v) = co (s_SV S2 v) := by
  have e : ∀ T : SS, co (s_SV T v) = ((co T).1, (co T).2.1, v, (co T).2.2.2) := fun T => by simp only [co, s_SV, z_TL, z_TX, z_SV, z_HN, z_HK, z_HR, z_SL, z_SF, z_QN, z_QS, z_QK, z_QV, z_RF, z_AC, z_NX, z_SS, z_SP, z_ME, z_UP, z_LO, z_NW, z_TR, z_AF, z_DI, z_KE, z_IK, z_SC, z_RD, z_MW, z_MS, z_MX, z_RT, z_MO, z_OU]
  rw [e, e, h]
theorem co_SV {S S2 : SS} (h : co S = co S2) : z_SV S = z_SV S2 := congrArg (fun x => x.2.2.1) h
set_option maxRecDepth 100000 in
set_option maxHeartbeats 4000000 in
theorem l_X9_step {g : G0} {h : G1} (hG : Gd g) (S0 : SS) {post : Option Value → (Nat → va_E) → Prop} {xp : String → (Nat → va_E) → Prop} (k ft N : Nat) (tg : Nat → Nat) (hk : k ≤ 100) (ht : tgts (z_SV S0) N ft tg) (hp : ∀ S2, co S2 = co (s_SV S0 (itF (z_SV S0) ft N tg k)) → post (some (.int (itF (z_SV S0) ft N tg k 40))) (mixW g S2)) : ∀ (n i : Nat) (S : SS), co S = co (s_SV S0 (itF (z_SV S0) ft N tg i)) → i + n = k → wp g h mX9_step (mixW g S) [some (.ref 0), some (.int (nI k)), some (.int (nI i))] [] 0 (QQ g h mX9_step post xp) 20 := by
  intro n
  induction n with
  | zero =>
    intro i S hco hq1
    obtain rfl : k = i := by omega
    have hs : z_SV S = itF (z_SV S0) ft N tg k := co_SV hco
    refine q_iload_n dX9_step_20 rfl ?_
    refine q_iload_n dX9_step_21 rfl ?_
    refine q_icmp_ge 42 dX9_step_22 rfl (fun c22 => ?_) (fun c22 => ?_)
    · have n22 := (nI_leI (a := k) (b := k) (by omega) (by omega)).mp c22
      refine q_aload_n dX9_step_42 rfl ?_
      refine q_get (j := 1) (v := .ref 3) dX9_step_43 (Nat.le_of_ble_eq_true rfl) rfl rfl iuX9 (Nat.le_of_ble_eq_true rfl) uw_209 rfl rfl ?_
      refine q_bipush (v := 8) dX9_step_46 rfl ?_
      refine q_iconst (v := 0) dX9_step_48 rfl ?_
      refine q_callVv (ν := mX7_collected) dX9_step_49 uw_739 vX7_collected (c_X7_collected_3 hG S (8) (0) (by omega) (by omega) (by omega)) (Nat.le_of_ble_eq_true rfl) rfl rfl rfl rfl (Nat.le_of_ble_eq_true rfl) (Nat.le_of_ble_eq_true rfl) (Nat.le_of_ble_eq_true rfl) 0 (Nat.le_of_ble_eq_true rfl) ?_
      exact q_iret dX9_step_52 rfl (by rw [hs]; exact hp S hco)
    · have n22 := mt (nI_leI (a := k) (b := k) (by omega) (by omega)).mpr c22
      omega
  | succ n ih =>
    intro i S hco hq1
    have hs : z_SV S = itF (z_SV S0) ft N tg i := co_SV hco
    have ht2 : tgts (z_SV S) N ft tg := by rw [hs]; exact tgts_it ht i
    refine q_iload_n dX9_step_20 rfl ?_
    refine q_iload_n dX9_step_21 rfl ?_
    refine q_icmp_ge 42 dX9_step_22 rfl (fun c22 => ?_) (fun c22 => ?_)
    · have n22 := (nI_leI (a := k) (b := i) (by omega) (by omega)).mp c22
      omega
    · have n22 := mt (nI_leI (a := k) (b := i) (by omega) (by omega)).mpr c22
      refine q_aload_n dX9_step_25 rfl ?_
      refine q_get (j := 6) (v := .ref 13) dX9_step_26 (Nat.le_of_ble_eq_true rfl) rfl rfl iuX9 (Nat.le_of_ble_eq_true rfl) uw_214 rfl rfl ?_
      refine q_aload_n dX9_step_29 rfl ?_
      refine q_get (j := 1) (v := .ref 3) dX9_step_30 (Nat.le_of_ble_eq_true rfl) rfl rfl iuX9 (Nat.le_of_ble_eq_true rfl) uw_209 rfl rfl ?_
      refine q_callVu (ν := mX6_advance) dX9_step_33 uw_718 vX6_advance (c_X6_advance_3 hG S (ft) (N) (tg) ht2) (Nat.le_of_ble_eq_true rfl) rfl rfl rfl rfl (Nat.le_of_ble_eq_true rfl) (Nat.le_of_ble_eq_true rfl) (Nat.le_of_ble_eq_true rfl) 0 (Nat.le_of_ble_eq_true rfl) ?_
      refine wp_w (w2 := mixW g (s_SV (s_AR S (mvA (mvF (z_SV S) (z_AR S) 0 ft N tg) (mvA (z_SV S) (z_AR S) 0 ft tg N) 1 ft tg N)) (mvF (mvF (z_SV S) (z_AR S) 0 ft N tg) (mvA (z_SV S) (z_AR S) 0 ft tg N) 1 ft N tg))) rfl ?_
      refine q_iinc2 (k9 := 1) dX9_step_36 rfl (Nat.le_of_ble_eq_true rfl) rfl ?_
      refine wp_L (L2 := [some (.ref 0), some (.int (nI k)), some (.int (nI (i + 1)))]) (by rw [show nI i + 1 = nI (i + 1) from nI_1 _]) ?_
      refine q_goto 20 dX9_step_39 rfl ?_
      refine ih (i + 1) (s_SV (s_AR S (mvA (mvF (z_SV S) (z_AR S) 0 ft N tg) (mvA (z_SV S) (z_AR S) 0 ft tg N) 1 ft tg N)) (mvF (mvF (z_SV S) (z_AR S) 0 ft N tg) (mvA (z_SV S) (z_AR S) 0 ft tg N) 1 ft N tg)) ?_ (by omega)
      rw [show (s_SV (s_AR S (mvA (mvF (z_SV S) (z_AR S) 0 ft N tg) (mvA (z_SV S) (z_AR S) 0 ft tg N) 1 ft tg N)) (mvF (mvF (z_SV S) (z_AR S) 0 ft N tg) (mvA (z_SV S) (z_AR S) 0 ft tg N) 1 ft N tg)) = s_AR (s_SV S (mvF (mvF (z_SV S) (z_AR S) 0 ft N tg) (mvA (z_SV S) (z_AR S) 0 ft tg N) 1 ft N tg)) (mvA (mvF (z_SV S) (z_AR S) 0 ft N tg) (mvA (z_SV S) (z_AR S) 0 ft tg N) 1 ft tg N) from (sc_AR_SV _ _ _).symm, co_AR, adv_eq ht2, hs]
      refine (co_SV_congr hco _).trans ?_
      rw [ss_SV]
      rfl
set_option maxRecDepth 100000 in
set_option maxHeartbeats 4000000 in
theorem c_X9_step {g : G0} (hG : Gd g) (S : SS) (k : Nat) (N : Nat) (p : Nat) (q : Nat) (ft : Nat) (tg : Nat → Nat) (h1 : (z_SV S) 0 = nI N) (h2 : N ≤ 6) (h3 : (z_HN S) = nI p) (h4 : p < 14) (h5 : (z_HK S) = nI q) (h6 : q ≤ 14) (h7 : 1 ≤ k) (h8 : k ≤ 100) (h9 : tgts (z_SV S) N ft tg) : ct g mX9_step [.ref 0, .int (nI k)] (mixW g S) (fun v w1 => v = some (.int (itF (z_SV S) ft N tg k 40)) ∧ ∃ S2, w1 = mixW g S2 ∧ co S2 = co (s_SV (s_HN (s_HK (s_HR S (va_cpy (z_SV S) (z_HR S) 0 (p * 44) 44)) (nI (min (q + 1) 14))) (nI ((p + 1) % 14))) (itF (z_SV S) ft N tg k))) (fun _ _ => False) := by
  refine ct_of hG [some (.ref 0), some (.int (nI k)), none] rfl rfl rfl (Nat.le_of_ble_eq_true rfl) (fun h => ?_) rfl
  refine q_iload_n dX9_step_0 rfl ?_
  refine q_iconst (v := 1) dX9_step_1 rfl ?_
  refine q_bipush (v := 100) dX9_step_2 rfl ?_
  refine q_callSx (ν := mX9_requireRange) dX9_step_4 uw_476 vX9_requireRange (c_X9_requireRange_x hG S ((nI k)) (1) (100)) rfl rfl (Nat.le_of_ble_eq_true rfl) (Nat.le_of_ble_eq_true rfl) (Nat.le_of_ble_eq_true rfl) 0 (Nat.le_of_ble_eq_true rfl) rfl (fun z => (z (rng_ok (lo := 1) (hi := 100) (by omega) (by omega) (by omega))).elim) (fun c4 => ?_)
  refine wp_eq (st2 := []) rfl ?_
  refine q_aload_n dX9_step_7 rfl ?_
  refine q_get (j := 3) (v := .ref 7) dX9_step_8 (Nat.le_of_ble_eq_true rfl) rfl rfl iuX9 (Nat.le_of_ble_eq_true rfl) uw_211 rfl rfl ?_
  refine q_aload_n dX9_step_11 rfl ?_
  refine q_get (j := 1) (v := .ref 3) dX9_step_12 (Nat.le_of_ble_eq_true rfl) rfl rfl iuX9 (Nat.le_of_ble_eq_true rfl) uw_209 rfl rfl ?_
  refine q_callVu (ν := mX2_remember) dX9_step_15 uw_296 vX2_remember (c_X2_remember hG S (p) (q) h3 h4 h5 h6) (Nat.le_of_ble_eq_true rfl) rfl rfl rfl rfl (Nat.le_of_ble_eq_true rfl) (Nat.le_of_ble_eq_true rfl) (Nat.le_of_ble_eq_true rfl) 0 (Nat.le_of_ble_eq_true rfl) ?_
  refine wp_w (w2 := mixW g (s_HN (s_HK (s_HR S (va_cpy (z_SV S) (z_HR S) 0 (p * 44) 44)) (nI (min (q + 1) 14))) (nI ((p + 1) % 14)))) rfl ?_
  refine q_iconst (v := 0) dX9_step_18 rfl ?_
  refine q_ist2 dX9_step_19 (Nat.le_of_ble_eq_true rfl) rfl ?_
  exact l_X9_step hG (s_HN (s_HK (s_HR S (va_cpy (z_SV S) (z_HR S) 0 (p * 44) 44)) (nI (min (q + 1) 14))) (nI ((p + 1) % 14))) k ft N tg h8 h9 (fun S2 hS2 => ⟨rfl, S2, rfl, hS2⟩) k 0 (s_HN (s_HK (s_HR S (va_cpy (z_SV S) (z_HR S) 0 (p * 44) 44)) (nI (min (q + 1) 14))) (nI ((p + 1) % 14))) (by rw [show itF (z_SV (s_HN (s_HK (s_HR S (va_cpy (z_SV S) (z_HR S) 0 (p * 44) 44)) (nI (min (q + 1) 14))) (nI ((p + 1) % 14)))) ft N tg 0 = z_SV (s_HN (s_HK (s_HR S (va_cpy (z_SV S) (z_HR S) 0 (p * 44) 44)) (nI (min (q + 1) 14))) (nI ((p + 1) % 14))) from rfl, se_SV]) (by omega)
set_option maxRecDepth 100000 in
set_option maxHeartbeats 4000000 in
theorem c_X9_step_x {g : G0} (hG : Gd g) (S : SS) (x : Int32)  (h1 : ¬ (1 ≤ x ∧ x ≤ 100)) : ctt g mX9_step [.ref 0, .int x] (mixW g S) EIA (mixW g S) := by
  refine ct_of hG [some (.ref 0), some (.int (x)), none] rfl rfl rfl (Nat.le_of_ble_eq_true rfl) (fun h => ?_) rfl
  refine q_iload_n dX9_step_0 rfl ?_
  refine q_iconst (v := 1) dX9_step_1 rfl ?_
  refine q_bipush (v := 100) dX9_step_2 rfl ?_
  refine q_callSx (ν := mX9_requireRange) dX9_step_4 uw_476 vX9_requireRange (c_X9_requireRange_x hG S (x) (1) (100)) rfl rfl (Nat.le_of_ble_eq_true rfl) (Nat.le_of_ble_eq_true rfl) (Nat.le_of_ble_eq_true rfl) 0 (Nat.le_of_ble_eq_true rfl) rfl (fun z => ⟨rfl, rfl⟩) (fun c4 => ?_)
  refine wp_eq (st2 := []) rfl ?_
  exact absurd c4 h1
def dtF (f : Nat → Int32) (N r : Nat) : Nat → Int32 := if 0 < N ∧ r % 3 = 0 then upd f (4 + 2 * (r / 3 % N) + r / 64 % 2) (nI (r / 128 % 101)) else f
theorem tgts_dt {f : Nat → Int32} {ft N : Nat} {tg : Nat → Nat} (h : tgts f N ft tg) (r : Nat) : tgts (dtF f N r) N ft tg := by
  unfold dtF
  by_cases z : 0 < N ∧ r % 3 = 0
  · rw [if_pos z]
    have h1 := Nat.mod_lt (r / 3) z.1
    have := h.2.1
    exact tgts_upd h (by omega) (by omega)
  · rw [if_neg z]
    exact h
def nxF (x : Int64) : Int64 := x * 6364136223846793005 + 1442695040888963407
def diF (nx : Int64 → Int64) (rn : Int64 → Nat) (ft N : Nat) (tg : Nat → Nat) : Nat → (Nat → Int32) → Int64 → (Nat → Int32)
  | 0, f, _ => f
  | n + 1, f, x => diF nx rn ft N tg n (advF (dtF f N (rn (nx x))) ft N tg) (nx x)
theorem co_TVs {S S2 : SS} {v : Nat → Int32} (h : co S = co S2) : co (s_TV S v) = co S2 := (co_TV S v).trans h
theorem dtF_congr {f f2 : Nat → Int32} {N r : Nat} (hN : N ≤ 6) (h : ∀ j, j < 44 → f j = f2 j) : ∀ j, j < 44 → dtF f N r j = dtF f2 N r j := by
  intro j hj
  unfold dtF
  by_cases z : 0 < N ∧ r % 3 = 0
  · rw [if_pos z, if_pos z]
    simp only [upd]
    rw [h j hj]
  · rw [if_neg z, if_neg z]
    exact h j hj
theorem mvA_congrf {f f2 ar : Nat → Int32} {d ft n : Nat} {tg : Nat → Nat} (hd : d < 2) (hn : n ≤ 6) (h : ∀ j, j < 44 → f j = f2 j) : ∀ i, i ≤ n → mvA f ar d ft tg i = mvA f2 ar d ft tg i
  | 0, _ => by simp only [mvA, mv0]; rw [h (2 + d) (by omega)]
  | i + 1, hi => by simp only [mvA, mv1]; rw [mvA_congrf hd hn h i (by omega), h (28 + 2 * i + d) (by omega), h (4 + 2 * i + d) (by omega)]
theorem mvH_congrf {f f2 a : Nat → Int32} {d : Nat} (h : ∀ j, j < 44 → f j = f2 j) : ∀ i j, j < 44 → mvH f a d i j = mvH f2 a d i j
  | 0, j, hj => h j hj
  | i + 1, j, hj => by simp only [mvH, upd]; rw [mvH_congrf h i j hj]
theorem mvF_congrf {f f2 ar : Nat → Int32} {d ft n : Nat} {tg : Nat → Nat} (hd : d < 2) (hn : n ≤ 6) (h : ∀ j, j < 44 → f j = f2 j) : ∀ j, j < 44 → mvF f ar d ft n tg j = mvF f2 ar d ft n tg j := by
  intro j hj
  unfold mvF mvC
  rw [mvA_congrf hd hn h n (Nat.le_refl n)]
  simp only [upd]
  rw [mvH_congrf h n j hj, mvH_congrf h n (40 + 2 * (8 - 8) + d) (by omega), mvH_congrf h n (40 + 2 * (9 - 8) + d) (by omega)]
theorem advF_congrf {f f2 : Nat → Int32} {ft N : Nat} {tg : Nat → Nat} (hn : N ≤ 6) (h : ∀ j, j < 44 → f j = f2 j) : ∀ j, j < 44 → advF f ft N tg j = advF f2 ft N tg j := mvF_congrf (by omega) hn (mvF_congrf (by omega) hn h)
theorem diF_s (nx : Int64 → Int64) (rn : Int64 → Nat) (ft N : Nat) (tg : Nat → Nat) (n : Nat) (f : Nat → Int32) (x : Int64) : diF nx rn ft N tg (n + 1) f x = diF nx rn ft N tg n (advF (dtF f N (rn (nx x))) ft N tg) (nx x) := by simp only [diF]
theorem diF_congrf {nx : Int64 → Int64} {rn : Int64 → Nat} {ft N : Nat} {tg : Nat → Nat} (hn : N ≤ 6) (n : Nat) : ∀ (f f2 : Nat → Int32) (x : Int64), (∀ j, j < 44 → f j = f2 j) → ∀ j, j < 44 → diF nx rn ft N tg n f x j = diF nx rn ft N tg n f2 x j := by
  induction n with
  | zero => intro f f2 x h j hj; simp only [diF]; exact h j hj
  | succ n ih =>
    intro f f2 x h j hj
    rw [diF_s, diF_s, ih _ (advF (dtF f2 N (rn (nx x))) ft N tg) _ (advF_congrf hn (dtF_congr hn h)) j hj]
set_option maxRecDepth 100000 in
set_option maxHeartbeats 4000000 in
theorem c_X9_disturbTrial {g : G0} (hG : Gd g) (S : SS) (r : Nat) (N : Nat) (h1 : (z_TV S) 0 = nI N) (h2 : N ≤ 6) (h3 : r < 2147483648) : ctu g mX9_disturbTrial [.ref 0, .int (nI r)] (mixW g S) (mixW g (s_TV S (dtF (z_TV S) N r))) := by
  refine ct_of hG [some (.ref 0), some (.int (nI r)), none] rfl rfl rfl (Nat.le_of_ble_eq_true rfl) (fun h => ?_) rfl
  refine q_aload_n dX9_disturbTrial_0 rfl ?_
  refine q_get (j := 2) (v := .ref 5) dX9_disturbTrial_1 (Nat.le_of_ble_eq_true rfl) rfl rfl iuX9 (Nat.le_of_ble_eq_true rfl) uw_210 rfl rfl ?_
  refine q_callVv (ν := mX7_count) dX9_disturbTrial_4 uw_280 vX7_count (c_X7_count_5 hG S ) (Nat.le_of_ble_eq_true rfl) rfl rfl rfl rfl (Nat.le_of_ble_eq_true rfl) (Nat.le_of_ble_eq_true rfl) (Nat.le_of_ble_eq_true rfl) 0 (Nat.le_of_ble_eq_true rfl) ?_
  refine wp_top (y := nI N) h1 ?_
  refine q_ist2 dX9_disturbTrial_7 (Nat.le_of_ble_eq_true rfl) rfl ?_
  refine q_iload_n dX9_disturbTrial_8 rfl ?_
  refine q_if_le 44 dX9_disturbTrial_9 rfl (fun c9 => ?_) (fun c9 => ?_)
  · have n9 := (nI_leI (a := N) (b := 0) (by omega) (by omega)).mp c9
    exact q_vret dX9_disturbTrial_44 rfl ⟨rfl, by unfold dtF; rw [if_neg (by omega), se_TV]⟩
  · have n9 := mt (nI_leI (a := N) (b := 0) (by omega) (by omega)).mpr c9
    refine q_iload_n dX9_disturbTrial_12 rfl ?_
    refine q_iconst (v := 3) dX9_disturbTrial_13 rfl ?_
    refine q_irem dX9_disturbTrial_14 (by decide) ?_
    refine wp_top (y := nI (r % 3)) (pk_rem (d := 3) (by omega) (by omega) (by omega)) ?_
    refine q_if_ne 44 dX9_disturbTrial_15 rfl (fun c15 => ?_) (fun c15 => ?_)
    · have n15 := mt (nI_eq (a := (r % 3)) (b := 0) (by omega) (by omega)).mpr c15
      exact q_vret dX9_disturbTrial_44 rfl ⟨rfl, by unfold dtF; rw [if_neg (by omega), se_TV]⟩
    · have n15 := (nI_eq (a := (r % 3)) (b := 0) (by omega) (by omega)).mp c15
      refine q_aload_n dX9_disturbTrial_18 rfl ?_
      refine q_get (j := 2) (v := .ref 5) dX9_disturbTrial_19 (Nat.le_of_ble_eq_true rfl) rfl rfl iuX9 (Nat.le_of_ble_eq_true rfl) uw_210 rfl rfl ?_
      refine q_iload_n dX9_disturbTrial_22 rfl ?_
      refine q_iconst (v := 3) dX9_disturbTrial_23 rfl ?_
      refine q_idiv dX9_disturbTrial_24 (by decide) ?_
      refine wp_top (y := nI (r / 3)) (pk_div (d := 3) (by omega) (by omega) (by omega)) ?_
      refine q_iload_n dX9_disturbTrial_25 rfl ?_
      refine q_irem dX9_disturbTrial_26 (nI_ne0 (by omega) (by omega)) ?_
      refine wp_top (y := nI (r / 3 % N)) (pk_rem (by omega) (by omega) (by omega)) ?_
      have hm := Nat.mod_lt (r / 3) (show 0 < N by omega)
      refine q_iload_n dX9_disturbTrial_27 rfl ?_
      refine q_bipush (v := 64) dX9_disturbTrial_28 rfl ?_
      refine q_idiv dX9_disturbTrial_30 (by decide) ?_
      refine wp_top (y := nI (r / 64)) (pk_div (d := 64) (by omega) (by omega) (by omega)) ?_
      refine q_iconst (v := 2) dX9_disturbTrial_31 rfl ?_
      refine q_irem dX9_disturbTrial_32 (by decide) ?_
      refine wp_top (y := nI (r / 64 % 2)) (pk_rem (d := 2) (by omega) (by omega) (by omega)) ?_
      refine q_iload_n dX9_disturbTrial_33 rfl ?_
      refine q_sipush (v := 128) dX9_disturbTrial_34 rfl ?_
      refine q_idiv dX9_disturbTrial_37 (by decide) ?_
      refine wp_top (y := nI (r / 128)) (pk_div (d := 128) (by omega) (by omega) (by omega)) ?_
      refine q_bipush (v := 101) dX9_disturbTrial_38 rfl ?_
      refine q_irem dX9_disturbTrial_40 (by decide) ?_
      refine wp_top (y := nI (r / 128 % 101)) (pk_rem (d := 101) (by omega) (by omega) (by omega)) ?_
      refine q_callVu (ν := mX7_putPercent) dX9_disturbTrial_41 uw_448 vX7_putPercent (c_X7_putPercent_5 hG S ((r / 3 % N)) ((r / 64 % 2)) ((nI (r / 128 % 101))) (by omega)) (Nat.le_of_ble_eq_true rfl) rfl rfl rfl rfl (Nat.le_of_ble_eq_true rfl) (Nat.le_of_ble_eq_true rfl) (Nat.le_of_ble_eq_true rfl) 0 (Nat.le_of_ble_eq_true rfl) ?_
      refine wp_w (w2 := mixW g (s_TV S (upd (z_TV S) (4 + 2 * (r / 3 % N) + (r / 64 % 2)) (nI (r / 128 % 101))))) rfl ?_
      exact q_vret dX9_disturbTrial_44 rfl ⟨rfl, by unfold dtF; rw [if_pos ⟨by omega, n15⟩]⟩
set_option maxRecDepth 100000 in
set_option maxHeartbeats 4000000 in
theorem l_X9_disturb {g : G0} {h : G1} (hG : Gd g) (S0 : SS) {post : Option Value → (Nat → va_E) → Prop} {xp : String → (Nat → va_E) → Prop} (x0 : Int64) (k ft N : Nat) (tg : Nat → Nat) (hk : k ≤ 100) : ∀ (n i : Nat) (S : SS) (x : Int64), co S = co S0 → tgts (z_TV S) N ft tg → i + n = k → (∀ S2, co S2 = co S0 → post (some (.int (diF nxF rN ft N tg n (z_TV S) x 40))) (mixW g S2)) → wp g h mX9_disturb (mixW g S) [some (.ref 0), some (.long (x0)), none, some (.int (nI k)), some (.long (x)), none, some (.int (nI i))] [] 0 (QQ g h mX9_disturb post xp) 24 := by
  intro n
  induction n with
  | zero =>
    intro i S x hco ht hq1 hp
    obtain rfl : k = i := by omega
    refine q_iload dX9_disturb_24 rfl ?_
    refine q_iload_n dX9_disturb_26 rfl ?_
    refine q_icmp_ge 69 dX9_disturb_27 rfl (fun c27 => ?_) (fun c27 => ?_)
    · have n27 := (nI_leI (a := k) (b := k) (by omega) (by omega)).mp c27
      refine q_aload_n dX9_disturb_69 rfl ?_
      refine q_get (j := 2) (v := .ref 5) dX9_disturb_70 (Nat.le_of_ble_eq_true rfl) rfl rfl iuX9 (Nat.le_of_ble_eq_true rfl) uw_210 rfl rfl ?_
      refine q_bipush (v := 8) dX9_disturb_73 rfl ?_
      refine q_iconst (v := 0) dX9_disturb_75 rfl ?_
      refine q_callVv (ν := mX7_collected) dX9_disturb_76 uw_739 vX7_collected (c_X7_collected_5 hG S (8) (0) (by omega) (by omega) (by omega)) (Nat.le_of_ble_eq_true rfl) rfl rfl rfl rfl (Nat.le_of_ble_eq_true rfl) (Nat.le_of_ble_eq_true rfl) (Nat.le_of_ble_eq_true rfl) 0 (Nat.le_of_ble_eq_true rfl) ?_
      exact q_iret dX9_disturb_79 rfl (by have := hp S hco; simp only [diF] at this; exact this)
    · have n27 := mt (nI_leI (a := k) (b := k) (by omega) (by omega)).mpr c27
      omega
  | succ n ih =>
    intro i S x hco ht hq1 hp
    have ht1 := ht.1
    have ht2 := ht.2.1
    refine q_iload dX9_disturb_24 rfl ?_
    refine q_iload_n dX9_disturb_26 rfl ?_
    refine q_icmp_ge 69 dX9_disturb_27 rfl (fun c27 => ?_) (fun c27 => ?_)
    · have n27 := (nI_leI (a := k) (b := i) (by omega) (by omega)).mp c27
      omega
    · have n27 := mt (nI_leI (a := k) (b := i) (by omega) (by omega)).mpr c27
      refine q_lload dX9_disturb_30 rfl ?_
      refine q_ldc2 dX9_disturb_32 uw_895 ?_
      refine q_lmul dX9_disturb_35 ?_
      refine q_ldc2 dX9_disturb_36 uw_896 ?_
      refine q_ladd dX9_disturb_39 ?_
      refine wp_topl (y := nxF x) rfl ?_
      refine q_lst4 dX9_disturb_40 (Nat.le_of_ble_eq_true rfl) rfl ?_
      refine q_aload_n dX9_disturb_42 rfl ?_
      refine q_lload dX9_disturb_43 rfl ?_
      refine q_bipush (v := 33) dX9_disturb_45 rfl ?_
      refine q_lushr dX9_disturb_47 ?_
      refine q_l2i dX9_disturb_48 ?_
      refine wp_top (y := nI (rN (nxF x))) (rN_eq _) ?_
      refine q_callVu (ν := mX9_disturbTrial) dX9_disturb_49 uw_897 vX9_disturbTrial (c_X9_disturbTrial hG S ((rN (nxF x))) (N) ht1 ht2 (rN_lt _)) (Nat.le_of_ble_eq_true rfl) rfl rfl rfl rfl (Nat.le_of_ble_eq_true rfl) (Nat.le_of_ble_eq_true rfl) (Nat.le_of_ble_eq_true rfl) 0 (Nat.le_of_ble_eq_true rfl) ?_
      refine wp_w (w2 := mixW g (s_TV S (dtF (z_TV S) N (rN (nxF x))))) rfl ?_
      refine q_aload_n dX9_disturb_52 rfl ?_
      refine q_get (j := 6) (v := .ref 13) dX9_disturb_53 (Nat.le_of_ble_eq_true rfl) rfl rfl iuX9 (Nat.le_of_ble_eq_true rfl) uw_214 rfl rfl ?_
      refine q_aload_n dX9_disturb_56 rfl ?_
      refine q_get (j := 2) (v := .ref 5) dX9_disturb_57 (Nat.le_of_ble_eq_true rfl) rfl rfl iuX9 (Nat.le_of_ble_eq_true rfl) uw_210 rfl rfl ?_
      refine q_callVu (ν := mX6_advance) dX9_disturb_60 uw_718 vX6_advance (c_X6_advance_5 hG (s_TV S (dtF (z_TV S) N (rN (nxF x)))) (ft) (N) (tg) (tgts_dt ht _)) (Nat.le_of_ble_eq_true rfl) rfl rfl rfl rfl (Nat.le_of_ble_eq_true rfl) (Nat.le_of_ble_eq_true rfl) (Nat.le_of_ble_eq_true rfl) 0 (Nat.le_of_ble_eq_true rfl) ?_
      rw [sc_AR_TV, ss_TV]
      refine wp_w (w2 := mixW g (s_TV (s_AR S (mvA (mvF (dtF (z_TV S) N (rN (nxF x))) (z_AR S) 0 ft N tg) (mvA (dtF (z_TV S) N (rN (nxF x))) (z_AR S) 0 ft tg N) 1 ft tg N)) (mvF (mvF (dtF (z_TV S) N (rN (nxF x))) (z_AR S) 0 ft N tg) (mvA (dtF (z_TV S) N (rN (nxF x))) (z_AR S) 0 ft tg N) 1 ft N tg))) rfl ?_
      refine q_iinc6 (k9 := 1) dX9_disturb_63 rfl (Nat.le_of_ble_eq_true rfl) rfl ?_
      refine wp_L (L2 := [some (.ref 0), some (.long (x0)), none, some (.int (nI k)), some (.long (nxF x)), none, some (.int (nI (i + 1)))]) (by rw [show nI i + 1 = nI (i + 1) from nI_1 _]) ?_
      refine q_goto 24 dX9_disturb_66 rfl ?_
      refine ih (i + 1) (s_TV (s_AR S (mvA (mvF (dtF (z_TV S) N (rN (nxF x))) (z_AR S) 0 ft N tg) (mvA (dtF (z_TV S) N (rN (nxF x))) (z_AR S) 0 ft tg N) 1 ft tg N)) (mvF (mvF (dtF (z_TV S) N (rN (nxF x))) (z_AR S) 0 ft N tg) (mvA (dtF (z_TV S) N (rN (nxF x))) (z_AR S) 0 ft tg N) 1 ft N tg)) _ (by rw [co_TV, co_AR]; exact hco) ?_ (by omega) (fun S2 hS2 => ?_)
      · show tgts (mvF (mvF (dtF (z_TV S) N (rN (nxF x))) (z_AR S) 0 ft N tg) (mvA (dtF (z_TV S) N (rN (nxF x))) (z_AR S) 0 ft tg N) 1 ft N tg) N ft tg
        rw [adv_eq (tgts_dt ht _)]
        exact tgts_adv (tgts_dt ht _)
      · have := hp S2 hS2
        rw [diF_s] at this
        show post (some (.int (diF nxF rN ft N tg n (mvF (mvF (dtF (z_TV S) N (rN (nxF x))) (z_AR S) 0 ft N tg) (mvA (dtF (z_TV S) N (rN (nxF x))) (z_AR S) 0 ft tg N) 1 ft N tg) (nxF x) 40))) (mixW g S2)
        rw [adv_eq (tgts_dt ht _)]
        exact this
set_option maxRecDepth 100000 in
set_option maxHeartbeats 4000000 in
theorem c_X9_disturb {g : G0} (hG : Gd g) (S : SS) (x : Int64) (k : Nat) (ft : Nat) (N : Nat) (tg : Nat → Nat) (h1 : tgts (z_SV S) N ft tg) (h2 : 1 ≤ k) (h3 : k ≤ 100) : ct g mX9_disturb [.ref 0, .long x, .int (nI k)] (mixW g S) (fun v w1 => v = some (.int (diF nxF rN ft N tg k (z_SV S) x 40)) ∧ ∃ S2, w1 = mixW g S2 ∧ co S2 = co S) (fun _ _ => False) := by
  refine ct_of hG [some (.ref 0), some (.long (x)), none, some (.int (nI k)), none, none, none] rfl rfl rfl (Nat.le_of_ble_eq_true rfl) (fun h => ?_) rfl
  refine q_iload_n dX9_disturb_0 rfl ?_
  refine q_iconst (v := 1) dX9_disturb_1 rfl ?_
  refine q_bipush (v := 100) dX9_disturb_2 rfl ?_
  refine q_callSx (ν := mX9_requireRange) dX9_disturb_4 uw_476 vX9_requireRange (c_X9_requireRange_x hG S ((nI k)) (1) (100)) rfl rfl (Nat.le_of_ble_eq_true rfl) (Nat.le_of_ble_eq_true rfl) (Nat.le_of_ble_eq_true rfl) 0 (Nat.le_of_ble_eq_true rfl) rfl (fun z => (z (rng_ok (lo := 1) (hi := 100) (by omega) (by omega) (by omega))).elim) (fun c4 => ?_)
  refine wp_eq (st2 := []) rfl ?_
  refine q_aload_n dX9_disturb_7 rfl ?_
  refine q_get (j := 2) (v := .ref 5) dX9_disturb_8 (Nat.le_of_ble_eq_true rfl) rfl rfl iuX9 (Nat.le_of_ble_eq_true rfl) uw_210 rfl rfl ?_
  refine q_aload_n dX9_disturb_11 rfl ?_
  refine q_get (j := 1) (v := .ref 3) dX9_disturb_12 (Nat.le_of_ble_eq_true rfl) rfl rfl iuX9 (Nat.le_of_ble_eq_true rfl) uw_209 rfl rfl ?_
  refine q_callVu (ν := mX7_copyFrom) dX9_disturb_15 uw_443 vX7_copyFrom (c_X7_copyFrom_5 hG S ) (Nat.le_of_ble_eq_true rfl) rfl rfl rfl rfl (Nat.le_of_ble_eq_true rfl) (Nat.le_of_ble_eq_true rfl) (Nat.le_of_ble_eq_true rfl) 0 (Nat.le_of_ble_eq_true rfl) ?_
  refine wp_w (w2 := mixW g (s_TV S (va_cpy (z_SV S) (z_TV S) 0 0 44))) rfl ?_
  refine q_lload_n dX9_disturb_18 rfl ?_
  refine q_lst4 dX9_disturb_19 (Nat.le_of_ble_eq_true rfl) rfl ?_
  refine q_iconst (v := 0) dX9_disturb_21 rfl ?_
  refine q_ist6 dX9_disturb_22 (Nat.le_of_ble_eq_true rfl) rfl ?_
  refine l_X9_disturb hG S x k ft N tg h3 k 0 (s_TV S (va_cpy (z_SV S) (z_TV S) 0 0 44)) x (by rw [co_TV]) (tgts_cpy h1) (by omega) (fun S2 hS2 => ⟨?_, S2, rfl, hS2⟩)
  exact congrArg (fun z => some (Value.int z)) (diF_congrf h1.2.1 k _ _ x (fun j hj => cpy_at hj) 40 (by omega))
set_option maxRecDepth 100000 in
set_option maxHeartbeats 4000000 in
theorem c_X9_disturb_x {g : G0} (hG : Gd g) (S : SS) (x : Int64) (y : Int32)  (h1 : ¬ (1 ≤ y ∧ y ≤ 100)) : ctt g mX9_disturb [.ref 0, .long x, .int y] (mixW g S) EIA (mixW g S) := by
  refine ct_of hG [some (.ref 0), some (.long (x)), none, some (.int (y)), none, none, none] rfl rfl rfl (Nat.le_of_ble_eq_true rfl) (fun h => ?_) rfl
  refine q_iload_n dX9_disturb_0 rfl ?_
  refine q_iconst (v := 1) dX9_disturb_1 rfl ?_
  refine q_bipush (v := 100) dX9_disturb_2 rfl ?_
  refine q_callSx (ν := mX9_requireRange) dX9_disturb_4 uw_476 vX9_requireRange (c_X9_requireRange_x hG S (y) (1) (100)) rfl rfl (Nat.le_of_ble_eq_true rfl) (Nat.le_of_ble_eq_true rfl) (Nat.le_of_ble_eq_true rfl) 0 (Nat.le_of_ble_eq_true rfl) rfl (fun z => ⟨rfl, rfl⟩) (fun c4 => ?_)
  refine wp_eq (st2 := []) rfl ?_
  exact absurd c4 h1
def ch1 (f : Nat → Int32) (c : Nat) : Nat → Int32 := upd (upd f (4 + 2 * c + 0) 0) (4 + 2 * c + 1) 0
def ch0 (f : Nat → Int32) (c : Nat) : Nat → Int32 := upd f (4 + 2 * c + 0) (minI 100 (f (4 + 2 * c + 0) + 5))
noncomputable def rchF (f2 : Nat → Int32) (ft N : Nat) (tg : Nat → Nat) : Int32 := if pI (0 < DD f2 0 N tg ∧ 0 < DD f2 1 N tg) = 1 then recF (f2 2) (NN f2 0 8 ft N tg) (DD f2 0 N tg) else -9
noncomputable def bcR (ch : Nat → Nat → Int32) (ft N : Nat) (tg : Nat → Nat) : Nat → Int32 × Int32
  | 0 => (-9, -9)
  | i + 1 => if rchF (ch i) ft N tg ≤ (bcR ch ft N tg i).2 then bcR ch ft N tg i else (nI i, rchF (ch i) ft N tg)
theorem ch1_congr {f f2 : Nat → Int32} {c : Nat} (h : ∀ j, j < 16 → f j = f2 j) : ∀ j, j < 16 → ch1 f c j = ch1 f2 c j := by
  intro j hj
  simp only [ch1, upd]
  rw [h j hj]
theorem ch0_at {f f2 : Nat → Int32} {c : Nat} (hc : c < 6) (h : ∀ j, j < 16 → f j = f2 j) : ∀ j, j < 16 → upd f (4 + 2 * c + 0) (minI 100 (f2 (4 + 2 * c + 0) + 5)) j = ch0 f2 c j := by
  intro j hj
  simp only [ch0, upd]
  rw [h j hj]
set_option maxRecDepth 100000 in
set_option maxHeartbeats 4000000 in
theorem c_X9_changeTrial_0 {g : G0} (hG : Gd g) (S : SS) (c : Nat)  (h1 : c < 6) : ctu g mX9_changeTrial [.ref 0, .int (nI c), .int 0] (mixW g S) (mixW g (s_TV S (upd (va_cpy (z_SV S) (z_TV S) 0 0 44) (4 + 2 * c + 0) (minI 100 ((z_SV S) (4 + 2 * c + 0) + 5))))) := by
  refine ct_of hG [some (.ref 0), some (.int (nI c)), some (.int (0))] rfl rfl rfl (Nat.le_of_ble_eq_true rfl) (fun h => ?_) rfl
  refine q_aload_n dX9_changeTrial_0 rfl ?_
  refine q_get (j := 2) (v := .ref 5) dX9_changeTrial_1 (Nat.le_of_ble_eq_true rfl) rfl rfl iuX9 (Nat.le_of_ble_eq_true rfl) uw_210 rfl rfl ?_
  refine q_aload_n dX9_changeTrial_4 rfl ?_
  refine q_get (j := 1) (v := .ref 3) dX9_changeTrial_5 (Nat.le_of_ble_eq_true rfl) rfl rfl iuX9 (Nat.le_of_ble_eq_true rfl) uw_209 rfl rfl ?_
  refine q_callVu (ν := mX7_copyFrom) dX9_changeTrial_8 uw_443 vX7_copyFrom (c_X7_copyFrom_5 hG S ) (Nat.le_of_ble_eq_true rfl) rfl rfl rfl rfl (Nat.le_of_ble_eq_true rfl) (Nat.le_of_ble_eq_true rfl) (Nat.le_of_ble_eq_true rfl) 0 (Nat.le_of_ble_eq_true rfl) ?_
  refine wp_w (w2 := mixW g (s_TV S (va_cpy (z_SV S) (z_TV S) 0 0 44))) rfl ?_
  refine q_iload_n dX9_changeTrial_11 rfl ?_
  refine q_if_eq 38 dX9_changeTrial_12 rfl (fun c12 => ?_) (fun c12 => ?_)
  · refine q_aload_n dX9_changeTrial_38 rfl ?_
    refine q_get (j := 2) (v := .ref 5) dX9_changeTrial_39 (Nat.le_of_ble_eq_true rfl) rfl rfl iuX9 (Nat.le_of_ble_eq_true rfl) uw_210 rfl rfl ?_
    refine q_iload_n dX9_changeTrial_42 rfl ?_
    refine q_iconst (v := 0) dX9_changeTrial_43 rfl ?_
    refine q_bipush (v := 100) dX9_changeTrial_44 rfl ?_
    refine q_aload_n dX9_changeTrial_46 rfl ?_
    refine q_get (j := 1) (v := .ref 3) dX9_changeTrial_47 (Nat.le_of_ble_eq_true rfl) rfl rfl iuX9 (Nat.le_of_ble_eq_true rfl) uw_209 rfl rfl ?_
    refine q_iload_n dX9_changeTrial_50 rfl ?_
    refine q_iconst (v := 0) dX9_changeTrial_51 rfl ?_
    refine q_callVv (ν := mX7_percent) dX9_changeTrial_52 uw_452 vX7_percent (c_X7_percent_3 hG (s_TV S (va_cpy (z_SV S) (z_TV S) 0 0 44)) (c) (0) (by omega)) (Nat.le_of_ble_eq_true rfl) rfl rfl rfl rfl (Nat.le_of_ble_eq_true rfl) (Nat.le_of_ble_eq_true rfl) (Nat.le_of_ble_eq_true rfl) 0 (Nat.le_of_ble_eq_true rfl) ?_
    refine wp_eq (st2 := .int (((z_SV S) (4 + 2 * c + 0))) :: _) rfl ?_
    refine q_iconst (v := 5) dX9_changeTrial_55 rfl ?_
    refine q_iadd dX9_changeTrial_56 ?_
    refine q_mmin dX9_changeTrial_57 uw_453 (Nat.le_of_ble_eq_true rfl) (Nat.le_of_ble_eq_true rfl) (Nat.le_of_ble_eq_true rfl) ?_
    refine q_callVu (ν := mX7_putPercent) dX9_changeTrial_60 uw_448 vX7_putPercent (c_X7_putPercent_5 hG (s_TV S (va_cpy (z_SV S) (z_TV S) 0 0 44)) (c) (0) (((minI 100 (((z_SV S) (4 + 2 * c + 0)) + 5)))) (by omega)) (Nat.le_of_ble_eq_true rfl) rfl rfl rfl rfl (Nat.le_of_ble_eq_true rfl) (Nat.le_of_ble_eq_true rfl) (Nat.le_of_ble_eq_true rfl) 0 (Nat.le_of_ble_eq_true rfl) ?_
    rw [ss_TV]
    refine wp_w (w2 := mixW g (s_TV S (upd (va_cpy (z_SV S) (z_TV S) 0 0 44) (4 + 2 * c + 0) ((minI 100 (((z_SV S) (4 + 2 * c + 0)) + 5)))))) rfl ?_
    exact q_vret dX9_changeTrial_63 rfl ⟨rfl, rfl⟩
  · first | exact absurd (by decide) c12 | exact absurd c12 (by decide)
set_option maxRecDepth 100000 in
set_option maxHeartbeats 4000000 in
theorem l_X9_best_0 {g : G0} {h : G1} (hG : Gd g) (S0 : SS) {post : Option Value → (Nat → va_E) → Prop} {xp : String → (Nat → va_E) → Prop} (ft N : Nat) (tg : Nat → Nat) (ht : tgts (z_SV S0) N ft tg) (hp : ∀ S2, co S2 = co S0 → post (some (.int (bcR (ch0 (z_SV S0)) ft N tg N).1)) (mixW g S2)) : ∀ (n i : Nat) (S : SS), co S = co S0 → i + n = N → wp g h mX9_bestChange (mixW g S) [some (.ref 0), some (.int (0)), some (.int ((bcR (ch0 (z_SV S0)) ft N tg i).1)), some (.int ((bcR (ch0 (z_SV S0)) ft N tg i).2)), some (.int (nI i)), none] [] 0 (QQ g h mX9_bestChange post xp) 9 := by
  have t1 := ht.1
  have t2 := ht.2.1
  intro n
  induction n with
  | zero =>
    intro i S hco hq1
    obtain rfl : N = i := by omega
    have hs : z_SV S = z_SV S0 := co_SV hco
    refine q_iload dX9_bestChange_9 rfl ?_
    refine q_aload_n dX9_bestChange_11 rfl ?_
    refine q_get (j := 1) (v := .ref 3) dX9_bestChange_12 (Nat.le_of_ble_eq_true rfl) rfl rfl iuX9 (Nat.le_of_ble_eq_true rfl) uw_209 rfl rfl ?_
    refine q_callVv (ν := mX7_count) dX9_bestChange_15 uw_280 vX7_count (c_X7_count_3 hG S ) (Nat.le_of_ble_eq_true rfl) rfl rfl rfl rfl (Nat.le_of_ble_eq_true rfl) (Nat.le_of_ble_eq_true rfl) (Nat.le_of_ble_eq_true rfl) 0 (Nat.le_of_ble_eq_true rfl) ?_
    refine wp_top (y := nI N) (by rw [hs]; exact t1) ?_
    refine q_icmp_ge 89 dX9_bestChange_18 rfl (fun c18 => ?_) (fun c18 => ?_)
    · have n18 := (nI_leI (a := N) (b := N) (by omega) (by omega)).mp c18
      refine q_iload_n dX9_bestChange_89 rfl ?_
      exact q_iret dX9_bestChange_90 rfl (hp S hco)
    · have n18 := mt (nI_leI (a := N) (b := N) (by omega) (by omega)).mpr c18
      omega
  | succ n ih =>
    intro i S hco hq1
    have hs : z_SV S = z_SV S0 := co_SV hco
    refine q_iload dX9_bestChange_9 rfl ?_
    refine q_aload_n dX9_bestChange_11 rfl ?_
    refine q_get (j := 1) (v := .ref 3) dX9_bestChange_12 (Nat.le_of_ble_eq_true rfl) rfl rfl iuX9 (Nat.le_of_ble_eq_true rfl) uw_209 rfl rfl ?_
    refine q_callVv (ν := mX7_count) dX9_bestChange_15 uw_280 vX7_count (c_X7_count_3 hG S ) (Nat.le_of_ble_eq_true rfl) rfl rfl rfl rfl (Nat.le_of_ble_eq_true rfl) (Nat.le_of_ble_eq_true rfl) (Nat.le_of_ble_eq_true rfl) 0 (Nat.le_of_ble_eq_true rfl) ?_
    refine wp_top (y := nI N) (by rw [hs]; exact t1) ?_
    refine q_icmp_ge 89 dX9_bestChange_18 rfl (fun c18 => ?_) (fun c18 => ?_)
    · have n18 := (nI_leI (a := N) (b := i) (by omega) (by omega)).mp c18
      omega
    · have n18 := mt (nI_leI (a := N) (b := i) (by omega) (by omega)).mpr c18
      refine q_aload_n dX9_bestChange_21 rfl ?_
      refine q_iload dX9_bestChange_22 rfl ?_
      refine q_iload_n dX9_bestChange_24 rfl ?_
      refine q_callVu (ν := mX9_changeTrial) dX9_bestChange_25 uw_439 vX9_changeTrial (c_X9_changeTrial_0 hG S (i) (by omega)) (Nat.le_of_ble_eq_true rfl) rfl rfl rfl rfl (Nat.le_of_ble_eq_true rfl) (Nat.le_of_ble_eq_true rfl) (Nat.le_of_ble_eq_true rfl) 0 (Nat.le_of_ble_eq_true rfl) ?_
      refine wp_w (w2 := mixW g (s_TV S (upd (va_cpy (z_SV S) (z_TV S) 0 0 44) (4 + 2 * i + 0) (minI 100 ((z_SV S) (4 + 2 * i + 0) + 5))))) rfl ?_
      have hT : tgts (upd (va_cpy (z_SV S) (z_TV S) 0 0 44) (4 + 2 * i + 0) (minI 100 ((z_SV S) (4 + 2 * i + 0) + 5))) N ft tg := tgts_upd (tgts_cpy (by rw [hs]; exact ht)) (by omega) (by omega)
      have hf : ∀ j, j < 16 → (upd (va_cpy (z_SV S) (z_TV S) 0 0 44) (4 + 2 * i + 0) (minI 100 ((z_SV S) (4 + 2 * i + 0) + 5))) j = (ch0 (z_SV S0)) i j := by intro j hj; rw [hs]; exact ch0_at (by omega) (fun j hj => cpy_at (by omega)) j hj
      refine q_aload_n dX9_bestChange_28 rfl ?_
      refine q_get (j := 10) (v := .ref 23) dX9_bestChange_29 (Nat.le_of_ble_eq_true rfl) rfl rfl iuX9 (Nat.le_of_ble_eq_true rfl) uw_218 rfl rfl ?_
      refine q_aload_n dX9_bestChange_32 rfl ?_
      refine q_get (j := 2) (v := .ref 5) dX9_bestChange_33 (Nat.le_of_ble_eq_true rfl) rfl rfl iuX9 (Nat.le_of_ble_eq_true rfl) uw_210 rfl rfl ?_
      refine q_aload_n dX9_bestChange_36 rfl ?_
      refine q_get (j := 7) (v := .ref 15) dX9_bestChange_37 (Nat.le_of_ble_eq_true rfl) rfl rfl iuX9 (Nat.le_of_ble_eq_true rfl) uw_215 rfl rfl ?_
      refine q_callVu (ν := mX5_compute) dX9_bestChange_40 uw_326 vX5_compute (c_X5_compute_23_5 hG (s_TV S (upd (va_cpy (z_SV S) (z_TV S) 0 0 44) (4 + 2 * i + 0) (minI 100 ((z_SV S) (4 + 2 * i + 0) + 5)))) (ft) (N) (tg) hT) (Nat.le_of_ble_eq_true rfl) rfl rfl rfl rfl (Nat.le_of_ble_eq_true rfl) (Nat.le_of_ble_eq_true rfl) (Nat.le_of_ble_eq_true rfl) 0 (Nat.le_of_ble_eq_true rfl) ?_
      rw [sc_A3_TV, sc_A2_TV, sc_A1_TV, sc_A0_TV, sc_MI_TV, sc_EQ_TV, sc_BD_TV, sc_BN_TV]
      refine wp_w (w2 := mixW g (s_TV (s_BN (s_BD (s_EQ (s_MI (s_A0 (s_A1 (s_A2 (s_A3 S (svD (upd (va_cpy (z_SV S) (z_TV S) 0 0 44) (4 + 2 * i + 0) (minI 100 ((z_SV S) (4 + 2 * i + 0) + 5))) 1 N tg (svE (upd (va_cpy (z_SV S) (z_TV S) 0 0 44) (4 + 2 * i + 0) (minI 100 ((z_SV S) (4 + 2 * i + 0) + 5))) 0 8 ft N tg (z_EQ S)) (svM (upd (va_cpy (z_SV S) (z_TV S) 0 0 44) (4 + 2 * i + 0) (minI 100 ((z_SV S) (4 + 2 * i + 0) + 5))) 0 8 ft N tg (z_EQ S) (z_MI S)))) (svN (upd (va_cpy (z_SV S) (z_TV S) 0 0 44) (4 + 2 * i + 0) (minI 100 ((z_SV S) (4 + 2 * i + 0) + 5))) 1 8 ft N tg (svE (upd (va_cpy (z_SV S) (z_TV S) 0 0 44) (4 + 2 * i + 0) (minI 100 ((z_SV S) (4 + 2 * i + 0) + 5))) 0 8 ft N tg (z_EQ S)) (svM (upd (va_cpy (z_SV S) (z_TV S) 0 0 44) (4 + 2 * i + 0) (minI 100 ((z_SV S) (4 + 2 * i + 0) + 5))) 0 8 ft N tg (z_EQ S) (z_MI S)))) (svD (upd (va_cpy (z_SV S) (z_TV S) 0 0 44) (4 + 2 * i + 0) (minI 100 ((z_SV S) (4 + 2 * i + 0) + 5))) 0 N tg (z_EQ S) (z_MI S))) (svN (upd (va_cpy (z_SV S) (z_TV S) 0 0 44) (4 + 2 * i + 0) (minI 100 ((z_SV S) (4 + 2 * i + 0) + 5))) 0 8 ft N tg (z_EQ S) (z_MI S))) (svM (upd (va_cpy (z_SV S) (z_TV S) 0 0 44) (4 + 2 * i + 0) (minI 100 ((z_SV S) (4 + 2 * i + 0) + 5))) 1 8 ft N tg (svE (upd (va_cpy (z_SV S) (z_TV S) 0 0 44) (4 + 2 * i + 0) (minI 100 ((z_SV S) (4 + 2 * i + 0) + 5))) 0 8 ft N tg (z_EQ S)) (svM (upd (va_cpy (z_SV S) (z_TV S) 0 0 44) (4 + 2 * i + 0) (minI 100 ((z_SV S) (4 + 2 * i + 0) + 5))) 0 8 ft N tg (z_EQ S) (z_MI S)))) (svE (upd (va_cpy (z_SV S) (z_TV S) 0 0 44) (4 + 2 * i + 0) (minI 100 ((z_SV S) (4 + 2 * i + 0) + 5))) 1 8 ft N tg (svE (upd (va_cpy (z_SV S) (z_TV S) 0 0 44) (4 + 2 * i + 0) (minI 100 ((z_SV S) (4 + 2 * i + 0) + 5))) 0 8 ft N tg (z_EQ S)))) (svD (upd (va_cpy (z_SV S) (z_TV S) 0 0 44) (4 + 2 * i + 0) (minI 100 ((z_SV S) (4 + 2 * i + 0) + 5))) 1 N tg (svE (upd (va_cpy (z_SV S) (z_TV S) 0 0 44) (4 + 2 * i + 0) (minI 100 ((z_SV S) (4 + 2 * i + 0) + 5))) 0 8 ft N tg (z_EQ S)) (svM (upd (va_cpy (z_SV S) (z_TV S) 0 0 44) (4 + 2 * i + 0) (minI 100 ((z_SV S) (4 + 2 * i + 0) + 5))) 0 8 ft N tg (z_EQ S) (z_MI S)))) (svN (upd (va_cpy (z_SV S) (z_TV S) 0 0 44) (4 + 2 * i + 0) (minI 100 ((z_SV S) (4 + 2 * i + 0) + 5))) 1 8 ft N tg (svE (upd (va_cpy (z_SV S) (z_TV S) 0 0 44) (4 + 2 * i + 0) (minI 100 ((z_SV S) (4 + 2 * i + 0) + 5))) 0 8 ft N tg (z_EQ S)) (svM (upd (va_cpy (z_SV S) (z_TV S) 0 0 44) (4 + 2 * i + 0) (minI 100 ((z_SV S) (4 + 2 * i + 0) + 5))) 0 8 ft N tg (z_EQ S) (z_MI S)))) (upd (va_cpy (z_SV S) (z_TV S) 0 0 44) (4 + 2 * i + 0) (minI 100 ((z_SV S) (4 + 2 * i + 0) + 5))))) rfl ?_
      refine q_aload_n dX9_bestChange_43 rfl ?_
      refine q_get (j := 10) (v := .ref 23) dX9_bestChange_44 (Nat.le_of_ble_eq_true rfl) rfl rfl iuX9 (Nat.le_of_ble_eq_true rfl) uw_218 rfl rfl ?_
      refine q_callVv (ν := mX5_exist) dX9_bestChange_47 uw_393 vX5_exist (c_X5_exist hG (s_TV (s_BN (s_BD (s_EQ (s_MI (s_A0 (s_A1 (s_A2 (s_A3 S (svD (upd (va_cpy (z_SV S) (z_TV S) 0 0 44) (4 + 2 * i + 0) (minI 100 ((z_SV S) (4 + 2 * i + 0) + 5))) 1 N tg (svE (upd (va_cpy (z_SV S) (z_TV S) 0 0 44) (4 + 2 * i + 0) (minI 100 ((z_SV S) (4 + 2 * i + 0) + 5))) 0 8 ft N tg (z_EQ S)) (svM (upd (va_cpy (z_SV S) (z_TV S) 0 0 44) (4 + 2 * i + 0) (minI 100 ((z_SV S) (4 + 2 * i + 0) + 5))) 0 8 ft N tg (z_EQ S) (z_MI S)))) (svN (upd (va_cpy (z_SV S) (z_TV S) 0 0 44) (4 + 2 * i + 0) (minI 100 ((z_SV S) (4 + 2 * i + 0) + 5))) 1 8 ft N tg (svE (upd (va_cpy (z_SV S) (z_TV S) 0 0 44) (4 + 2 * i + 0) (minI 100 ((z_SV S) (4 + 2 * i + 0) + 5))) 0 8 ft N tg (z_EQ S)) (svM (upd (va_cpy (z_SV S) (z_TV S) 0 0 44) (4 + 2 * i + 0) (minI 100 ((z_SV S) (4 + 2 * i + 0) + 5))) 0 8 ft N tg (z_EQ S) (z_MI S)))) (svD (upd (va_cpy (z_SV S) (z_TV S) 0 0 44) (4 + 2 * i + 0) (minI 100 ((z_SV S) (4 + 2 * i + 0) + 5))) 0 N tg (z_EQ S) (z_MI S))) (svN (upd (va_cpy (z_SV S) (z_TV S) 0 0 44) (4 + 2 * i + 0) (minI 100 ((z_SV S) (4 + 2 * i + 0) + 5))) 0 8 ft N tg (z_EQ S) (z_MI S))) (svM (upd (va_cpy (z_SV S) (z_TV S) 0 0 44) (4 + 2 * i + 0) (minI 100 ((z_SV S) (4 + 2 * i + 0) + 5))) 1 8 ft N tg (svE (upd (va_cpy (z_SV S) (z_TV S) 0 0 44) (4 + 2 * i + 0) (minI 100 ((z_SV S) (4 + 2 * i + 0) + 5))) 0 8 ft N tg (z_EQ S)) (svM (upd (va_cpy (z_SV S) (z_TV S) 0 0 44) (4 + 2 * i + 0) (minI 100 ((z_SV S) (4 + 2 * i + 0) + 5))) 0 8 ft N tg (z_EQ S) (z_MI S)))) (svE (upd (va_cpy (z_SV S) (z_TV S) 0 0 44) (4 + 2 * i + 0) (minI 100 ((z_SV S) (4 + 2 * i + 0) + 5))) 1 8 ft N tg (svE (upd (va_cpy (z_SV S) (z_TV S) 0 0 44) (4 + 2 * i + 0) (minI 100 ((z_SV S) (4 + 2 * i + 0) + 5))) 0 8 ft N tg (z_EQ S)))) (svD (upd (va_cpy (z_SV S) (z_TV S) 0 0 44) (4 + 2 * i + 0) (minI 100 ((z_SV S) (4 + 2 * i + 0) + 5))) 1 N tg (svE (upd (va_cpy (z_SV S) (z_TV S) 0 0 44) (4 + 2 * i + 0) (minI 100 ((z_SV S) (4 + 2 * i + 0) + 5))) 0 8 ft N tg (z_EQ S)) (svM (upd (va_cpy (z_SV S) (z_TV S) 0 0 44) (4 + 2 * i + 0) (minI 100 ((z_SV S) (4 + 2 * i + 0) + 5))) 0 8 ft N tg (z_EQ S) (z_MI S)))) (svN (upd (va_cpy (z_SV S) (z_TV S) 0 0 44) (4 + 2 * i + 0) (minI 100 ((z_SV S) (4 + 2 * i + 0) + 5))) 1 8 ft N tg (svE (upd (va_cpy (z_SV S) (z_TV S) 0 0 44) (4 + 2 * i + 0) (minI 100 ((z_SV S) (4 + 2 * i + 0) + 5))) 0 8 ft N tg (z_EQ S)) (svM (upd (va_cpy (z_SV S) (z_TV S) 0 0 44) (4 + 2 * i + 0) (minI 100 ((z_SV S) (4 + 2 * i + 0) + 5))) 0 8 ft N tg (z_EQ S) (z_MI S)))) (upd (va_cpy (z_SV S) (z_TV S) 0 0 44) (4 + 2 * i + 0) (minI 100 ((z_SV S) (4 + 2 * i + 0) + 5)))) ) (Nat.le_of_ble_eq_true rfl) rfl rfl rfl rfl (Nat.le_of_ble_eq_true rfl) (Nat.le_of_ble_eq_true rfl) (Nat.le_of_ble_eq_true rfl) 0 (Nat.le_of_ble_eq_true rfl) ?_
      refine wp_eq (st2 := .int ((pI (0 < (svD (upd (va_cpy (z_SV S) (z_TV S) 0 0 44) (4 + 2 * i + 0) (minI 100 ((z_SV S) (4 + 2 * i + 0) + 5))) 0 N tg (z_EQ S) (z_MI S)) ∧ 0 < (svD (upd (va_cpy (z_SV S) (z_TV S) 0 0 44) (4 + 2 * i + 0) (minI 100 ((z_SV S) (4 + 2 * i + 0) + 5))) 1 N tg (svE (upd (va_cpy (z_SV S) (z_TV S) 0 0 44) (4 + 2 * i + 0) (minI 100 ((z_SV S) (4 + 2 * i + 0) + 5))) 0 8 ft N tg (z_EQ S)) (svM (upd (va_cpy (z_SV S) (z_TV S) 0 0 44) (4 + 2 * i + 0) (minI 100 ((z_SV S) (4 + 2 * i + 0) + 5))) 0 8 ft N tg (z_EQ S) (z_MI S)))))) :: _) rfl ?_
      refine wp_top (y := pI (0 < DD ((ch0 (z_SV S0)) i) 0 N tg ∧ 0 < DD ((ch0 (z_SV S0)) i) 1 N tg)) (by rw [svD_eq t2 (by omega) hf, svD_eq t2 (by omega) hf]) ?_
      refine q_if_eq 67 dX9_bestChange_50 rfl (fun c50 => ?_) (fun c50 => ?_)
      · refine q_bipush (v := (-9)) dX9_bestChange_67 rfl ?_
        refine wp_top (y := rchF ((ch0 (z_SV S0)) i) ft N tg) (by rw [rchF, if_neg (by rw [pI_f (pI_0 c50)]; decide)]) ?_
        refine q_ist5 dX9_bestChange_69 (Nat.le_of_ble_eq_true rfl) rfl ?_
        refine q_iload dX9_bestChange_71 rfl ?_
        refine q_iload_n dX9_bestChange_73 rfl ?_
        refine q_icmp_le 83 dX9_bestChange_74 rfl (fun c74 => ?_) (fun c74 => ?_)
        · refine q_iinc4 (k9 := 1) dX9_bestChange_83 rfl (Nat.le_of_ble_eq_true rfl) rfl ?_
          refine wp_L (L2 := [some (.ref 0), some (.int (0)), some (.int ((bcR (ch0 (z_SV S0)) ft N tg i).1)), some (.int ((bcR (ch0 (z_SV S0)) ft N tg i).2)), some (.int (nI (i + 1))), some (.int (rchF ((ch0 (z_SV S0)) i) ft N tg))]) (by rw [show nI i + 1 = nI (i + 1) from nI_1 _]) ?_
          refine q_goto 9 dX9_bestChange_86 rfl ?_
          refine wp_fg (L2 := [some (.ref 0), some (.int (0)), some (.int ((bcR (ch0 (z_SV S0)) ft N tg i).1)), some (.int ((bcR (ch0 (z_SV S0)) ft N tg i).2)), some (.int (nI (i + 1))), none]) ⟨rfl, rfl, rfl, rfl, rfl, trivial⟩ ?_
          refine wp_L (L2 := [some (.ref 0), some (.int (0)), some (.int ((bcR (ch0 (z_SV S0)) ft N tg (i + 1)).1)), some (.int ((bcR (ch0 (z_SV S0)) ft N tg (i + 1)).2)), some (.int (nI (i + 1))), none]) (by simp only [bcR]; rw [if_pos c74]) ?_
          exact ih (i + 1) (s_TV (s_BN (s_BD (s_EQ (s_MI (s_A0 (s_A1 (s_A2 (s_A3 S (svD (upd (va_cpy (z_SV S) (z_TV S) 0 0 44) (4 + 2 * i + 0) (minI 100 ((z_SV S) (4 + 2 * i + 0) + 5))) 1 N tg (svE (upd (va_cpy (z_SV S) (z_TV S) 0 0 44) (4 + 2 * i + 0) (minI 100 ((z_SV S) (4 + 2 * i + 0) + 5))) 0 8 ft N tg (z_EQ S)) (svM (upd (va_cpy (z_SV S) (z_TV S) 0 0 44) (4 + 2 * i + 0) (minI 100 ((z_SV S) (4 + 2 * i + 0) + 5))) 0 8 ft N tg (z_EQ S) (z_MI S)))) (svN (upd (va_cpy (z_SV S) (z_TV S) 0 0 44) (4 + 2 * i + 0) (minI 100 ((z_SV S) (4 + 2 * i + 0) + 5))) 1 8 ft N tg (svE (upd (va_cpy (z_SV S) (z_TV S) 0 0 44) (4 + 2 * i + 0) (minI 100 ((z_SV S) (4 + 2 * i + 0) + 5))) 0 8 ft N tg (z_EQ S)) (svM (upd (va_cpy (z_SV S) (z_TV S) 0 0 44) (4 + 2 * i + 0) (minI 100 ((z_SV S) (4 + 2 * i + 0) + 5))) 0 8 ft N tg (z_EQ S) (z_MI S)))) (svD (upd (va_cpy (z_SV S) (z_TV S) 0 0 44) (4 + 2 * i + 0) (minI 100 ((z_SV S) (4 + 2 * i + 0) + 5))) 0 N tg (z_EQ S) (z_MI S))) (svN (upd (va_cpy (z_SV S) (z_TV S) 0 0 44) (4 + 2 * i + 0) (minI 100 ((z_SV S) (4 + 2 * i + 0) + 5))) 0 8 ft N tg (z_EQ S) (z_MI S))) (svM (upd (va_cpy (z_SV S) (z_TV S) 0 0 44) (4 + 2 * i + 0) (minI 100 ((z_SV S) (4 + 2 * i + 0) + 5))) 1 8 ft N tg (svE (upd (va_cpy (z_SV S) (z_TV S) 0 0 44) (4 + 2 * i + 0) (minI 100 ((z_SV S) (4 + 2 * i + 0) + 5))) 0 8 ft N tg (z_EQ S)) (svM (upd (va_cpy (z_SV S) (z_TV S) 0 0 44) (4 + 2 * i + 0) (minI 100 ((z_SV S) (4 + 2 * i + 0) + 5))) 0 8 ft N tg (z_EQ S) (z_MI S)))) (svE (upd (va_cpy (z_SV S) (z_TV S) 0 0 44) (4 + 2 * i + 0) (minI 100 ((z_SV S) (4 + 2 * i + 0) + 5))) 1 8 ft N tg (svE (upd (va_cpy (z_SV S) (z_TV S) 0 0 44) (4 + 2 * i + 0) (minI 100 ((z_SV S) (4 + 2 * i + 0) + 5))) 0 8 ft N tg (z_EQ S)))) (svD (upd (va_cpy (z_SV S) (z_TV S) 0 0 44) (4 + 2 * i + 0) (minI 100 ((z_SV S) (4 + 2 * i + 0) + 5))) 1 N tg (svE (upd (va_cpy (z_SV S) (z_TV S) 0 0 44) (4 + 2 * i + 0) (minI 100 ((z_SV S) (4 + 2 * i + 0) + 5))) 0 8 ft N tg (z_EQ S)) (svM (upd (va_cpy (z_SV S) (z_TV S) 0 0 44) (4 + 2 * i + 0) (minI 100 ((z_SV S) (4 + 2 * i + 0) + 5))) 0 8 ft N tg (z_EQ S) (z_MI S)))) (svN (upd (va_cpy (z_SV S) (z_TV S) 0 0 44) (4 + 2 * i + 0) (minI 100 ((z_SV S) (4 + 2 * i + 0) + 5))) 1 8 ft N tg (svE (upd (va_cpy (z_SV S) (z_TV S) 0 0 44) (4 + 2 * i + 0) (minI 100 ((z_SV S) (4 + 2 * i + 0) + 5))) 0 8 ft N tg (z_EQ S)) (svM (upd (va_cpy (z_SV S) (z_TV S) 0 0 44) (4 + 2 * i + 0) (minI 100 ((z_SV S) (4 + 2 * i + 0) + 5))) 0 8 ft N tg (z_EQ S) (z_MI S)))) (upd (va_cpy (z_SV S) (z_TV S) 0 0 44) (4 + 2 * i + 0) (minI 100 ((z_SV S) (4 + 2 * i + 0) + 5)))) (by rw [co_TV, co_BN, co_BD, co_EQ, co_MI, co_A0, co_A1, co_A2, co_A3]; exact hco) (by omega)
        · refine q_iload dX9_bestChange_77 rfl ?_
          refine q_ist3 dX9_bestChange_79 (Nat.le_of_ble_eq_true rfl) rfl ?_
          refine q_iload dX9_bestChange_80 rfl ?_
          refine q_ist2 dX9_bestChange_82 (Nat.le_of_ble_eq_true rfl) rfl ?_
          refine q_iinc4 (k9 := 1) dX9_bestChange_83 rfl (Nat.le_of_ble_eq_true rfl) rfl ?_
          refine wp_L (L2 := [some (.ref 0), some (.int (0)), some (.int (nI i)), some (.int (rchF ((ch0 (z_SV S0)) i) ft N tg)), some (.int (nI (i + 1))), some (.int (rchF ((ch0 (z_SV S0)) i) ft N tg))]) (by rw [show nI i + 1 = nI (i + 1) from nI_1 _]) ?_
          refine q_goto 9 dX9_bestChange_86 rfl ?_
          refine wp_fg (L2 := [some (.ref 0), some (.int (0)), some (.int (nI i)), some (.int (rchF ((ch0 (z_SV S0)) i) ft N tg)), some (.int (nI (i + 1))), none]) ⟨rfl, rfl, rfl, rfl, rfl, trivial⟩ ?_
          refine wp_L (L2 := [some (.ref 0), some (.int (0)), some (.int ((bcR (ch0 (z_SV S0)) ft N tg (i + 1)).1)), some (.int ((bcR (ch0 (z_SV S0)) ft N tg (i + 1)).2)), some (.int (nI (i + 1))), none]) (by simp only [bcR]; rw [if_neg c74]) ?_
          exact ih (i + 1) (s_TV (s_BN (s_BD (s_EQ (s_MI (s_A0 (s_A1 (s_A2 (s_A3 S (svD (upd (va_cpy (z_SV S) (z_TV S) 0 0 44) (4 + 2 * i + 0) (minI 100 ((z_SV S) (4 + 2 * i + 0) + 5))) 1 N tg (svE (upd (va_cpy (z_SV S) (z_TV S) 0 0 44) (4 + 2 * i + 0) (minI 100 ((z_SV S) (4 + 2 * i + 0) + 5))) 0 8 ft N tg (z_EQ S)) (svM (upd (va_cpy (z_SV S) (z_TV S) 0 0 44) (4 + 2 * i + 0) (minI 100 ((z_SV S) (4 + 2 * i + 0) + 5))) 0 8 ft N tg (z_EQ S) (z_MI S)))) (svN (upd (va_cpy (z_SV S) (z_TV S) 0 0 44) (4 + 2 * i + 0) (minI 100 ((z_SV S) (4 + 2 * i + 0) + 5))) 1 8 ft N tg (svE (upd (va_cpy (z_SV S) (z_TV S) 0 0 44) (4 + 2 * i + 0) (minI 100 ((z_SV S) (4 + 2 * i + 0) + 5))) 0 8 ft N tg (z_EQ S)) (svM (upd (va_cpy (z_SV S) (z_TV S) 0 0 44) (4 + 2 * i + 0) (minI 100 ((z_SV S) (4 + 2 * i + 0) + 5))) 0 8 ft N tg (z_EQ S) (z_MI S)))) (svD (upd (va_cpy (z_SV S) (z_TV S) 0 0 44) (4 + 2 * i + 0) (minI 100 ((z_SV S) (4 + 2 * i + 0) + 5))) 0 N tg (z_EQ S) (z_MI S))) (svN (upd (va_cpy (z_SV S) (z_TV S) 0 0 44) (4 + 2 * i + 0) (minI 100 ((z_SV S) (4 + 2 * i + 0) + 5))) 0 8 ft N tg (z_EQ S) (z_MI S))) (svM (upd (va_cpy (z_SV S) (z_TV S) 0 0 44) (4 + 2 * i + 0) (minI 100 ((z_SV S) (4 + 2 * i + 0) + 5))) 1 8 ft N tg (svE (upd (va_cpy (z_SV S) (z_TV S) 0 0 44) (4 + 2 * i + 0) (minI 100 ((z_SV S) (4 + 2 * i + 0) + 5))) 0 8 ft N tg (z_EQ S)) (svM (upd (va_cpy (z_SV S) (z_TV S) 0 0 44) (4 + 2 * i + 0) (minI 100 ((z_SV S) (4 + 2 * i + 0) + 5))) 0 8 ft N tg (z_EQ S) (z_MI S)))) (svE (upd (va_cpy (z_SV S) (z_TV S) 0 0 44) (4 + 2 * i + 0) (minI 100 ((z_SV S) (4 + 2 * i + 0) + 5))) 1 8 ft N tg (svE (upd (va_cpy (z_SV S) (z_TV S) 0 0 44) (4 + 2 * i + 0) (minI 100 ((z_SV S) (4 + 2 * i + 0) + 5))) 0 8 ft N tg (z_EQ S)))) (svD (upd (va_cpy (z_SV S) (z_TV S) 0 0 44) (4 + 2 * i + 0) (minI 100 ((z_SV S) (4 + 2 * i + 0) + 5))) 1 N tg (svE (upd (va_cpy (z_SV S) (z_TV S) 0 0 44) (4 + 2 * i + 0) (minI 100 ((z_SV S) (4 + 2 * i + 0) + 5))) 0 8 ft N tg (z_EQ S)) (svM (upd (va_cpy (z_SV S) (z_TV S) 0 0 44) (4 + 2 * i + 0) (minI 100 ((z_SV S) (4 + 2 * i + 0) + 5))) 0 8 ft N tg (z_EQ S) (z_MI S)))) (svN (upd (va_cpy (z_SV S) (z_TV S) 0 0 44) (4 + 2 * i + 0) (minI 100 ((z_SV S) (4 + 2 * i + 0) + 5))) 1 8 ft N tg (svE (upd (va_cpy (z_SV S) (z_TV S) 0 0 44) (4 + 2 * i + 0) (minI 100 ((z_SV S) (4 + 2 * i + 0) + 5))) 0 8 ft N tg (z_EQ S)) (svM (upd (va_cpy (z_SV S) (z_TV S) 0 0 44) (4 + 2 * i + 0) (minI 100 ((z_SV S) (4 + 2 * i + 0) + 5))) 0 8 ft N tg (z_EQ S) (z_MI S)))) (upd (va_cpy (z_SV S) (z_TV S) 0 0 44) (4 + 2 * i + 0) (minI 100 ((z_SV S) (4 + 2 * i + 0) + 5)))) (by rw [co_TV, co_BN, co_BD, co_EQ, co_MI, co_A0, co_A1, co_A2, co_A3]; exact hco) (by omega)
      · refine q_aload_n dX9_bestChange_53 rfl ?_
        refine q_get (j := 10) (v := .ref 23) dX9_bestChange_54 (Nat.le_of_ble_eq_true rfl) rfl rfl iuX9 (Nat.le_of_ble_eq_true rfl) uw_218 rfl rfl ?_
        refine q_aload_n dX9_bestChange_57 rfl ?_
        refine q_get (j := 2) (v := .ref 5) dX9_bestChange_58 (Nat.le_of_ble_eq_true rfl) rfl rfl iuX9 (Nat.le_of_ble_eq_true rfl) uw_210 rfl rfl ?_
        refine q_callVv (ν := mX5_recoveryPerMille) dX9_bestChange_61 uw_454 vX5_recoveryPerMille (c_X5_rec_5 hG (s_TV (s_BN (s_BD (s_EQ (s_MI (s_A0 (s_A1 (s_A2 (s_A3 S (svD (upd (va_cpy (z_SV S) (z_TV S) 0 0 44) (4 + 2 * i + 0) (minI 100 ((z_SV S) (4 + 2 * i + 0) + 5))) 1 N tg (svE (upd (va_cpy (z_SV S) (z_TV S) 0 0 44) (4 + 2 * i + 0) (minI 100 ((z_SV S) (4 + 2 * i + 0) + 5))) 0 8 ft N tg (z_EQ S)) (svM (upd (va_cpy (z_SV S) (z_TV S) 0 0 44) (4 + 2 * i + 0) (minI 100 ((z_SV S) (4 + 2 * i + 0) + 5))) 0 8 ft N tg (z_EQ S) (z_MI S)))) (svN (upd (va_cpy (z_SV S) (z_TV S) 0 0 44) (4 + 2 * i + 0) (minI 100 ((z_SV S) (4 + 2 * i + 0) + 5))) 1 8 ft N tg (svE (upd (va_cpy (z_SV S) (z_TV S) 0 0 44) (4 + 2 * i + 0) (minI 100 ((z_SV S) (4 + 2 * i + 0) + 5))) 0 8 ft N tg (z_EQ S)) (svM (upd (va_cpy (z_SV S) (z_TV S) 0 0 44) (4 + 2 * i + 0) (minI 100 ((z_SV S) (4 + 2 * i + 0) + 5))) 0 8 ft N tg (z_EQ S) (z_MI S)))) (svD (upd (va_cpy (z_SV S) (z_TV S) 0 0 44) (4 + 2 * i + 0) (minI 100 ((z_SV S) (4 + 2 * i + 0) + 5))) 0 N tg (z_EQ S) (z_MI S))) (svN (upd (va_cpy (z_SV S) (z_TV S) 0 0 44) (4 + 2 * i + 0) (minI 100 ((z_SV S) (4 + 2 * i + 0) + 5))) 0 8 ft N tg (z_EQ S) (z_MI S))) (svM (upd (va_cpy (z_SV S) (z_TV S) 0 0 44) (4 + 2 * i + 0) (minI 100 ((z_SV S) (4 + 2 * i + 0) + 5))) 1 8 ft N tg (svE (upd (va_cpy (z_SV S) (z_TV S) 0 0 44) (4 + 2 * i + 0) (minI 100 ((z_SV S) (4 + 2 * i + 0) + 5))) 0 8 ft N tg (z_EQ S)) (svM (upd (va_cpy (z_SV S) (z_TV S) 0 0 44) (4 + 2 * i + 0) (minI 100 ((z_SV S) (4 + 2 * i + 0) + 5))) 0 8 ft N tg (z_EQ S) (z_MI S)))) (svE (upd (va_cpy (z_SV S) (z_TV S) 0 0 44) (4 + 2 * i + 0) (minI 100 ((z_SV S) (4 + 2 * i + 0) + 5))) 1 8 ft N tg (svE (upd (va_cpy (z_SV S) (z_TV S) 0 0 44) (4 + 2 * i + 0) (minI 100 ((z_SV S) (4 + 2 * i + 0) + 5))) 0 8 ft N tg (z_EQ S)))) (svD (upd (va_cpy (z_SV S) (z_TV S) 0 0 44) (4 + 2 * i + 0) (minI 100 ((z_SV S) (4 + 2 * i + 0) + 5))) 1 N tg (svE (upd (va_cpy (z_SV S) (z_TV S) 0 0 44) (4 + 2 * i + 0) (minI 100 ((z_SV S) (4 + 2 * i + 0) + 5))) 0 8 ft N tg (z_EQ S)) (svM (upd (va_cpy (z_SV S) (z_TV S) 0 0 44) (4 + 2 * i + 0) (minI 100 ((z_SV S) (4 + 2 * i + 0) + 5))) 0 8 ft N tg (z_EQ S) (z_MI S)))) (svN (upd (va_cpy (z_SV S) (z_TV S) 0 0 44) (4 + 2 * i + 0) (minI 100 ((z_SV S) (4 + 2 * i + 0) + 5))) 1 8 ft N tg (svE (upd (va_cpy (z_SV S) (z_TV S) 0 0 44) (4 + 2 * i + 0) (minI 100 ((z_SV S) (4 + 2 * i + 0) + 5))) 0 8 ft N tg (z_EQ S)) (svM (upd (va_cpy (z_SV S) (z_TV S) 0 0 44) (4 + 2 * i + 0) (minI 100 ((z_SV S) (4 + 2 * i + 0) + 5))) 0 8 ft N tg (z_EQ S) (z_MI S)))) (upd (va_cpy (z_SV S) (z_TV S) 0 0 44) (4 + 2 * i + 0) (minI 100 ((z_SV S) (4 + 2 * i + 0) + 5)))) ) (Nat.le_of_ble_eq_true rfl) rfl rfl rfl rfl (Nat.le_of_ble_eq_true rfl) (Nat.le_of_ble_eq_true rfl) (Nat.le_of_ble_eq_true rfl) 0 (Nat.le_of_ble_eq_true rfl) ?_
        refine wp_eq (st2 := .int ((recF ((upd (va_cpy (z_SV S) (z_TV S) 0 0 44) (4 + 2 * i + 0) (minI 100 ((z_SV S) (4 + 2 * i + 0) + 5))) (2 + 0)) (svN (upd (va_cpy (z_SV S) (z_TV S) 0 0 44) (4 + 2 * i + 0) (minI 100 ((z_SV S) (4 + 2 * i + 0) + 5))) 0 8 ft N tg (z_EQ S) (z_MI S)) (svD (upd (va_cpy (z_SV S) (z_TV S) 0 0 44) (4 + 2 * i + 0) (minI 100 ((z_SV S) (4 + 2 * i + 0) + 5))) 0 N tg (z_EQ S) (z_MI S)))) :: _) rfl ?_
        refine wp_top (y := rchF ((ch0 (z_SV S0)) i) ft N tg) (by rw [svD_eq t2 (by omega) hf, svN_eq t2 (by omega) hf, rchF, if_pos (pI_t (pI_1 c50)), hf (2 + 0) (by omega)]) ?_
        refine q_goto 69 dX9_bestChange_64 rfl ?_
        refine q_ist5 dX9_bestChange_69 (Nat.le_of_ble_eq_true rfl) rfl ?_
        refine q_iload dX9_bestChange_71 rfl ?_
        refine q_iload_n dX9_bestChange_73 rfl ?_
        refine q_icmp_le 83 dX9_bestChange_74 rfl (fun c74 => ?_) (fun c74 => ?_)
        · refine q_iinc4 (k9 := 1) dX9_bestChange_83 rfl (Nat.le_of_ble_eq_true rfl) rfl ?_
          refine wp_L (L2 := [some (.ref 0), some (.int (0)), some (.int ((bcR (ch0 (z_SV S0)) ft N tg i).1)), some (.int ((bcR (ch0 (z_SV S0)) ft N tg i).2)), some (.int (nI (i + 1))), some (.int (rchF ((ch0 (z_SV S0)) i) ft N tg))]) (by rw [show nI i + 1 = nI (i + 1) from nI_1 _]) ?_
          refine q_goto 9 dX9_bestChange_86 rfl ?_
          refine wp_fg (L2 := [some (.ref 0), some (.int (0)), some (.int ((bcR (ch0 (z_SV S0)) ft N tg i).1)), some (.int ((bcR (ch0 (z_SV S0)) ft N tg i).2)), some (.int (nI (i + 1))), none]) ⟨rfl, rfl, rfl, rfl, rfl, trivial⟩ ?_
          refine wp_L (L2 := [some (.ref 0), some (.int (0)), some (.int ((bcR (ch0 (z_SV S0)) ft N tg (i + 1)).1)), some (.int ((bcR (ch0 (z_SV S0)) ft N tg (i + 1)).2)), some (.int (nI (i + 1))), none]) (by simp only [bcR]; rw [if_pos c74]) ?_
          exact ih (i + 1) (s_TV (s_BN (s_BD (s_EQ (s_MI (s_A0 (s_A1 (s_A2 (s_A3 S (svD (upd (va_cpy (z_SV S) (z_TV S) 0 0 44) (4 + 2 * i + 0) (minI 100 ((z_SV S) (4 + 2 * i + 0) + 5))) 1 N tg (svE (upd (va_cpy (z_SV S) (z_TV S) 0 0 44) (4 + 2 * i + 0) (minI 100 ((z_SV S) (4 + 2 * i + 0) + 5))) 0 8 ft N tg (z_EQ S)) (svM (upd (va_cpy (z_SV S) (z_TV S) 0 0 44) (4 + 2 * i + 0) (minI 100 ((z_SV S) (4 + 2 * i + 0) + 5))) 0 8 ft N tg (z_EQ S) (z_MI S)))) (svN (upd (va_cpy (z_SV S) (z_TV S) 0 0 44) (4 + 2 * i + 0) (minI 100 ((z_SV S) (4 + 2 * i + 0) + 5))) 1 8 ft N tg (svE (upd (va_cpy (z_SV S) (z_TV S) 0 0 44) (4 + 2 * i + 0) (minI 100 ((z_SV S) (4 + 2 * i + 0) + 5))) 0 8 ft N tg (z_EQ S)) (svM (upd (va_cpy (z_SV S) (z_TV S) 0 0 44) (4 + 2 * i + 0) (minI 100 ((z_SV S) (4 + 2 * i + 0) + 5))) 0 8 ft N tg (z_EQ S) (z_MI S)))) (svD (upd (va_cpy (z_SV S) (z_TV S) 0 0 44) (4 + 2 * i + 0) (minI 100 ((z_SV S) (4 + 2 * i + 0) + 5))) 0 N tg (z_EQ S) (z_MI S))) (svN (upd (va_cpy (z_SV S) (z_TV S) 0 0 44) (4 + 2 * i + 0) (minI 100 ((z_SV S) (4 + 2 * i + 0) + 5))) 0 8 ft N tg (z_EQ S) (z_MI S))) (svM (upd (va_cpy (z_SV S) (z_TV S) 0 0 44) (4 + 2 * i + 0) (minI 100 ((z_SV S) (4 + 2 * i + 0) + 5))) 1 8 ft N tg (svE (upd (va_cpy (z_SV S) (z_TV S) 0 0 44) (4 + 2 * i + 0) (minI 100 ((z_SV S) (4 + 2 * i + 0) + 5))) 0 8 ft N tg (z_EQ S)) (svM (upd (va_cpy (z_SV S) (z_TV S) 0 0 44) (4 + 2 * i + 0) (minI 100 ((z_SV S) (4 + 2 * i + 0) + 5))) 0 8 ft N tg (z_EQ S) (z_MI S)))) (svE (upd (va_cpy (z_SV S) (z_TV S) 0 0 44) (4 + 2 * i + 0) (minI 100 ((z_SV S) (4 + 2 * i + 0) + 5))) 1 8 ft N tg (svE (upd (va_cpy (z_SV S) (z_TV S) 0 0 44) (4 + 2 * i + 0) (minI 100 ((z_SV S) (4 + 2 * i + 0) + 5))) 0 8 ft N tg (z_EQ S)))) (svD (upd (va_cpy (z_SV S) (z_TV S) 0 0 44) (4 + 2 * i + 0) (minI 100 ((z_SV S) (4 + 2 * i + 0) + 5))) 1 N tg (svE (upd (va_cpy (z_SV S) (z_TV S) 0 0 44) (4 + 2 * i + 0) (minI 100 ((z_SV S) (4 + 2 * i + 0) + 5))) 0 8 ft N tg (z_EQ S)) (svM (upd (va_cpy (z_SV S) (z_TV S) 0 0 44) (4 + 2 * i + 0) (minI 100 ((z_SV S) (4 + 2 * i + 0) + 5))) 0 8 ft N tg (z_EQ S) (z_MI S)))) (svN (upd (va_cpy (z_SV S) (z_TV S) 0 0 44) (4 + 2 * i + 0) (minI 100 ((z_SV S) (4 + 2 * i + 0) + 5))) 1 8 ft N tg (svE (upd (va_cpy (z_SV S) (z_TV S) 0 0 44) (4 + 2 * i + 0) (minI 100 ((z_SV S) (4 + 2 * i + 0) + 5))) 0 8 ft N tg (z_EQ S)) (svM (upd (va_cpy (z_SV S) (z_TV S) 0 0 44) (4 + 2 * i + 0) (minI 100 ((z_SV S) (4 + 2 * i + 0) + 5))) 0 8 ft N tg (z_EQ S) (z_MI S)))) (upd (va_cpy (z_SV S) (z_TV S) 0 0 44) (4 + 2 * i + 0) (minI 100 ((z_SV S) (4 + 2 * i + 0) + 5)))) (by rw [co_TV, co_BN, co_BD, co_EQ, co_MI, co_A0, co_A1, co_A2, co_A3]; exact hco) (by omega)
        · refine q_iload dX9_bestChange_77 rfl ?_
          refine q_ist3 dX9_bestChange_79 (Nat.le_of_ble_eq_true rfl) rfl ?_
          refine q_iload dX9_bestChange_80 rfl ?_
          refine q_ist2 dX9_bestChange_82 (Nat.le_of_ble_eq_true rfl) rfl ?_
          refine q_iinc4 (k9 := 1) dX9_bestChange_83 rfl (Nat.le_of_ble_eq_true rfl) rfl ?_
          refine wp_L (L2 := [some (.ref 0), some (.int (0)), some (.int (nI i)), some (.int (rchF ((ch0 (z_SV S0)) i) ft N tg)), some (.int (nI (i + 1))), some (.int (rchF ((ch0 (z_SV S0)) i) ft N tg))]) (by rw [show nI i + 1 = nI (i + 1) from nI_1 _]) ?_
          refine q_goto 9 dX9_bestChange_86 rfl ?_
          refine wp_fg (L2 := [some (.ref 0), some (.int (0)), some (.int (nI i)), some (.int (rchF ((ch0 (z_SV S0)) i) ft N tg)), some (.int (nI (i + 1))), none]) ⟨rfl, rfl, rfl, rfl, rfl, trivial⟩ ?_
          refine wp_L (L2 := [some (.ref 0), some (.int (0)), some (.int ((bcR (ch0 (z_SV S0)) ft N tg (i + 1)).1)), some (.int ((bcR (ch0 (z_SV S0)) ft N tg (i + 1)).2)), some (.int (nI (i + 1))), none]) (by simp only [bcR]; rw [if_neg c74]) ?_
          exact ih (i + 1) (s_TV (s_BN (s_BD (s_EQ (s_MI (s_A0 (s_A1 (s_A2 (s_A3 S (svD (upd (va_cpy (z_SV S) (z_TV S) 0 0 44) (4 + 2 * i + 0) (minI 100 ((z_SV S) (4 + 2 * i + 0) + 5))) 1 N tg (svE (upd (va_cpy (z_SV S) (z_TV S) 0 0 44) (4 + 2 * i + 0) (minI 100 ((z_SV S) (4 + 2 * i + 0) + 5))) 0 8 ft N tg (z_EQ S)) (svM (upd (va_cpy (z_SV S) (z_TV S) 0 0 44) (4 + 2 * i + 0) (minI 100 ((z_SV S) (4 + 2 * i + 0) + 5))) 0 8 ft N tg (z_EQ S) (z_MI S)))) (svN (upd (va_cpy (z_SV S) (z_TV S) 0 0 44) (4 + 2 * i + 0) (minI 100 ((z_SV S) (4 + 2 * i + 0) + 5))) 1 8 ft N tg (svE (upd (va_cpy (z_SV S) (z_TV S) 0 0 44) (4 + 2 * i + 0) (minI 100 ((z_SV S) (4 + 2 * i + 0) + 5))) 0 8 ft N tg (z_EQ S)) (svM (upd (va_cpy (z_SV S) (z_TV S) 0 0 44) (4 + 2 * i + 0) (minI 100 ((z_SV S) (4 + 2 * i + 0) + 5))) 0 8 ft N tg (z_EQ S) (z_MI S)))) (svD (upd (va_cpy (z_SV S) (z_TV S) 0 0 44) (4 + 2 * i + 0) (minI 100 ((z_SV S) (4 + 2 * i + 0) + 5))) 0 N tg (z_EQ S) (z_MI S))) (svN (upd (va_cpy (z_SV S) (z_TV S) 0 0 44) (4 + 2 * i + 0) (minI 100 ((z_SV S) (4 + 2 * i + 0) + 5))) 0 8 ft N tg (z_EQ S) (z_MI S))) (svM (upd (va_cpy (z_SV S) (z_TV S) 0 0 44) (4 + 2 * i + 0) (minI 100 ((z_SV S) (4 + 2 * i + 0) + 5))) 1 8 ft N tg (svE (upd (va_cpy (z_SV S) (z_TV S) 0 0 44) (4 + 2 * i + 0) (minI 100 ((z_SV S) (4 + 2 * i + 0) + 5))) 0 8 ft N tg (z_EQ S)) (svM (upd (va_cpy (z_SV S) (z_TV S) 0 0 44) (4 + 2 * i + 0) (minI 100 ((z_SV S) (4 + 2 * i + 0) + 5))) 0 8 ft N tg (z_EQ S) (z_MI S)))) (svE (upd (va_cpy (z_SV S) (z_TV S) 0 0 44) (4 + 2 * i + 0) (minI 100 ((z_SV S) (4 + 2 * i + 0) + 5))) 1 8 ft N tg (svE (upd (va_cpy (z_SV S) (z_TV S) 0 0 44) (4 + 2 * i + 0) (minI 100 ((z_SV S) (4 + 2 * i + 0) + 5))) 0 8 ft N tg (z_EQ S)))) (svD (upd (va_cpy (z_SV S) (z_TV S) 0 0 44) (4 + 2 * i + 0) (minI 100 ((z_SV S) (4 + 2 * i + 0) + 5))) 1 N tg (svE (upd (va_cpy (z_SV S) (z_TV S) 0 0 44) (4 + 2 * i + 0) (minI 100 ((z_SV S) (4 + 2 * i + 0) + 5))) 0 8 ft N tg (z_EQ S)) (svM (upd (va_cpy (z_SV S) (z_TV S) 0 0 44) (4 + 2 * i + 0) (minI 100 ((z_SV S) (4 + 2 * i + 0) + 5))) 0 8 ft N tg (z_EQ S) (z_MI S)))) (svN (upd (va_cpy (z_SV S) (z_TV S) 0 0 44) (4 + 2 * i + 0) (minI 100 ((z_SV S) (4 + 2 * i + 0) + 5))) 1 8 ft N tg (svE (upd (va_cpy (z_SV S) (z_TV S) 0 0 44) (4 + 2 * i + 0) (minI 100 ((z_SV S) (4 + 2 * i + 0) + 5))) 0 8 ft N tg (z_EQ S)) (svM (upd (va_cpy (z_SV S) (z_TV S) 0 0 44) (4 + 2 * i + 0) (minI 100 ((z_SV S) (4 + 2 * i + 0) + 5))) 0 8 ft N tg (z_EQ S) (z_MI S)))) (upd (va_cpy (z_SV S) (z_TV S) 0 0 44) (4 + 2 * i + 0) (minI 100 ((z_SV S) (4 + 2 * i + 0) + 5)))) (by rw [co_TV, co_BN, co_BD, co_EQ, co_MI, co_A0, co_A1, co_A2, co_A3]; exact hco) (by omega)
set_option maxRecDepth 100000 in
set_option maxHeartbeats 4000000 in
theorem c_X9_bestChange_0 {g : G0} (hG : Gd g) (S : SS)  (ft : Nat) (N : Nat) (tg : Nat → Nat) (h1 : tgts (z_SV S) N ft tg) : ct g mX9_bestChange [.ref 0, .int 0] (mixW g S) (fun v w1 => v = some (.int (bcR (ch0 (z_SV S)) ft N tg N).1) ∧ ∃ S2, w1 = mixW g S2 ∧ co S2 = co S) (fun _ _ => False) := by
  refine ct_of hG [some (.ref 0), some (.int (0)), none, none, none, none] rfl rfl rfl (Nat.le_of_ble_eq_true rfl) (fun h => ?_) rfl
  refine q_bipush (v := (-9)) dX9_bestChange_0 rfl ?_
  refine q_ist2 dX9_bestChange_2 (Nat.le_of_ble_eq_true rfl) rfl ?_
  refine q_bipush (v := (-9)) dX9_bestChange_3 rfl ?_
  refine q_ist3 dX9_bestChange_5 (Nat.le_of_ble_eq_true rfl) rfl ?_
  refine q_iconst (v := 0) dX9_bestChange_6 rfl ?_
  refine q_ist4 dX9_bestChange_7 (Nat.le_of_ble_eq_true rfl) rfl ?_
  refine wp_L (L2 := [some (.ref 0), some (.int (0)), some (.int ((bcR (ch0 (z_SV S)) ft N tg 0).1)), some (.int ((bcR (ch0 (z_SV S)) ft N tg 0).2)), some (.int (nI 0)), none]) rfl ?_
  exact l_X9_best_0 hG S ft N tg h1 (fun S2 hS2 => ⟨rfl, S2, rfl, hS2⟩) N 0 S rfl (by omega)
set_option maxRecDepth 100000 in
set_option maxHeartbeats 4000000 in
theorem c_X9_bestImprovement {g : G0} (hG : Gd g) (S : SS)  (ft : Nat) (N : Nat) (tg : Nat → Nat) (h1 : tgts (z_SV S) N ft tg) : ct g mX9_bestImprovement [.ref 0] (mixW g S) (fun v w1 => v = some (.int (bcR (ch0 (z_SV S)) ft N tg N).1) ∧ ∃ S2, w1 = mixW g S2 ∧ co S2 = co S) (fun _ _ => False) := by
  refine ct_of hG [some (.ref 0)] rfl rfl rfl (Nat.le_of_ble_eq_true rfl) (fun h => ?_) rfl
  refine q_aload_n dX9_bestImprovement_0 rfl ?_
  refine q_iconst (v := 0) dX9_bestImprovement_1 rfl ?_
  refine q_callVg (ν := mX9_bestChange) dX9_bestImprovement_2 uw_435 vX9_bestChange (c_X9_bestChange_0 hG S (ft) (N) (tg) h1) (Nat.le_of_ble_eq_true rfl) rfl rfl rfl rfl (Nat.le_of_ble_eq_true rfl) (Nat.le_of_ble_eq_true rfl) (Nat.le_of_ble_eq_true rfl) 0 (Nat.le_of_ble_eq_true rfl) rfl (fun _ _ z => z.elim) (fun v w1 hv => ?_)
  obtain ⟨rfl, S2, rfl, hco⟩ := hv
  refine wp_eq (st2 := .int (((bcR (ch0 (z_SV S)) ft N tg N).1)) :: _) rfl ?_
  exact q_iret dX9_bestImprovement_5 rfl ⟨rfl, S2, rfl, hco⟩
set_option maxRecDepth 100000 in
set_option maxHeartbeats 4000000 in
theorem c_X9_changeTrial_1 {g : G0} (hG : Gd g) (S : SS) (c : Nat)  (h1 : c < 6) : ctu g mX9_changeTrial [.ref 0, .int (nI c), .int 1] (mixW g S) (mixW g (s_TV S (upd (upd (va_cpy (z_SV S) (z_TV S) 0 0 44) (4 + 2 * c + 0) 0) (4 + 2 * c + 1) 0))) := by
  refine ct_of hG [some (.ref 0), some (.int (nI c)), some (.int (1))] rfl rfl rfl (Nat.le_of_ble_eq_true rfl) (fun h => ?_) rfl
  refine q_aload_n dX9_changeTrial_0 rfl ?_
  refine q_get (j := 2) (v := .ref 5) dX9_changeTrial_1 (Nat.le_of_ble_eq_true rfl) rfl rfl iuX9 (Nat.le_of_ble_eq_true rfl) uw_210 rfl rfl ?_
  refine q_aload_n dX9_changeTrial_4 rfl ?_
  refine q_get (j := 1) (v := .ref 3) dX9_changeTrial_5 (Nat.le_of_ble_eq_true rfl) rfl rfl iuX9 (Nat.le_of_ble_eq_true rfl) uw_209 rfl rfl ?_
  refine q_callVu (ν := mX7_copyFrom) dX9_changeTrial_8 uw_443 vX7_copyFrom (c_X7_copyFrom_5 hG S ) (Nat.le_of_ble_eq_true rfl) rfl rfl rfl rfl (Nat.le_of_ble_eq_true rfl) (Nat.le_of_ble_eq_true rfl) (Nat.le_of_ble_eq_true rfl) 0 (Nat.le_of_ble_eq_true rfl) ?_
  refine wp_w (w2 := mixW g (s_TV S (va_cpy (z_SV S) (z_TV S) 0 0 44))) rfl ?_
  refine q_iload_n dX9_changeTrial_11 rfl ?_
  refine q_if_eq 38 dX9_changeTrial_12 rfl (fun c12 => ?_) (fun c12 => ?_)
  · first | exact absurd (by decide) c12 | exact absurd c12 (by decide)
  · refine q_aload_n dX9_changeTrial_15 rfl ?_
    refine q_get (j := 2) (v := .ref 5) dX9_changeTrial_16 (Nat.le_of_ble_eq_true rfl) rfl rfl iuX9 (Nat.le_of_ble_eq_true rfl) uw_210 rfl rfl ?_
    refine q_iload_n dX9_changeTrial_19 rfl ?_
    refine q_iconst (v := 0) dX9_changeTrial_20 rfl ?_
    refine q_iconst (v := 0) dX9_changeTrial_21 rfl ?_
    refine q_callVu (ν := mX7_putPercent) dX9_changeTrial_22 uw_448 vX7_putPercent (c_X7_putPercent_5 hG (s_TV S (va_cpy (z_SV S) (z_TV S) 0 0 44)) (c) (0) (0) (by omega)) (Nat.le_of_ble_eq_true rfl) rfl rfl rfl rfl (Nat.le_of_ble_eq_true rfl) (Nat.le_of_ble_eq_true rfl) (Nat.le_of_ble_eq_true rfl) 0 (Nat.le_of_ble_eq_true rfl) ?_
    rw [ss_TV]
    refine wp_w (w2 := mixW g (s_TV S (upd (va_cpy (z_SV S) (z_TV S) 0 0 44) (4 + 2 * c + 0) 0))) rfl ?_
    refine q_aload_n dX9_changeTrial_25 rfl ?_
    refine q_get (j := 2) (v := .ref 5) dX9_changeTrial_26 (Nat.le_of_ble_eq_true rfl) rfl rfl iuX9 (Nat.le_of_ble_eq_true rfl) uw_210 rfl rfl ?_
    refine q_iload_n dX9_changeTrial_29 rfl ?_
    refine q_iconst (v := 1) dX9_changeTrial_30 rfl ?_
    refine q_iconst (v := 0) dX9_changeTrial_31 rfl ?_
    refine q_callVu (ν := mX7_putPercent) dX9_changeTrial_32 uw_448 vX7_putPercent (c_X7_putPercent_5 hG (s_TV S (upd (va_cpy (z_SV S) (z_TV S) 0 0 44) (4 + 2 * c + 0) 0)) (c) (1) (0) (by omega)) (Nat.le_of_ble_eq_true rfl) rfl rfl rfl rfl (Nat.le_of_ble_eq_true rfl) (Nat.le_of_ble_eq_true rfl) (Nat.le_of_ble_eq_true rfl) 0 (Nat.le_of_ble_eq_true rfl) ?_
    rw [ss_TV]
    refine wp_w (w2 := mixW g (s_TV S (upd (upd (va_cpy (z_SV S) (z_TV S) 0 0 44) (4 + 2 * c + 0) 0) (4 + 2 * c + 1) 0))) rfl ?_
    refine q_goto 63 dX9_changeTrial_35 rfl ?_
    exact q_vret dX9_changeTrial_63 rfl ⟨rfl, rfl⟩
set_option maxRecDepth 100000 in
set_option maxHeartbeats 4000000 in
theorem l_X9_best_1 {g : G0} {h : G1} (hG : Gd g) (S0 : SS) {post : Option Value → (Nat → va_E) → Prop} {xp : String → (Nat → va_E) → Prop} (ft N : Nat) (tg : Nat → Nat) (ht : tgts (z_SV S0) N ft tg) (hp : ∀ S2, co S2 = co S0 → post (some (.int (bcR (ch1 (z_SV S0)) ft N tg N).1)) (mixW g S2)) : ∀ (n i : Nat) (S : SS), co S = co S0 → i + n = N → wp g h mX9_bestChange (mixW g S) [some (.ref 0), some (.int (1)), some (.int ((bcR (ch1 (z_SV S0)) ft N tg i).1)), some (.int ((bcR (ch1 (z_SV S0)) ft N tg i).2)), some (.int (nI i)), none] [] 0 (QQ g h mX9_bestChange post xp) 9 := by
  have t1 := ht.1
  have t2 := ht.2.1
  intro n
  induction n with
  | zero =>
    intro i S hco hq1
    obtain rfl : N = i := by omega
    have hs : z_SV S = z_SV S0 := co_SV hco
    refine q_iload dX9_bestChange_9 rfl ?_
    refine q_aload_n dX9_bestChange_11 rfl ?_
    refine q_get (j := 1) (v := .ref 3) dX9_bestChange_12 (Nat.le_of_ble_eq_true rfl) rfl rfl iuX9 (Nat.le_of_ble_eq_true rfl) uw_209 rfl rfl ?_
    refine q_callVv (ν := mX7_count) dX9_bestChange_15 uw_280 vX7_count (c_X7_count_3 hG S ) (Nat.le_of_ble_eq_true rfl) rfl rfl rfl rfl (Nat.le_of_ble_eq_true rfl) (Nat.le_of_ble_eq_true rfl) (Nat.le_of_ble_eq_true rfl) 0 (Nat.le_of_ble_eq_true rfl) ?_
    refine wp_top (y := nI N) (by rw [hs]; exact t1) ?_
    refine q_icmp_ge 89 dX9_bestChange_18 rfl (fun c18 => ?_) (fun c18 => ?_)
    · have n18 := (nI_leI (a := N) (b := N) (by omega) (by omega)).mp c18
      refine q_iload_n dX9_bestChange_89 rfl ?_
      exact q_iret dX9_bestChange_90 rfl (hp S hco)
    · have n18 := mt (nI_leI (a := N) (b := N) (by omega) (by omega)).mpr c18
      omega
  | succ n ih =>
    intro i S hco hq1
    have hs : z_SV S = z_SV S0 := co_SV hco
    refine q_iload dX9_bestChange_9 rfl ?_
    refine q_aload_n dX9_bestChange_11 rfl ?_
    refine q_get (j := 1) (v := .ref 3) dX9_bestChange_12 (Nat.le_of_ble_eq_true rfl) rfl rfl iuX9 (Nat.le_of_ble_eq_true rfl) uw_209 rfl rfl ?_
    refine q_callVv (ν := mX7_count) dX9_bestChange_15 uw_280 vX7_count (c_X7_count_3 hG S ) (Nat.le_of_ble_eq_true rfl) rfl rfl rfl rfl (Nat.le_of_ble_eq_true rfl) (Nat.le_of_ble_eq_true rfl) (Nat.le_of_ble_eq_true rfl) 0 (Nat.le_of_ble_eq_true rfl) ?_
    refine wp_top (y := nI N) (by rw [hs]; exact t1) ?_
    refine q_icmp_ge 89 dX9_bestChange_18 rfl (fun c18 => ?_) (fun c18 => ?_)
    · have n18 := (nI_leI (a := N) (b := i) (by omega) (by omega)).mp c18
      omega
    · have n18 := mt (nI_leI (a := N) (b := i) (by omega) (by omega)).mpr c18
      refine q_aload_n dX9_bestChange_21 rfl ?_
      refine q_iload dX9_bestChange_22 rfl ?_
      refine q_iload_n dX9_bestChange_24 rfl ?_
      refine q_callVu (ν := mX9_changeTrial) dX9_bestChange_25 uw_439 vX9_changeTrial (c_X9_changeTrial_1 hG S (i) (by omega)) (Nat.le_of_ble_eq_true rfl) rfl rfl rfl rfl (Nat.le_of_ble_eq_true rfl) (Nat.le_of_ble_eq_true rfl) (Nat.le_of_ble_eq_true rfl) 0 (Nat.le_of_ble_eq_true rfl) ?_
      refine wp_w (w2 := mixW g (s_TV S (upd (upd (va_cpy (z_SV S) (z_TV S) 0 0 44) (4 + 2 * i + 0) 0) (4 + 2 * i + 1) 0))) rfl ?_
      have hT : tgts (upd (upd (va_cpy (z_SV S) (z_TV S) 0 0 44) (4 + 2 * i + 0) 0) (4 + 2 * i + 1) 0) N ft tg := tgts_upd (tgts_upd (tgts_cpy (by rw [hs]; exact ht)) (by omega) (by omega)) (by omega) (by omega)
      have hf : ∀ j, j < 16 → (upd (upd (va_cpy (z_SV S) (z_TV S) 0 0 44) (4 + 2 * i + 0) 0) (4 + 2 * i + 1) 0) j = (ch1 (z_SV S0)) i j := ch1_congr (fun j hj => (cpy_at (by omega)).trans (by rw [hs]))
      refine q_aload_n dX9_bestChange_28 rfl ?_
      refine q_get (j := 10) (v := .ref 23) dX9_bestChange_29 (Nat.le_of_ble_eq_true rfl) rfl rfl iuX9 (Nat.le_of_ble_eq_true rfl) uw_218 rfl rfl ?_
      refine q_aload_n dX9_bestChange_32 rfl ?_
      refine q_get (j := 2) (v := .ref 5) dX9_bestChange_33 (Nat.le_of_ble_eq_true rfl) rfl rfl iuX9 (Nat.le_of_ble_eq_true rfl) uw_210 rfl rfl ?_
      refine q_aload_n dX9_bestChange_36 rfl ?_
      refine q_get (j := 7) (v := .ref 15) dX9_bestChange_37 (Nat.le_of_ble_eq_true rfl) rfl rfl iuX9 (Nat.le_of_ble_eq_true rfl) uw_215 rfl rfl ?_
      refine q_callVu (ν := mX5_compute) dX9_bestChange_40 uw_326 vX5_compute (c_X5_compute_23_5 hG (s_TV S (upd (upd (va_cpy (z_SV S) (z_TV S) 0 0 44) (4 + 2 * i + 0) 0) (4 + 2 * i + 1) 0)) (ft) (N) (tg) hT) (Nat.le_of_ble_eq_true rfl) rfl rfl rfl rfl (Nat.le_of_ble_eq_true rfl) (Nat.le_of_ble_eq_true rfl) (Nat.le_of_ble_eq_true rfl) 0 (Nat.le_of_ble_eq_true rfl) ?_
      rw [sc_A3_TV, sc_A2_TV, sc_A1_TV, sc_A0_TV, sc_MI_TV, sc_EQ_TV, sc_BD_TV, sc_BN_TV]
      refine wp_w (w2 := mixW g (s_TV (s_BN (s_BD (s_EQ (s_MI (s_A0 (s_A1 (s_A2 (s_A3 S (svD (upd (upd (va_cpy (z_SV S) (z_TV S) 0 0 44) (4 + 2 * i + 0) 0) (4 + 2 * i + 1) 0) 1 N tg (svE (upd (upd (va_cpy (z_SV S) (z_TV S) 0 0 44) (4 + 2 * i + 0) 0) (4 + 2 * i + 1) 0) 0 8 ft N tg (z_EQ S)) (svM (upd (upd (va_cpy (z_SV S) (z_TV S) 0 0 44) (4 + 2 * i + 0) 0) (4 + 2 * i + 1) 0) 0 8 ft N tg (z_EQ S) (z_MI S)))) (svN (upd (upd (va_cpy (z_SV S) (z_TV S) 0 0 44) (4 + 2 * i + 0) 0) (4 + 2 * i + 1) 0) 1 8 ft N tg (svE (upd (upd (va_cpy (z_SV S) (z_TV S) 0 0 44) (4 + 2 * i + 0) 0) (4 + 2 * i + 1) 0) 0 8 ft N tg (z_EQ S)) (svM (upd (upd (va_cpy (z_SV S) (z_TV S) 0 0 44) (4 + 2 * i + 0) 0) (4 + 2 * i + 1) 0) 0 8 ft N tg (z_EQ S) (z_MI S)))) (svD (upd (upd (va_cpy (z_SV S) (z_TV S) 0 0 44) (4 + 2 * i + 0) 0) (4 + 2 * i + 1) 0) 0 N tg (z_EQ S) (z_MI S))) (svN (upd (upd (va_cpy (z_SV S) (z_TV S) 0 0 44) (4 + 2 * i + 0) 0) (4 + 2 * i + 1) 0) 0 8 ft N tg (z_EQ S) (z_MI S))) (svM (upd (upd (va_cpy (z_SV S) (z_TV S) 0 0 44) (4 + 2 * i + 0) 0) (4 + 2 * i + 1) 0) 1 8 ft N tg (svE (upd (upd (va_cpy (z_SV S) (z_TV S) 0 0 44) (4 + 2 * i + 0) 0) (4 + 2 * i + 1) 0) 0 8 ft N tg (z_EQ S)) (svM (upd (upd (va_cpy (z_SV S) (z_TV S) 0 0 44) (4 + 2 * i + 0) 0) (4 + 2 * i + 1) 0) 0 8 ft N tg (z_EQ S) (z_MI S)))) (svE (upd (upd (va_cpy (z_SV S) (z_TV S) 0 0 44) (4 + 2 * i + 0) 0) (4 + 2 * i + 1) 0) 1 8 ft N tg (svE (upd (upd (va_cpy (z_SV S) (z_TV S) 0 0 44) (4 + 2 * i + 0) 0) (4 + 2 * i + 1) 0) 0 8 ft N tg (z_EQ S)))) (svD (upd (upd (va_cpy (z_SV S) (z_TV S) 0 0 44) (4 + 2 * i + 0) 0) (4 + 2 * i + 1) 0) 1 N tg (svE (upd (upd (va_cpy (z_SV S) (z_TV S) 0 0 44) (4 + 2 * i + 0) 0) (4 + 2 * i + 1) 0) 0 8 ft N tg (z_EQ S)) (svM (upd (upd (va_cpy (z_SV S) (z_TV S) 0 0 44) (4 + 2 * i + 0) 0) (4 + 2 * i + 1) 0) 0 8 ft N tg (z_EQ S) (z_MI S)))) (svN (upd (upd (va_cpy (z_SV S) (z_TV S) 0 0 44) (4 + 2 * i + 0) 0) (4 + 2 * i + 1) 0) 1 8 ft N tg (svE (upd (upd (va_cpy (z_SV S) (z_TV S) 0 0 44) (4 + 2 * i + 0) 0) (4 + 2 * i + 1) 0) 0 8 ft N tg (z_EQ S)) (svM (upd (upd (va_cpy (z_SV S) (z_TV S) 0 0 44) (4 + 2 * i + 0) 0) (4 + 2 * i + 1) 0) 0 8 ft N tg (z_EQ S) (z_MI S)))) (upd (upd (va_cpy (z_SV S) (z_TV S) 0 0 44) (4 + 2 * i + 0) 0) (4 + 2 * i + 1) 0))) rfl ?_
      refine q_aload_n dX9_bestChange_43 rfl ?_
      refine q_get (j := 10) (v := .ref 23) dX9_bestChange_44 (Nat.le_of_ble_eq_true rfl) rfl rfl iuX9 (Nat.le_of_ble_eq_true rfl) uw_218 rfl rfl ?_
      refine q_callVv (ν := mX5_exist) dX9_bestChange_47 uw_393 vX5_exist (c_X5_exist hG (s_TV (s_BN (s_BD (s_EQ (s_MI (s_A0 (s_A1 (s_A2 (s_A3 S (svD (upd (upd (va_cpy (z_SV S) (z_TV S) 0 0 44) (4 + 2 * i + 0) 0) (4 + 2 * i + 1) 0) 1 N tg (svE (upd (upd (va_cpy (z_SV S) (z_TV S) 0 0 44) (4 + 2 * i + 0) 0) (4 + 2 * i + 1) 0) 0 8 ft N tg (z_EQ S)) (svM (upd (upd (va_cpy (z_SV S) (z_TV S) 0 0 44) (4 + 2 * i + 0) 0) (4 + 2 * i + 1) 0) 0 8 ft N tg (z_EQ S) (z_MI S)))) (svN (upd (upd (va_cpy (z_SV S) (z_TV S) 0 0 44) (4 + 2 * i + 0) 0) (4 + 2 * i + 1) 0) 1 8 ft N tg (svE (upd (upd (va_cpy (z_SV S) (z_TV S) 0 0 44) (4 + 2 * i + 0) 0) (4 + 2 * i + 1) 0) 0 8 ft N tg (z_EQ S)) (svM (upd (upd (va_cpy (z_SV S) (z_TV S) 0 0 44) (4 + 2 * i + 0) 0) (4 + 2 * i + 1) 0) 0 8 ft N tg (z_EQ S) (z_MI S)))) (svD (upd (upd (va_cpy (z_SV S) (z_TV S) 0 0 44) (4 + 2 * i + 0) 0) (4 + 2 * i + 1) 0) 0 N tg (z_EQ S) (z_MI S))) (svN (upd (upd (va_cpy (z_SV S) (z_TV S) 0 0 44) (4 + 2 * i + 0) 0) (4 + 2 * i + 1) 0) 0 8 ft N tg (z_EQ S) (z_MI S))) (svM (upd (upd (va_cpy (z_SV S) (z_TV S) 0 0 44) (4 + 2 * i + 0) 0) (4 + 2 * i + 1) 0) 1 8 ft N tg (svE (upd (upd (va_cpy (z_SV S) (z_TV S) 0 0 44) (4 + 2 * i + 0) 0) (4 + 2 * i + 1) 0) 0 8 ft N tg (z_EQ S)) (svM (upd (upd (va_cpy (z_SV S) (z_TV S) 0 0 44) (4 + 2 * i + 0) 0) (4 + 2 * i + 1) 0) 0 8 ft N tg (z_EQ S) (z_MI S)))) (svE (upd (upd (va_cpy (z_SV S) (z_TV S) 0 0 44) (4 + 2 * i + 0) 0) (4 + 2 * i + 1) 0) 1 8 ft N tg (svE (upd (upd (va_cpy (z_SV S) (z_TV S) 0 0 44) (4 + 2 * i + 0) 0) (4 + 2 * i + 1) 0) 0 8 ft N tg (z_EQ S)))) (svD (upd (upd (va_cpy (z_SV S) (z_TV S) 0 0 44) (4 + 2 * i + 0) 0) (4 + 2 * i + 1) 0) 1 N tg (svE (upd (upd (va_cpy (z_SV S) (z_TV S) 0 0 44) (4 + 2 * i + 0) 0) (4 + 2 * i + 1) 0) 0 8 ft N tg (z_EQ S)) (svM (upd (upd (va_cpy (z_SV S) (z_TV S) 0 0 44) (4 + 2 * i + 0) 0) (4 + 2 * i + 1) 0) 0 8 ft N tg (z_EQ S) (z_MI S)))) (svN (upd (upd (va_cpy (z_SV S) (z_TV S) 0 0 44) (4 + 2 * i + 0) 0) (4 + 2 * i + 1) 0) 1 8 ft N tg (svE (upd (upd (va_cpy (z_SV S) (z_TV S) 0 0 44) (4 + 2 * i + 0) 0) (4 + 2 * i + 1) 0) 0 8 ft N tg (z_EQ S)) (svM (upd (upd (va_cpy (z_SV S) (z_TV S) 0 0 44) (4 + 2 * i + 0) 0) (4 + 2 * i + 1) 0) 0 8 ft N tg (z_EQ S) (z_MI S)))) (upd (upd (va_cpy (z_SV S) (z_TV S) 0 0 44) (4 + 2 * i + 0) 0) (4 + 2 * i + 1) 0)) ) (Nat.le_of_ble_eq_true rfl) rfl rfl rfl rfl (Nat.le_of_ble_eq_true rfl) (Nat.le_of_ble_eq_true rfl) (Nat.le_of_ble_eq_true rfl) 0 (Nat.le_of_ble_eq_true rfl) ?_
      refine wp_eq (st2 := .int ((pI (0 < (svD (upd (upd (va_cpy (z_SV S) (z_TV S) 0 0 44) (4 + 2 * i + 0) 0) (4 + 2 * i + 1) 0) 0 N tg (z_EQ S) (z_MI S)) ∧ 0 < (svD (upd (upd (va_cpy (z_SV S) (z_TV S) 0 0 44) (4 + 2 * i + 0) 0) (4 + 2 * i + 1) 0) 1 N tg (svE (upd (upd (va_cpy (z_SV S) (z_TV S) 0 0 44) (4 + 2 * i + 0) 0) (4 + 2 * i + 1) 0) 0 8 ft N tg (z_EQ S)) (svM (upd (upd (va_cpy (z_SV S) (z_TV S) 0 0 44) (4 + 2 * i + 0) 0) (4 + 2 * i + 1) 0) 0 8 ft N tg (z_EQ S) (z_MI S)))))) :: _) rfl ?_
      refine wp_top (y := pI (0 < DD ((ch1 (z_SV S0)) i) 0 N tg ∧ 0 < DD ((ch1 (z_SV S0)) i) 1 N tg)) (by rw [svD_eq t2 (by omega) hf, svD_eq t2 (by omega) hf]) ?_
      refine q_if_eq 67 dX9_bestChange_50 rfl (fun c50 => ?_) (fun c50 => ?_)
      · refine q_bipush (v := (-9)) dX9_bestChange_67 rfl ?_
        refine wp_top (y := rchF ((ch1 (z_SV S0)) i) ft N tg) (by rw [rchF, if_neg (by rw [pI_f (pI_0 c50)]; decide)]) ?_
        refine q_ist5 dX9_bestChange_69 (Nat.le_of_ble_eq_true rfl) rfl ?_
        refine q_iload dX9_bestChange_71 rfl ?_
        refine q_iload_n dX9_bestChange_73 rfl ?_
        refine q_icmp_le 83 dX9_bestChange_74 rfl (fun c74 => ?_) (fun c74 => ?_)
        · refine q_iinc4 (k9 := 1) dX9_bestChange_83 rfl (Nat.le_of_ble_eq_true rfl) rfl ?_
          refine wp_L (L2 := [some (.ref 0), some (.int (1)), some (.int ((bcR (ch1 (z_SV S0)) ft N tg i).1)), some (.int ((bcR (ch1 (z_SV S0)) ft N tg i).2)), some (.int (nI (i + 1))), some (.int (rchF ((ch1 (z_SV S0)) i) ft N tg))]) (by rw [show nI i + 1 = nI (i + 1) from nI_1 _]) ?_
          refine q_goto 9 dX9_bestChange_86 rfl ?_
          refine wp_fg (L2 := [some (.ref 0), some (.int (1)), some (.int ((bcR (ch1 (z_SV S0)) ft N tg i).1)), some (.int ((bcR (ch1 (z_SV S0)) ft N tg i).2)), some (.int (nI (i + 1))), none]) ⟨rfl, rfl, rfl, rfl, rfl, trivial⟩ ?_
          refine wp_L (L2 := [some (.ref 0), some (.int (1)), some (.int ((bcR (ch1 (z_SV S0)) ft N tg (i + 1)).1)), some (.int ((bcR (ch1 (z_SV S0)) ft N tg (i + 1)).2)), some (.int (nI (i + 1))), none]) (by simp only [bcR]; rw [if_pos c74]) ?_
          exact ih (i + 1) (s_TV (s_BN (s_BD (s_EQ (s_MI (s_A0 (s_A1 (s_A2 (s_A3 S (svD (upd (upd (va_cpy (z_SV S) (z_TV S) 0 0 44) (4 + 2 * i + 0) 0) (4 + 2 * i + 1) 0) 1 N tg (svE (upd (upd (va_cpy (z_SV S) (z_TV S) 0 0 44) (4 + 2 * i + 0) 0) (4 + 2 * i + 1) 0) 0 8 ft N tg (z_EQ S)) (svM (upd (upd (va_cpy (z_SV S) (z_TV S) 0 0 44) (4 + 2 * i + 0) 0) (4 + 2 * i + 1) 0) 0 8 ft N tg (z_EQ S) (z_MI S)))) (svN (upd (upd (va_cpy (z_SV S) (z_TV S) 0 0 44) (4 + 2 * i + 0) 0) (4 + 2 * i + 1) 0) 1 8 ft N tg (svE (upd (upd (va_cpy (z_SV S) (z_TV S) 0 0 44) (4 + 2 * i + 0) 0) (4 + 2 * i + 1) 0) 0 8 ft N tg (z_EQ S)) (svM (upd (upd (va_cpy (z_SV S) (z_TV S) 0 0 44) (4 + 2 * i + 0) 0) (4 + 2 * i + 1) 0) 0 8 ft N tg (z_EQ S) (z_MI S)))) (svD (upd (upd (va_cpy (z_SV S) (z_TV S) 0 0 44) (4 + 2 * i + 0) 0) (4 + 2 * i + 1) 0) 0 N tg (z_EQ S) (z_MI S))) (svN (upd (upd (va_cpy (z_SV S) (z_TV S) 0 0 44) (4 + 2 * i + 0) 0) (4 + 2 * i + 1) 0) 0 8 ft N tg (z_EQ S) (z_MI S))) (svM (upd (upd (va_cpy (z_SV S) (z_TV S) 0 0 44) (4 + 2 * i + 0) 0) (4 + 2 * i + 1) 0) 1 8 ft N tg (svE (upd (upd (va_cpy (z_SV S) (z_TV S) 0 0 44) (4 + 2 * i + 0) 0) (4 + 2 * i + 1) 0) 0 8 ft N tg (z_EQ S)) (svM (upd (upd (va_cpy (z_SV S) (z_TV S) 0 0 44) (4 + 2 * i + 0) 0) (4 + 2 * i + 1) 0) 0 8 ft N tg (z_EQ S) (z_MI S)))) (svE (upd (upd (va_cpy (z_SV S) (z_TV S) 0 0 44) (4 + 2 * i + 0) 0) (4 + 2 * i + 1) 0) 1 8 ft N tg (svE (upd (upd (va_cpy (z_SV S) (z_TV S) 0 0 44) (4 + 2 * i + 0) 0) (4 + 2 * i + 1) 0) 0 8 ft N tg (z_EQ S)))) (svD (upd (upd (va_cpy (z_SV S) (z_TV S) 0 0 44) (4 + 2 * i + 0) 0) (4 + 2 * i + 1) 0) 1 N tg (svE (upd (upd (va_cpy (z_SV S) (z_TV S) 0 0 44) (4 + 2 * i + 0) 0) (4 + 2 * i + 1) 0) 0 8 ft N tg (z_EQ S)) (svM (upd (upd (va_cpy (z_SV S) (z_TV S) 0 0 44) (4 + 2 * i + 0) 0) (4 + 2 * i + 1) 0) 0 8 ft N tg (z_EQ S) (z_MI S)))) (svN (upd (upd (va_cpy (z_SV S) (z_TV S) 0 0 44) (4 + 2 * i + 0) 0) (4 + 2 * i + 1) 0) 1 8 ft N tg (svE (upd (upd (va_cpy (z_SV S) (z_TV S) 0 0 44) (4 + 2 * i + 0) 0) (4 + 2 * i + 1) 0) 0 8 ft N tg (z_EQ S)) (svM (upd (upd (va_cpy (z_SV S) (z_TV S) 0 0 44) (4 + 2 * i + 0) 0) (4 + 2 * i + 1) 0) 0 8 ft N tg (z_EQ S) (z_MI S)))) (upd (upd (va_cpy (z_SV S) (z_TV S) 0 0 44) (4 + 2 * i + 0) 0) (4 + 2 * i + 1) 0)) (by rw [co_TV, co_BN, co_BD, co_EQ, co_MI, co_A0, co_A1, co_A2, co_A3]; exact hco) (by omega)
        · refine q_iload dX9_bestChange_77 rfl ?_
          refine q_ist3 dX9_bestChange_79 (Nat.le_of_ble_eq_true rfl) rfl ?_
          refine q_iload dX9_bestChange_80 rfl ?_
          refine q_ist2 dX9_bestChange_82 (Nat.le_of_ble_eq_true rfl) rfl ?_
          refine q_iinc4 (k9 := 1) dX9_bestChange_83 rfl (Nat.le_of_ble_eq_true rfl) rfl ?_
          refine wp_L (L2 := [some (.ref 0), some (.int (1)), some (.int (nI i)), some (.int (rchF ((ch1 (z_SV S0)) i) ft N tg)), some (.int (nI (i + 1))), some (.int (rchF ((ch1 (z_SV S0)) i) ft N tg))]) (by rw [show nI i + 1 = nI (i + 1) from nI_1 _]) ?_
          refine q_goto 9 dX9_bestChange_86 rfl ?_
          refine wp_fg (L2 := [some (.ref 0), some (.int (1)), some (.int (nI i)), some (.int (rchF ((ch1 (z_SV S0)) i) ft N tg)), some (.int (nI (i + 1))), none]) ⟨rfl, rfl, rfl, rfl, rfl, trivial⟩ ?_
          refine wp_L (L2 := [some (.ref 0), some (.int (1)), some (.int ((bcR (ch1 (z_SV S0)) ft N tg (i + 1)).1)), some (.int ((bcR (ch1 (z_SV S0)) ft N tg (i + 1)).2)), some (.int (nI (i + 1))), none]) (by simp only [bcR]; rw [if_neg c74]) ?_
          exact ih (i + 1) (s_TV (s_BN (s_BD (s_EQ (s_MI (s_A0 (s_A1 (s_A2 (s_A3 S (svD (upd (upd (va_cpy (z_SV S) (z_TV S) 0 0 44) (4 + 2 * i + 0) 0) (4 + 2 * i + 1) 0) 1 N tg (svE (upd (upd (va_cpy (z_SV S) (z_TV S) 0 0 44) (4 + 2 * i + 0) 0) (4 + 2 * i + 1) 0) 0 8 ft N tg (z_EQ S)) (svM (upd (upd (va_cpy (z_SV S) (z_TV S) 0 0 44) (4 + 2 * i + 0) 0) (4 + 2 * i + 1) 0) 0 8 ft N tg (z_EQ S) (z_MI S)))) (svN (upd (upd (va_cpy (z_SV S) (z_TV S) 0 0 44) (4 + 2 * i + 0) 0) (4 + 2 * i + 1) 0) 1 8 ft N tg (svE (upd (upd (va_cpy (z_SV S) (z_TV S) 0 0 44) (4 + 2 * i + 0) 0) (4 + 2 * i + 1) 0) 0 8 ft N tg (z_EQ S)) (svM (upd (upd (va_cpy (z_SV S) (z_TV S) 0 0 44) (4 + 2 * i + 0) 0) (4 + 2 * i + 1) 0) 0 8 ft N tg (z_EQ S) (z_MI S)))) (svD (upd (upd (va_cpy (z_SV S) (z_TV S) 0 0 44) (4 + 2 * i + 0) 0) (4 + 2 * i + 1) 0) 0 N tg (z_EQ S) (z_MI S))) (svN (upd (upd (va_cpy (z_SV S) (z_TV S) 0 0 44) (4 + 2 * i + 0) 0) (4 + 2 * i + 1) 0) 0 8 ft N tg (z_EQ S) (z_MI S))) (svM (upd (upd (va_cpy (z_SV S) (z_TV S) 0 0 44) (4 + 2 * i + 0) 0) (4 + 2 * i + 1) 0) 1 8 ft N tg (svE (upd (upd (va_cpy (z_SV S) (z_TV S) 0 0 44) (4 + 2 * i + 0) 0) (4 + 2 * i + 1) 0) 0 8 ft N tg (z_EQ S)) (svM (upd (upd (va_cpy (z_SV S) (z_TV S) 0 0 44) (4 + 2 * i + 0) 0) (4 + 2 * i + 1) 0) 0 8 ft N tg (z_EQ S) (z_MI S)))) (svE (upd (upd (va_cpy (z_SV S) (z_TV S) 0 0 44) (4 + 2 * i + 0) 0) (4 + 2 * i + 1) 0) 1 8 ft N tg (svE (upd (upd (va_cpy (z_SV S) (z_TV S) 0 0 44) (4 + 2 * i + 0) 0) (4 + 2 * i + 1) 0) 0 8 ft N tg (z_EQ S)))) (svD (upd (upd (va_cpy (z_SV S) (z_TV S) 0 0 44) (4 + 2 * i + 0) 0) (4 + 2 * i + 1) 0) 1 N tg (svE (upd (upd (va_cpy (z_SV S) (z_TV S) 0 0 44) (4 + 2 * i + 0) 0) (4 + 2 * i + 1) 0) 0 8 ft N tg (z_EQ S)) (svM (upd (upd (va_cpy (z_SV S) (z_TV S) 0 0 44) (4 + 2 * i + 0) 0) (4 + 2 * i + 1) 0) 0 8 ft N tg (z_EQ S) (z_MI S)))) (svN (upd (upd (va_cpy (z_SV S) (z_TV S) 0 0 44) (4 + 2 * i + 0) 0) (4 + 2 * i + 1) 0) 1 8 ft N tg (svE (upd (upd (va_cpy (z_SV S) (z_TV S) 0 0 44) (4 + 2 * i + 0) 0) (4 + 2 * i + 1) 0) 0 8 ft N tg (z_EQ S)) (svM (upd (upd (va_cpy (z_SV S) (z_TV S) 0 0 44) (4 + 2 * i + 0) 0) (4 + 2 * i + 1) 0) 0 8 ft N tg (z_EQ S) (z_MI S)))) (upd (upd (va_cpy (z_SV S) (z_TV S) 0 0 44) (4 + 2 * i + 0) 0) (4 + 2 * i + 1) 0)) (by rw [co_TV, co_BN, co_BD, co_EQ, co_MI, co_A0, co_A1, co_A2, co_A3]; exact hco) (by omega)
      · refine q_aload_n dX9_bestChange_53 rfl ?_
        refine q_get (j := 10) (v := .ref 23) dX9_bestChange_54 (Nat.le_of_ble_eq_true rfl) rfl rfl iuX9 (Nat.le_of_ble_eq_true rfl) uw_218 rfl rfl ?_
        refine q_aload_n dX9_bestChange_57 rfl ?_
        refine q_get (j := 2) (v := .ref 5) dX9_bestChange_58 (Nat.le_of_ble_eq_true rfl) rfl rfl iuX9 (Nat.le_of_ble_eq_true rfl) uw_210 rfl rfl ?_
        refine q_callVv (ν := mX5_recoveryPerMille) dX9_bestChange_61 uw_454 vX5_recoveryPerMille (c_X5_rec_5 hG (s_TV (s_BN (s_BD (s_EQ (s_MI (s_A0 (s_A1 (s_A2 (s_A3 S (svD (upd (upd (va_cpy (z_SV S) (z_TV S) 0 0 44) (4 + 2 * i + 0) 0) (4 + 2 * i + 1) 0) 1 N tg (svE (upd (upd (va_cpy (z_SV S) (z_TV S) 0 0 44) (4 + 2 * i + 0) 0) (4 + 2 * i + 1) 0) 0 8 ft N tg (z_EQ S)) (svM (upd (upd (va_cpy (z_SV S) (z_TV S) 0 0 44) (4 + 2 * i + 0) 0) (4 + 2 * i + 1) 0) 0 8 ft N tg (z_EQ S) (z_MI S)))) (svN (upd (upd (va_cpy (z_SV S) (z_TV S) 0 0 44) (4 + 2 * i + 0) 0) (4 + 2 * i + 1) 0) 1 8 ft N tg (svE (upd (upd (va_cpy (z_SV S) (z_TV S) 0 0 44) (4 + 2 * i + 0) 0) (4 + 2 * i + 1) 0) 0 8 ft N tg (z_EQ S)) (svM (upd (upd (va_cpy (z_SV S) (z_TV S) 0 0 44) (4 + 2 * i + 0) 0) (4 + 2 * i + 1) 0) 0 8 ft N tg (z_EQ S) (z_MI S)))) (svD (upd (upd (va_cpy (z_SV S) (z_TV S) 0 0 44) (4 + 2 * i + 0) 0) (4 + 2 * i + 1) 0) 0 N tg (z_EQ S) (z_MI S))) (svN (upd (upd (va_cpy (z_SV S) (z_TV S) 0 0 44) (4 + 2 * i + 0) 0) (4 + 2 * i + 1) 0) 0 8 ft N tg (z_EQ S) (z_MI S))) (svM (upd (upd (va_cpy (z_SV S) (z_TV S) 0 0 44) (4 + 2 * i + 0) 0) (4 + 2 * i + 1) 0) 1 8 ft N tg (svE (upd (upd (va_cpy (z_SV S) (z_TV S) 0 0 44) (4 + 2 * i + 0) 0) (4 + 2 * i + 1) 0) 0 8 ft N tg (z_EQ S)) (svM (upd (upd (va_cpy (z_SV S) (z_TV S) 0 0 44) (4 + 2 * i + 0) 0) (4 + 2 * i + 1) 0) 0 8 ft N tg (z_EQ S) (z_MI S)))) (svE (upd (upd (va_cpy (z_SV S) (z_TV S) 0 0 44) (4 + 2 * i + 0) 0) (4 + 2 * i + 1) 0) 1 8 ft N tg (svE (upd (upd (va_cpy (z_SV S) (z_TV S) 0 0 44) (4 + 2 * i + 0) 0) (4 + 2 * i + 1) 0) 0 8 ft N tg (z_EQ S)))) (svD (upd (upd (va_cpy (z_SV S) (z_TV S) 0 0 44) (4 + 2 * i + 0) 0) (4 + 2 * i + 1) 0) 1 N tg (svE (upd (upd (va_cpy (z_SV S) (z_TV S) 0 0 44) (4 + 2 * i + 0) 0) (4 + 2 * i + 1) 0) 0 8 ft N tg (z_EQ S)) (svM (upd (upd (va_cpy (z_SV S) (z_TV S) 0 0 44) (4 + 2 * i + 0) 0) (4 + 2 * i + 1) 0) 0 8 ft N tg (z_EQ S) (z_MI S)))) (svN (upd (upd (va_cpy (z_SV S) (z_TV S) 0 0 44) (4 + 2 * i + 0) 0) (4 + 2 * i + 1) 0) 1 8 ft N tg (svE (upd (upd (va_cpy (z_SV S) (z_TV S) 0 0 44) (4 + 2 * i + 0) 0) (4 + 2 * i + 1) 0) 0 8 ft N tg (z_EQ S)) (svM (upd (upd (va_cpy (z_SV S) (z_TV S) 0 0 44) (4 + 2 * i + 0) 0) (4 + 2 * i + 1) 0) 0 8 ft N tg (z_EQ S) (z_MI S)))) (upd (upd (va_cpy (z_SV S) (z_TV S) 0 0 44) (4 + 2 * i + 0) 0) (4 + 2 * i + 1) 0)) ) (Nat.le_of_ble_eq_true rfl) rfl rfl rfl rfl (Nat.le_of_ble_eq_true rfl) (Nat.le_of_ble_eq_true rfl) (Nat.le_of_ble_eq_true rfl) 0 (Nat.le_of_ble_eq_true rfl) ?_
        refine wp_eq (st2 := .int ((recF ((upd (upd (va_cpy (z_SV S) (z_TV S) 0 0 44) (4 + 2 * i + 0) 0) (4 + 2 * i + 1) 0) (2 + 0)) (svN (upd (upd (va_cpy (z_SV S) (z_TV S) 0 0 44) (4 + 2 * i + 0) 0) (4 + 2 * i + 1) 0) 0 8 ft N tg (z_EQ S) (z_MI S)) (svD (upd (upd (va_cpy (z_SV S) (z_TV S) 0 0 44) (4 + 2 * i + 0) 0) (4 + 2 * i + 1) 0) 0 N tg (z_EQ S) (z_MI S)))) :: _) rfl ?_
        refine wp_top (y := rchF ((ch1 (z_SV S0)) i) ft N tg) (by rw [svD_eq t2 (by omega) hf, svN_eq t2 (by omega) hf, rchF, if_pos (pI_t (pI_1 c50)), hf (2 + 0) (by omega)]) ?_
        refine q_goto 69 dX9_bestChange_64 rfl ?_
        refine q_ist5 dX9_bestChange_69 (Nat.le_of_ble_eq_true rfl) rfl ?_
        refine q_iload dX9_bestChange_71 rfl ?_
        refine q_iload_n dX9_bestChange_73 rfl ?_
        refine q_icmp_le 83 dX9_bestChange_74 rfl (fun c74 => ?_) (fun c74 => ?_)
        · refine q_iinc4 (k9 := 1) dX9_bestChange_83 rfl (Nat.le_of_ble_eq_true rfl) rfl ?_
          refine wp_L (L2 := [some (.ref 0), some (.int (1)), some (.int ((bcR (ch1 (z_SV S0)) ft N tg i).1)), some (.int ((bcR (ch1 (z_SV S0)) ft N tg i).2)), some (.int (nI (i + 1))), some (.int (rchF ((ch1 (z_SV S0)) i) ft N tg))]) (by rw [show nI i + 1 = nI (i + 1) from nI_1 _]) ?_
          refine q_goto 9 dX9_bestChange_86 rfl ?_
          refine wp_fg (L2 := [some (.ref 0), some (.int (1)), some (.int ((bcR (ch1 (z_SV S0)) ft N tg i).1)), some (.int ((bcR (ch1 (z_SV S0)) ft N tg i).2)), some (.int (nI (i + 1))), none]) ⟨rfl, rfl, rfl, rfl, rfl, trivial⟩ ?_
          refine wp_L (L2 := [some (.ref 0), some (.int (1)), some (.int ((bcR (ch1 (z_SV S0)) ft N tg (i + 1)).1)), some (.int ((bcR (ch1 (z_SV S0)) ft N tg (i + 1)).2)), some (.int (nI (i + 1))), none]) (by simp only [bcR]; rw [if_pos c74]) ?_
          exact ih (i + 1) (s_TV (s_BN (s_BD (s_EQ (s_MI (s_A0 (s_A1 (s_A2 (s_A3 S (svD (upd (upd (va_cpy (z_SV S) (z_TV S) 0 0 44) (4 + 2 * i + 0) 0) (4 + 2 * i + 1) 0) 1 N tg (svE (upd (upd (va_cpy (z_SV S) (z_TV S) 0 0 44) (4 + 2 * i + 0) 0) (4 + 2 * i + 1) 0) 0 8 ft N tg (z_EQ S)) (svM (upd (upd (va_cpy (z_SV S) (z_TV S) 0 0 44) (4 + 2 * i + 0) 0) (4 + 2 * i + 1) 0) 0 8 ft N tg (z_EQ S) (z_MI S)))) (svN (upd (upd (va_cpy (z_SV S) (z_TV S) 0 0 44) (4 + 2 * i + 0) 0) (4 + 2 * i + 1) 0) 1 8 ft N tg (svE (upd (upd (va_cpy (z_SV S) (z_TV S) 0 0 44) (4 + 2 * i + 0) 0) (4 + 2 * i + 1) 0) 0 8 ft N tg (z_EQ S)) (svM (upd (upd (va_cpy (z_SV S) (z_TV S) 0 0 44) (4 + 2 * i + 0) 0) (4 + 2 * i + 1) 0) 0 8 ft N tg (z_EQ S) (z_MI S)))) (svD (upd (upd (va_cpy (z_SV S) (z_TV S) 0 0 44) (4 + 2 * i + 0) 0) (4 + 2 * i + 1) 0) 0 N tg (z_EQ S) (z_MI S))) (svN (upd (upd (va_cpy (z_SV S) (z_TV S) 0 0 44) (4 + 2 * i + 0) 0) (4 + 2 * i + 1) 0) 0 8 ft N tg (z_EQ S) (z_MI S))) (svM (upd (upd (va_cpy (z_SV S) (z_TV S) 0 0 44) (4 + 2 * i + 0) 0) (4 + 2 * i + 1) 0) 1 8 ft N tg (svE (upd (upd (va_cpy (z_SV S) (z_TV S) 0 0 44) (4 + 2 * i + 0) 0) (4 + 2 * i + 1) 0) 0 8 ft N tg (z_EQ S)) (svM (upd (upd (va_cpy (z_SV S) (z_TV S) 0 0 44) (4 + 2 * i + 0) 0) (4 + 2 * i + 1) 0) 0 8 ft N tg (z_EQ S) (z_MI S)))) (svE (upd (upd (va_cpy (z_SV S) (z_TV S) 0 0 44) (4 + 2 * i + 0) 0) (4 + 2 * i + 1) 0) 1 8 ft N tg (svE (upd (upd (va_cpy (z_SV S) (z_TV S) 0 0 44) (4 + 2 * i + 0) 0) (4 + 2 * i + 1) 0) 0 8 ft N tg (z_EQ S)))) (svD (upd (upd (va_cpy (z_SV S) (z_TV S) 0 0 44) (4 + 2 * i + 0) 0) (4 + 2 * i + 1) 0) 1 N tg (svE (upd (upd (va_cpy (z_SV S) (z_TV S) 0 0 44) (4 + 2 * i + 0) 0) (4 + 2 * i + 1) 0) 0 8 ft N tg (z_EQ S)) (svM (upd (upd (va_cpy (z_SV S) (z_TV S) 0 0 44) (4 + 2 * i + 0) 0) (4 + 2 * i + 1) 0) 0 8 ft N tg (z_EQ S) (z_MI S)))) (svN (upd (upd (va_cpy (z_SV S) (z_TV S) 0 0 44) (4 + 2 * i + 0) 0) (4 + 2 * i + 1) 0) 1 8 ft N tg (svE (upd (upd (va_cpy (z_SV S) (z_TV S) 0 0 44) (4 + 2 * i + 0) 0) (4 + 2 * i + 1) 0) 0 8 ft N tg (z_EQ S)) (svM (upd (upd (va_cpy (z_SV S) (z_TV S) 0 0 44) (4 + 2 * i + 0) 0) (4 + 2 * i + 1) 0) 0 8 ft N tg (z_EQ S) (z_MI S)))) (upd (upd (va_cpy (z_SV S) (z_TV S) 0 0 44) (4 + 2 * i + 0) 0) (4 + 2 * i + 1) 0)) (by rw [co_TV, co_BN, co_BD, co_EQ, co_MI, co_A0, co_A1, co_A2, co_A3]; exact hco) (by omega)
        · refine q_iload dX9_bestChange_77 rfl ?_
          refine q_ist3 dX9_bestChange_79 (Nat.le_of_ble_eq_true rfl) rfl ?_
          refine q_iload dX9_bestChange_80 rfl ?_
          refine q_ist2 dX9_bestChange_82 (Nat.le_of_ble_eq_true rfl) rfl ?_
          refine q_iinc4 (k9 := 1) dX9_bestChange_83 rfl (Nat.le_of_ble_eq_true rfl) rfl ?_
          refine wp_L (L2 := [some (.ref 0), some (.int (1)), some (.int (nI i)), some (.int (rchF ((ch1 (z_SV S0)) i) ft N tg)), some (.int (nI (i + 1))), some (.int (rchF ((ch1 (z_SV S0)) i) ft N tg))]) (by rw [show nI i + 1 = nI (i + 1) from nI_1 _]) ?_
          refine q_goto 9 dX9_bestChange_86 rfl ?_
          refine wp_fg (L2 := [some (.ref 0), some (.int (1)), some (.int (nI i)), some (.int (rchF ((ch1 (z_SV S0)) i) ft N tg)), some (.int (nI (i + 1))), none]) ⟨rfl, rfl, rfl, rfl, rfl, trivial⟩ ?_
          refine wp_L (L2 := [some (.ref 0), some (.int (1)), some (.int ((bcR (ch1 (z_SV S0)) ft N tg (i + 1)).1)), some (.int ((bcR (ch1 (z_SV S0)) ft N tg (i + 1)).2)), some (.int (nI (i + 1))), none]) (by simp only [bcR]; rw [if_neg c74]) ?_
          exact ih (i + 1) (s_TV (s_BN (s_BD (s_EQ (s_MI (s_A0 (s_A1 (s_A2 (s_A3 S (svD (upd (upd (va_cpy (z_SV S) (z_TV S) 0 0 44) (4 + 2 * i + 0) 0) (4 + 2 * i + 1) 0) 1 N tg (svE (upd (upd (va_cpy (z_SV S) (z_TV S) 0 0 44) (4 + 2 * i + 0) 0) (4 + 2 * i + 1) 0) 0 8 ft N tg (z_EQ S)) (svM (upd (upd (va_cpy (z_SV S) (z_TV S) 0 0 44) (4 + 2 * i + 0) 0) (4 + 2 * i + 1) 0) 0 8 ft N tg (z_EQ S) (z_MI S)))) (svN (upd (upd (va_cpy (z_SV S) (z_TV S) 0 0 44) (4 + 2 * i + 0) 0) (4 + 2 * i + 1) 0) 1 8 ft N tg (svE (upd (upd (va_cpy (z_SV S) (z_TV S) 0 0 44) (4 + 2 * i + 0) 0) (4 + 2 * i + 1) 0) 0 8 ft N tg (z_EQ S)) (svM (upd (upd (va_cpy (z_SV S) (z_TV S) 0 0 44) (4 + 2 * i + 0) 0) (4 + 2 * i + 1) 0) 0 8 ft N tg (z_EQ S) (z_MI S)))) (svD (upd (upd (va_cpy (z_SV S) (z_TV S) 0 0 44) (4 + 2 * i + 0) 0) (4 + 2 * i + 1) 0) 0 N tg (z_EQ S) (z_MI S))) (svN (upd (upd (va_cpy (z_SV S) (z_TV S) 0 0 44) (4 + 2 * i + 0) 0) (4 + 2 * i + 1) 0) 0 8 ft N tg (z_EQ S) (z_MI S))) (svM (upd (upd (va_cpy (z_SV S) (z_TV S) 0 0 44) (4 + 2 * i + 0) 0) (4 + 2 * i + 1) 0) 1 8 ft N tg (svE (upd (upd (va_cpy (z_SV S) (z_TV S) 0 0 44) (4 + 2 * i + 0) 0) (4 + 2 * i + 1) 0) 0 8 ft N tg (z_EQ S)) (svM (upd (upd (va_cpy (z_SV S) (z_TV S) 0 0 44) (4 + 2 * i + 0) 0) (4 + 2 * i + 1) 0) 0 8 ft N tg (z_EQ S) (z_MI S)))) (svE (upd (upd (va_cpy (z_SV S) (z_TV S) 0 0 44) (4 + 2 * i + 0) 0) (4 + 2 * i + 1) 0) 1 8 ft N tg (svE (upd (upd (va_cpy (z_SV S) (z_TV S) 0 0 44) (4 + 2 * i + 0) 0) (4 + 2 * i + 1) 0) 0 8 ft N tg (z_EQ S)))) (svD (upd (upd (va_cpy (z_SV S) (z_TV S) 0 0 44) (4 + 2 * i + 0) 0) (4 + 2 * i + 1) 0) 1 N tg (svE (upd (upd (va_cpy (z_SV S) (z_TV S) 0 0 44) (4 + 2 * i + 0) 0) (4 + 2 * i + 1) 0) 0 8 ft N tg (z_EQ S)) (svM (upd (upd (va_cpy (z_SV S) (z_TV S) 0 0 44) (4 + 2 * i + 0) 0) (4 + 2 * i + 1) 0) 0 8 ft N tg (z_EQ S) (z_MI S)))) (svN (upd (upd (va_cpy (z_SV S) (z_TV S) 0 0 44) (4 + 2 * i + 0) 0) (4 + 2 * i + 1) 0) 1 8 ft N tg (svE (upd (upd (va_cpy (z_SV S) (z_TV S) 0 0 44) (4 + 2 * i + 0) 0) (4 + 2 * i + 1) 0) 0 8 ft N tg (z_EQ S)) (svM (upd (upd (va_cpy (z_SV S) (z_TV S) 0 0 44) (4 + 2 * i + 0) 0) (4 + 2 * i + 1) 0) 0 8 ft N tg (z_EQ S) (z_MI S)))) (upd (upd (va_cpy (z_SV S) (z_TV S) 0 0 44) (4 + 2 * i + 0) 0) (4 + 2 * i + 1) 0)) (by rw [co_TV, co_BN, co_BD, co_EQ, co_MI, co_A0, co_A1, co_A2, co_A3]; exact hco) (by omega)
set_option maxRecDepth 100000 in
set_option maxHeartbeats 4000000 in
theorem c_X9_bestChange_1 {g : G0} (hG : Gd g) (S : SS)  (ft : Nat) (N : Nat) (tg : Nat → Nat) (h1 : tgts (z_SV S) N ft tg) : ct g mX9_bestChange [.ref 0, .int 1] (mixW g S) (fun v w1 => v = some (.int (bcR (ch1 (z_SV S)) ft N tg N).1) ∧ ∃ S2, w1 = mixW g S2 ∧ co S2 = co S) (fun _ _ => False) := by
  refine ct_of hG [some (.ref 0), some (.int (1)), none, none, none, none] rfl rfl rfl (Nat.le_of_ble_eq_true rfl) (fun h => ?_) rfl
  refine q_bipush (v := (-9)) dX9_bestChange_0 rfl ?_
  refine q_ist2 dX9_bestChange_2 (Nat.le_of_ble_eq_true rfl) rfl ?_
  refine q_bipush (v := (-9)) dX9_bestChange_3 rfl ?_
  refine q_ist3 dX9_bestChange_5 (Nat.le_of_ble_eq_true rfl) rfl ?_
  refine q_iconst (v := 0) dX9_bestChange_6 rfl ?_
  refine q_ist4 dX9_bestChange_7 (Nat.le_of_ble_eq_true rfl) rfl ?_
  refine wp_L (L2 := [some (.ref 0), some (.int (1)), some (.int ((bcR (ch1 (z_SV S)) ft N tg 0).1)), some (.int ((bcR (ch1 (z_SV S)) ft N tg 0).2)), some (.int (nI 0)), none]) rfl ?_
  exact l_X9_best_1 hG S ft N tg h1 (fun S2 hS2 => ⟨rfl, S2, rfl, hS2⟩) N 0 S rfl (by omega)
set_option maxRecDepth 100000 in
set_option maxHeartbeats 4000000 in
theorem c_X9_bestShutdown {g : G0} (hG : Gd g) (S : SS)  (ft : Nat) (N : Nat) (tg : Nat → Nat) (h1 : tgts (z_SV S) N ft tg) : ct g mX9_bestShutdown [.ref 0] (mixW g S) (fun v w1 => v = some (.int (bcR (ch1 (z_SV S)) ft N tg N).1) ∧ ∃ S2, w1 = mixW g S2 ∧ co S2 = co S) (fun _ _ => False) := by
  refine ct_of hG [some (.ref 0)] rfl rfl rfl (Nat.le_of_ble_eq_true rfl) (fun h => ?_) rfl
  refine q_aload_n dX9_bestShutdown_0 rfl ?_
  refine q_iconst (v := 1) dX9_bestShutdown_1 rfl ?_
  refine q_callVg (ν := mX9_bestChange) dX9_bestShutdown_2 uw_435 vX9_bestChange (c_X9_bestChange_1 hG S (ft) (N) (tg) h1) (Nat.le_of_ble_eq_true rfl) rfl rfl rfl rfl (Nat.le_of_ble_eq_true rfl) (Nat.le_of_ble_eq_true rfl) (Nat.le_of_ble_eq_true rfl) 0 (Nat.le_of_ble_eq_true rfl) rfl (fun _ _ z => z.elim) (fun v w1 hv => ?_)
  obtain ⟨rfl, S2, rfl, hco⟩ := hv
  refine wp_eq (st2 := .int (((bcR (ch1 (z_SV S)) ft N tg N).1)) :: _) rfl ?_
  exact q_iret dX9_bestShutdown_5 rfl ⟨rfl, S2, rfl, hco⟩
