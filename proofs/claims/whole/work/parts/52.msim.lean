/-- all but the model's scratch rows -/
def cm (S : SS) := (z_TL S, z_TX S, z_SV S, z_TV S, z_HN S, z_HK S, z_HR S, z_SL S, z_SF S, z_AR S, z_BN S, z_BD S, z_EQ S, z_MI S, z_RE S, z_QN S, z_QS S, z_QK S, z_QV S, z_A0 S, z_A1 S, z_A2 S, z_A3 S, z_B0 S, z_B1 S, z_B2 S, z_B3 S, z_C0 S, z_C1 S, z_C2 S, z_C3 S, z_RF S, z_AC S, z_NX S, z_SS S, z_ME S, z_NW S, z_DI S, z_KE S, z_IK S, z_SC S, z_MW S, z_MS S, z_OU S)
theorem cm_TR (S : SS) (v : (Nat → Int32)) : cm (s_TR S v) = cm S := by simp only [cm, s_TR, z_TL, z_TX, z_SV, z_TV, z_HN, z_HK, z_HR, z_SL, z_SF, z_AR, z_BN, z_BD, z_EQ, z_MI, z_RE, z_QN, z_QS, z_QK, z_QV, z_A0, z_A1, z_A2, z_A3, z_B0, z_B1, z_B2, z_B3, z_C0, z_C1, z_C2, z_C3, z_RF, z_AC, z_NX, z_SS, z_ME, z_NW, z_DI, z_KE, z_IK, z_SC, z_MW, z_MS, z_OU]
theorem cm_AF (S : SS) (v : (Nat → Int32)) : cm (s_AF S v) = cm S := by simp only [cm, s_AF, z_TL, z_TX, z_SV, z_TV, z_HN, z_HK, z_HR, z_SL, z_SF, z_AR, z_BN, z_BD, z_EQ, z_MI, z_RE, z_QN, z_QS, z_QK, z_QV, z_A0, z_A1, z_A2, z_A3, z_B0, z_B1, z_B2, z_B3, z_C0, z_C1, z_C2, z_C3, z_RF, z_AC, z_NX, z_SS, z_ME, z_NW, z_DI, z_KE, z_IK, z_SC, z_MW, z_MS, z_OU]
theorem cm_SP (S : SS) (v : Int32) : cm (s_SP S v) = cm S := by simp only [cm, s_SP, z_TL, z_TX, z_SV, z_TV, z_HN, z_HK, z_HR, z_SL, z_SF, z_AR, z_BN, z_BD, z_EQ, z_MI, z_RE, z_QN, z_QS, z_QK, z_QV, z_A0, z_A1, z_A2, z_A3, z_B0, z_B1, z_B2, z_B3, z_C0, z_C1, z_C2, z_C3, z_RF, z_AC, z_NX, z_SS, z_ME, z_NW, z_DI, z_KE, z_IK, z_SC, z_MW, z_MS, z_OU]
theorem cm_RD (S : SS) (v : (Nat → Int32)) : cm (s_RD S v) = cm S := by simp only [cm, s_RD, z_TL, z_TX, z_SV, z_TV, z_HN, z_HK, z_HR, z_SL, z_SF, z_AR, z_BN, z_BD, z_EQ, z_MI, z_RE, z_QN, z_QS, z_QK, z_QV, z_A0, z_A1, z_A2, z_A3, z_B0, z_B1, z_B2, z_B3, z_C0, z_C1, z_C2, z_C3, z_RF, z_AC, z_NX, z_SS, z_ME, z_NW, z_DI, z_KE, z_IK, z_SC, z_MW, z_MS, z_OU]
theorem cm_MX (S : SS) (v : (Nat → Int64)) : cm (s_MX S v) = cm S := by simp only [cm, s_MX, z_TL, z_TX, z_SV, z_TV, z_HN, z_HK, z_HR, z_SL, z_SF, z_AR, z_BN, z_BD, z_EQ, z_MI, z_RE, z_QN, z_QS, z_QK, z_QV, z_A0, z_A1, z_A2, z_A3, z_B0, z_B1, z_B2, z_B3, z_C0, z_C1, z_C2, z_C3, z_RF, z_AC, z_NX, z_SS, z_ME, z_NW, z_DI, z_KE, z_IK, z_SC, z_MW, z_MS, z_OU]
theorem cm_RT (S : SS) (v : (Nat → Int64)) : cm (s_RT S v) = cm S := by simp only [cm, s_RT, z_TL, z_TX, z_SV, z_TV, z_HN, z_HK, z_HR, z_SL, z_SF, z_AR, z_BN, z_BD, z_EQ, z_MI, z_RE, z_QN, z_QS, z_QK, z_QV, z_A0, z_A1, z_A2, z_A3, z_B0, z_B1, z_B2, z_B3, z_C0, z_C1, z_C2, z_C3, z_RF, z_AC, z_NX, z_SS, z_ME, z_NW, z_DI, z_KE, z_IK, z_SC, z_MW, z_MS, z_OU]
theorem cm_MO (S : SS) (v : (Nat → Int64)) : cm (s_MO S v) = cm S := by simp only [cm, s_MO, z_TL, z_TX, z_SV, z_TV, z_HN, z_HK, z_HR, z_SL, z_SF, z_AR, z_BN, z_BD, z_EQ, z_MI, z_RE, z_QN, z_QS, z_QK, z_QV, z_A0, z_A1, z_A2, z_A3, z_B0, z_B1, z_B2, z_B3, z_C0, z_C1, z_C2, z_C3, z_RF, z_AC, z_NX, z_SS, z_ME, z_NW, z_DI, z_KE, z_IK, z_SC, z_MW, z_MS, z_OU]
theorem cm_UP (S : SS) (v : Int64) : cm (s_UP S v) = cm S := by simp only [cm, s_UP, z_TL, z_TX, z_SV, z_TV, z_HN, z_HK, z_HR, z_SL, z_SF, z_AR, z_BN, z_BD, z_EQ, z_MI, z_RE, z_QN, z_QS, z_QK, z_QV, z_A0, z_A1, z_A2, z_A3, z_B0, z_B1, z_B2, z_B3, z_C0, z_C1, z_C2, z_C3, z_RF, z_AC, z_NX, z_SS, z_ME, z_NW, z_DI, z_KE, z_IK, z_SC, z_MW, z_MS, z_OU]
theorem cm_LO (S : SS) (v : Int64) : cm (s_LO S v) = cm S := by simp only [cm, s_LO, z_TL, z_TX, z_SV, z_TV, z_HN, z_HK, z_HR, z_SL, z_SF, z_AR, z_BN, z_BD, z_EQ, z_MI, z_RE, z_QN, z_QS, z_QK, z_QV, z_A0, z_A1, z_A2, z_A3, z_B0, z_B1, z_B2, z_B3, z_C0, z_C1, z_C2, z_C3, z_RF, z_AC, z_NX, z_SS, z_ME, z_NW, z_DI, z_KE, z_IK, z_SC, z_MW, z_MS, z_OU]
theorem cm_NWv {S S2 : SS} (h : cm S = cm S2) : z_NW S = z_NW S2 := congrArg (fun x => x.2.2.2.2.2.2.2.2.2.2.2.2.2.2.2.2.2.2.2.2.2.2.2.2.2.2.2.2.2.2.2.2.2.2.2.2.1) h
theorem cm_NW_congr {S S2 : SS} (h : cm S = cm S2) (v : Nat → Int32) : cm (s_NW S v) = cm (s_NW S2 v) := by
  have e : ∀ T : SS, cm (s_NW T v) = ((cm T).1, (cm T).2.1, (cm T).2.2.1, (cm T).2.2.2.1, (cm T).2.2.2.2.1, (cm T).2.2.2.2.2.1, (cm T).2.2.2.2.2.2.1, (cm T).2.2.2.2.2.2.2.1, (cm T).2.2.2.2.2.2.2.2.1, (cm T).2.2.2.2.2.2.2.2.2.1, (cm T).2.2.2.2.2.2.2.2.2.2.1, (cm T).2.2.2.2.2.2.2.2.2.2.2.1, (cm T).2.2.2.2.2.2.2.2.2.2.2.2.1, (cm T).2.2.2.2.2.2.2.2.2.2.2.2.2.1, (cm T).2.2.2.2.2.2.2.2.2.2.2.2.2.2.1, (cm T).2.2.2.2.2.2.2.2.2.2.2.2.2.2.2.1, (cm T).2.2.2.2.2.2.2.2.2.2.2.2.2.2.2.2.1, (cm T).2.2.2.2.2.2.2.2.2.2.2.2.2.2.2.2.2.1, (cm T).2.2.2.2.2.2.2.2.2.2.2.2.2.2.2.2.2.2.1, (cm T).2.2.2.2.2.2.2.2.2.2.2.2.2.2.2.2.2.2.2.1, (cm T).2.2.2.2.2.2.2.2.2.2.2.2.2.2.2.2.2.2.2.2.1, (cm T).2.2.2.2.2.2.2.2.2.2.2.2.2.2.2.2.2.2.2.2.2.1, (cm T).2.2.2.2.2.2.2.2.2.2.2.2.2.2.2.2.2.2.2.2.2.2.1, (cm T).2.2.2.2.2.2.2.2.2.2.2.2.2.2.2.2.2.2.2.2.2.2.2.1, (cm T).2.2.2.2.2.2.2.2.2.2.2.2.2.2.2.2.2.2.2.2.2.2.2.2.1, (cm T).2.2.2.2.2.2.2.2.2.2.2.2.2.2.2.2.2.2.2.2.2.2.2.2.2.1, (cm T).2.2.2.2.2.2.2.2.2.2.2.2.2.2.2.2.2.2.2.2.2.2.2.2.2.2.1, (cm T).2.2.2.2.2.2.2.2.2.2.2.2.2.2.2.2.2.2.2.2.2.2.2.2.2.2.2.1, (cm T).2.2.2.2.2.2.2.2.2.2.2.2.2.2.2.2.2.2.2.2.2.2.2.2.2.2.2.2.1, (cm T).2.2.2.2.2.2.2.2.2.2.2.2.2.2.2.2.2.2.2.2.2.2.2.2.2.2.2.2.2.1, (cm T).2.2.2.2.2.2.2.2.2.2.2.2.2.2.2.2.2.2.2.2.2.2.2.2.2.2.2.2.2.2.1, (cm T).2.2.2.2.2.2.2.2.2.2.2.2.2.2.2.2.2.2.2.2.2.2.2.2.2.2.2.2.2.2.2.1, (cm T).2.2.2.2.2.2.2.2.2.2.2.2.2.2.2.2.2.2.2.2.2.2.2.2.2.2.2.2.2.2.2.2.1, (cm T).2.2.2.2.2.2.2.2.2.2.2.2.2.2.2.2.2.2.2.2.2.2.2.2.2.2.2.2.2.2.2.2.2.1, (cm T).2.2.2.2.2.2.2.2.2.2.2.2.2.2.2.2.2.2.2.2.2.2.2.2.2.2.2.2.2.2.2.2.2.2.1, (cm T).2.2.2.2.2.2.2.2.2.2.2.2.2.2.2.2.2.2.2.2.2.2.2.2.2.2.2.2.2.2.2.2.2.2.2.1, v, (cm T).2.2.2.2.2.2.2.2.2.2.2.2.2.2.2.2.2.2.2.2.2.2.2.2.2.2.2.2.2.2.2.2.2.2.2.2.2.1, (cm T).2.2.2.2.2.2.2.2.2.2.2.2.2.2.2.2.2.2.2.2.2.2.2.2.2.2.2.2.2.2.2.2.2.2.2.2.2.2.1, (cm T).2.2.2.2.2.2.2.2.2.2.2.2.2.2.2.2.2.2.2.2.2.2.2.2.2.2.2.2.2.2.2.2.2.2.2.2.2.2.2.1, (cm T).2.2.2.2.2.2.2.2.2.2.2.2.2.2.2.2.2.2.2.2.2.2.2.2.2.2.2.2.2.2.2.2.2.2.2.2.2.2.2.2.1, (cm T).2.2.2.2.2.2.2.2.2.2.2.2.2.2.2.2.2.2.2.2.2.2.2.2.2.2.2.2.2.2.2.2.2.2.2.2.2.2.2.2.2.1, (cm T).2.2.2.2.2.2.2.2.2.2.2.2.2.2.2.2.2.2.2.2.2.2.2.2.2.2.2.2.2.2.2.2.2.2.2.2.2.2.2.2.2.2.1, (cm T).2.2.2.2.2.2.2.2.2.2.2.2.2.2.2.2.2.2.2.2.2.2.2.2.2.2.2.2.2.2.2.2.2.2.2.2.2.2.2.2.2.2.2) := fun T => by simp only [cm, s_NW, z_TL, z_TX, z_SV, z_TV, z_HN, z_HK, z_HR, z_SL, z_SF, z_AR, z_BN, z_BD, z_EQ, z_MI, z_RE, z_QN, z_QS, z_QK, z_QV, z_A0, z_A1, z_A2, z_A3, z_B0, z_B1, z_B2, z_B3, z_C0, z_C1, z_C2, z_C3, z_RF, z_AC, z_NX, z_SS, z_ME, z_NW, z_DI, z_KE, z_IK, z_SC, z_MW, z_MS, z_OU]
  rw [e, e, h]
def gofI (n t : Int32) : Int32 := if t < 8 ∧ n ≤ t then 9 else t
def ixB (t : Nat) : Nat := if t < 8 then 28 + 2 * t else 40 + 2 * (t - 8)
def brF (a : Nat → Int32) (t d : Nat) (x : Int32) : Nat → Int32 := upd a (ixB t + d) (a (ixB t + d) + x)
def okG (t : Nat) : Prop := t < 6 ∨ t = 8 ∨ t = 9
theorem ixB_lt {t d : Nat} (h : okG t) (hd : d < 2) : 28 ≤ ixB t ∧ ixB t + d < 44 := by
  unfold ixB
  rcases h with h | rfl | rfl
  · rw [if_pos (by omega)]; omega
  · rw [if_neg (by omega)]; omega
  · rw [if_neg (by omega)]; omega
/-- the targets of a row of the reference -/
def tgtM (f : Nat → Int32) (n ft : Nat) (tg : Nat → Nat) : Prop := f 0 = nI n ∧ n ≤ 6 ∧ gofI (f 0) (f 25) = nI ft ∧ okG ft ∧ ∀ k, k < 2 * n → gofI (f 0) (f (13 + k)) = nI (tg k) ∧ okG (tg k)
def gsA (f a : Nat → Int32) (d : Nat) (tg : Nat → Nat) : Nat → Nat → Int32
  | 0 => a
  | i + 1 => brF (brF (gsA f a d tg i) (tg (2 * i)) d (lifF (f (28 + 2 * i + d)) (f (1 + 2 * i + d)))) (tg (2 * i + 1)) d (f (28 + 2 * i + d) - lifF (f (28 + 2 * i + d)) (f (1 + 2 * i + d)))
def gs1 (f a : Nat → Int32) (d ft N : Nat) (tg : Nat → Nat) : Nat → Int32 := brF (gsA f a d tg N) ft d (f (26 + d))
def gs2 (f af : Nat → Int32) (ft N : Nat) (tg : Nat → Nat) : Nat → Int32 := gs1 f (gs1 f (zerF (va_cpy f af 0 0 44) 40) 0 ft N tg) 1 ft N tg
def gsF (f : Nat → Int32) (ft N : Nat) (tg : Nat → Nat) : Nat → Int32 := va_cpy (gs2 f f ft N tg) f 0 0 44
theorem brF_congr {a a2 : Nat → Int32} {t d : Nat} {x : Int32} (ht : okG t) (hd : d < 2) (h : ∀ j, j < 44 → a j = a2 j) : ∀ j, j < 44 → brF a t d x j = brF a2 t d x j := by
  intro j hj
  simp only [brF, upd]
  rw [h j hj, h _ (ixB_lt ht hd).2]
theorem gsA_congr {f a a2 : Nat → Int32} {d n : Nat} {tg : Nat → Nat} (hd : d < 2) (ht : ∀ k, k < 2 * n → okG (tg k)) (h : ∀ j, j < 44 → a j = a2 j) : ∀ i, i ≤ n → ∀ j, j < 44 → gsA f a d tg i j = gsA f a2 d tg i j
  | 0, _, j, hj => h j hj
  | i + 1, hi, j, hj => brF_congr (ht _ (by omega)) hd (brF_congr (ht _ (by omega)) hd (gsA_congr hd ht h i (by omega))) j hj
theorem gs1_congr {f a a2 : Nat → Int32} {d ft n : Nat} {tg : Nat → Nat} (hd : d < 2) (hf : okG ft) (ht : ∀ k, k < 2 * n → okG (tg k)) (h : ∀ j, j < 44 → a j = a2 j) : ∀ j, j < 44 → gs1 f a d ft n tg j = gs1 f a2 d ft n tg j := brF_congr hf hd (gsA_congr hd ht h n (Nat.le_refl n))
theorem gs2_eq {f af : Nat → Int32} {ft N : Nat} {tg : Nat → Nat} (h : tgtM f N ft tg) : va_cpy (gs2 f af ft N tg) f 0 0 44 = gsF f ft N tg := by
  have ht : ∀ k, k < 2 * N → okG (tg k) := fun k hk => (h.2.2.2.2 k hk).2
  have e : ∀ j, j < 44 → zerF (va_cpy f af 0 0 44) 40 j = zerF (va_cpy f f 0 0 44) 40 j := by
    intro j hj
    simp only [zerF]
    rw [cpy_at hj, cpy_at hj]
  have e2 := gs1_congr (f := f) (by omega : 1 < 2) h.2.2.2.1 ht (gs1_congr (f := f) (by omega : 0 < 2) h.2.2.2.1 ht e)
  funext j
  unfold gsF
  simp only [va_cpy]
  by_cases hj : 0 ≤ j ∧ j < 0 + 44
  · rw [if_pos hj, if_pos hj]
    exact e2 _ (by omega)
  · rw [if_neg hj, if_neg hj]
set_option maxRecDepth 100000 in
set_option maxHeartbeats 4000000 in
theorem c_X10_goalOf_27 {g : G0} (hG : Gd g) (S : SS) (t : Int32)   : ctv g mX10_goalOf [.ref 27, .int t] (mixW g S) (.int (gofI ((z_NW S) 0) t)) (mixW g S) := by
  refine ct_of hG [some (.ref 27), some (.int (t))] rfl rfl rfl (Nat.le_of_ble_eq_true rfl) (fun h => ?_) rfl
  refine q_iload_n dX10_goalOf_0 rfl ?_
  refine q_bipush (v := 8) dX10_goalOf_1 rfl ?_
  refine q_icmp_ge 18 dX10_goalOf_3 rfl (fun c3 => ?_) (fun c3 => ?_)
  · refine q_iload_n dX10_goalOf_18 rfl ?_
    exact q_iret dX10_goalOf_19 rfl ⟨by rw [gofI, if_neg (by first | exact fun z => absurd c3 (Int32.not_le.mpr z.1) | exact fun z => absurd c10 (Int32.not_lt.mpr z.2))], rfl⟩
  · refine q_iload_n dX10_goalOf_6 rfl ?_
    refine q_aload_n dX10_goalOf_7 rfl ?_
    refine q_iconst (v := 0) dX10_goalOf_8 rfl ?_
    refine q_iald (f := (z_NW S)) dX10_goalOf_9 (Nat.le_of_ble_eq_true rfl) rfl (0) rfl (Nat.le_of_ble_eq_true rfl) (Nat.le_of_ble_eq_true rfl) ?_
    refine q_icmp_lt 18 dX10_goalOf_10 rfl (fun c10 => ?_) (fun c10 => ?_)
    · refine q_iload_n dX10_goalOf_18 rfl ?_
      exact q_iret dX10_goalOf_19 rfl ⟨by rw [gofI, if_neg (by first | exact fun z => absurd c3 (Int32.not_le.mpr z.1) | exact fun z => absurd c10 (Int32.not_lt.mpr z.2))], rfl⟩
    · refine q_bipush (v := 9) dX10_goalOf_13 rfl ?_
      refine q_goto 19 dX10_goalOf_15 rfl ?_
      exact q_iret dX10_goalOf_19 rfl ⟨by rw [gofI, if_pos ⟨Int32.not_le.mp c3, Int32.not_lt.mp c10⟩], rfl⟩
set_option maxRecDepth 100000 in
set_option maxHeartbeats 4000000 in
theorem c_X10_goalOf_28 {g : G0} (hG : Gd g) (S : SS) (t : Int32)   : ctv g mX10_goalOf [.ref 28, .int t] (mixW g S) (.int (gofI ((z_TR S) 0) t)) (mixW g S) := by
  refine ct_of hG [some (.ref 28), some (.int (t))] rfl rfl rfl (Nat.le_of_ble_eq_true rfl) (fun h => ?_) rfl
  refine q_iload_n dX10_goalOf_0 rfl ?_
  refine q_bipush (v := 8) dX10_goalOf_1 rfl ?_
  refine q_icmp_ge 18 dX10_goalOf_3 rfl (fun c3 => ?_) (fun c3 => ?_)
  · refine q_iload_n dX10_goalOf_18 rfl ?_
    exact q_iret dX10_goalOf_19 rfl ⟨by rw [gofI, if_neg (by first | exact fun z => absurd c3 (Int32.not_le.mpr z.1) | exact fun z => absurd c10 (Int32.not_lt.mpr z.2))], rfl⟩
  · refine q_iload_n dX10_goalOf_6 rfl ?_
    refine q_aload_n dX10_goalOf_7 rfl ?_
    refine q_iconst (v := 0) dX10_goalOf_8 rfl ?_
    refine q_iald (f := (z_TR S)) dX10_goalOf_9 (Nat.le_of_ble_eq_true rfl) rfl (0) rfl (Nat.le_of_ble_eq_true rfl) (Nat.le_of_ble_eq_true rfl) ?_
    refine q_icmp_lt 18 dX10_goalOf_10 rfl (fun c10 => ?_) (fun c10 => ?_)
    · refine q_iload_n dX10_goalOf_18 rfl ?_
      exact q_iret dX10_goalOf_19 rfl ⟨by rw [gofI, if_neg (by first | exact fun z => absurd c3 (Int32.not_le.mpr z.1) | exact fun z => absurd c10 (Int32.not_lt.mpr z.2))], rfl⟩
    · refine q_bipush (v := 9) dX10_goalOf_13 rfl ?_
      refine q_goto 19 dX10_goalOf_15 rfl ?_
      exact q_iret dX10_goalOf_19 rfl ⟨by rw [gofI, if_pos ⟨Int32.not_le.mp c3, Int32.not_lt.mp c10⟩], rfl⟩
set_option maxRecDepth 100000 in
set_option maxHeartbeats 4000000 in
theorem c_X10_bring {g : G0} (hG : Gd g) (S : SS) (t : Nat) (d : Nat) (x : Int32)  (h1 : okG t) (h2 : d < 2) : ctu g mX10_bring [.ref 29, .int (nI t), .int (nI d), .int x] (mixW g S) (mixW g (s_AF S (brF (z_AF S) t d x))) := by
  refine ct_of hG [some (.ref 29), some (.int (nI t)), some (.int (nI d)), some (.int (x))] rfl rfl rfl (Nat.le_of_ble_eq_true rfl) (fun h => ?_) rfl
  have hb := ixB_lt h1 h2
  have ht9 : t < 10 := by unfold okG at h1; omega
  refine q_aload_n dX10_bring_0 rfl ?_
  refine q_iload_n dX10_bring_1 rfl ?_
  refine q_bipush (v := 8) dX10_bring_2 rfl ?_
  refine q_icmp_ge 16 dX10_bring_4 rfl (fun c4 => ?_) (fun c4 => ?_)
  · have n4 := (nI_leI (a := 8) (b := t) (by omega) (by omega)).mp c4
    refine q_bipush (v := 40) dX10_bring_16 rfl ?_
    refine q_iconst (v := 2) dX10_bring_18 rfl ?_
    refine q_iload_n dX10_bring_19 rfl ?_
    refine q_bipush (v := 8) dX10_bring_20 rfl ?_
    refine q_isub dX10_bring_22 ?_
    refine wp_top (y := nI (t - 8)) (pk_sub (a := t) (b := 8) (by omega)) ?_
    refine q_imul dX10_bring_23 ?_
    refine q_iadd dX10_bring_24 ?_
    refine wp_top (y := nI (ixB t)) (by simp only [fa_lit, pk_mul, nI_add]; rw [ixB, if_neg (by omega)]) ?_
    refine q_iload_n dX10_bring_25 rfl ?_
    refine q_iadd dX10_bring_26 ?_
    refine q_dup2_11 dX10_bring_27 rfl rfl ?_
    refine q_iald (f := (z_AF S)) dX10_bring_28 (Nat.le_of_ble_eq_true rfl) rfl (((ixB t) + d)) (by simp only [fa_lit, pk_mul, nI_add]) (by omega) (Nat.le_of_ble_eq_true rfl) ?_
    refine q_iload_n dX10_bring_29 rfl ?_
    refine q_iadd dX10_bring_30 ?_
    refine q_iast (f := (z_AF S)) dX10_bring_31 (Nat.le_of_ble_eq_true rfl) rfl (((ixB t) + d)) (by simp only [fa_lit, pk_mul, nI_add]) (by omega) (Nat.le_of_ble_eq_true rfl) ?_
    refine wp_w (u_AF g _ _) ?_
    exact q_vret dX10_bring_32 rfl ⟨rfl, rfl⟩
  · have n4 := mt (nI_leI (a := 8) (b := t) (by omega) (by omega)).mpr c4
    refine q_bipush (v := 28) dX10_bring_7 rfl ?_
    refine q_iconst (v := 2) dX10_bring_9 rfl ?_
    refine q_iload_n dX10_bring_10 rfl ?_
    refine q_imul dX10_bring_11 ?_
    refine q_iadd dX10_bring_12 ?_
    refine q_goto 25 dX10_bring_13 rfl ?_
    refine wp_top (y := nI (ixB t)) (by simp only [fa_lit, pk_mul, nI_add]; rw [ixB, if_pos (by omega)]) ?_
    refine q_iload_n dX10_bring_25 rfl ?_
    refine q_iadd dX10_bring_26 ?_
    refine q_dup2_11 dX10_bring_27 rfl rfl ?_
    refine q_iald (f := (z_AF S)) dX10_bring_28 (Nat.le_of_ble_eq_true rfl) rfl (((ixB t) + d)) (by simp only [fa_lit, pk_mul, nI_add]) (by omega) (Nat.le_of_ble_eq_true rfl) ?_
    refine q_iload_n dX10_bring_29 rfl ?_
    refine q_iadd dX10_bring_30 ?_
    refine q_iast (f := (z_AF S)) dX10_bring_31 (Nat.le_of_ble_eq_true rfl) rfl (((ixB t) + d)) (by simp only [fa_lit, pk_mul, nI_add]) (by omega) (Nat.le_of_ble_eq_true rfl) ?_
    refine wp_w (u_AF g _ _) ?_
    exact q_vret dX10_bring_32 rfl ⟨rfl, rfl⟩
set_option maxRecDepth 100000 in
set_option maxHeartbeats 4000000 in
theorem l_X10_gs0_27 {g : G0} {h : G1} (hG : Gd g) (S : SS) {Q : State → Prop}  (k : wp g h mX10_goStep (mixW g (s_AF S (zerF (z_AF S) (28 + 12)))) [some (.ref 26), some (.ref 27), some (.int (nI 12)), none, none, none, none] [] 0 Q 32) : ∀ (n i : Nat), i + n = 12 → wp g h mX10_goStep (mixW g (s_AF S (zerF (z_AF S) (28 + i)))) [some (.ref 26), some (.ref 27), some (.int (nI i)), none, none, none, none] [] 0 Q 10 := by
  intro n
  induction n with
  | zero =>
    intro i hq1
    obtain rfl : 12 = i := by omega
    refine q_iload_n dX10_goStep_10 rfl ?_
    refine q_bipush (v := 12) dX10_goStep_11 rfl ?_
    refine q_icmp_ge 32 dX10_goStep_13 rfl (fun c13 => ?_) (fun c13 => ?_)
    · have n13 := (nI_leI (a := 12) (b := 12) (by omega) (by omega)).mp c13
      exact k
    · have n13 := mt (nI_leI (a := 12) (b := 12) (by omega) (by omega)).mpr c13
      omega
  | succ n ih =>
    intro i hq1
    refine q_iload_n dX10_goStep_10 rfl ?_
    refine q_bipush (v := 12) dX10_goStep_11 rfl ?_
    refine q_icmp_ge 32 dX10_goStep_13 rfl (fun c13 => ?_) (fun c13 => ?_)
    · have n13 := (nI_leI (a := 12) (b := i) (by omega) (by omega)).mp c13
      omega
    · have n13 := mt (nI_leI (a := 12) (b := i) (by omega) (by omega)).mpr c13
      refine q_aload_n dX10_goStep_16 rfl ?_
      refine q_get (j := 3) (v := .ref 29) dX10_goStep_17 (Nat.le_of_ble_eq_true rfl) rfl rfl iuX10 (Nat.le_of_ble_eq_true rfl) uw_927 rfl rfl ?_
      refine q_bipush (v := 28) dX10_goStep_20 rfl ?_
      refine q_iload_n dX10_goStep_22 rfl ?_
      refine q_iadd dX10_goStep_23 ?_
      refine q_iconst (v := 0) dX10_goStep_24 rfl ?_
      refine q_iast (f := (zerF (z_AF S) (28 + i))) dX10_goStep_25 (Nat.le_of_ble_eq_true rfl) rfl ((28 + i)) (by simp only [fa_lit, pk_mul, nI_add]) (by omega) (Nat.le_of_ble_eq_true rfl) ?_
      refine wp_w (u_AF g _ _) ?_
      rw [ss_AF]
      refine q_iinc2 (k9 := 1) dX10_goStep_26 rfl (Nat.le_of_ble_eq_true rfl) rfl ?_
      refine wp_L (L2 := [some (.ref 26), some (.ref 27), some (.int (nI (i + 1))), none, none, none, none]) (by rw [show nI i + 1 = nI (i + 1) from nI_1 _]) ?_
      refine q_goto 10 dX10_goStep_29 rfl ?_
      rw [upd_zer _ _ (by omega), show 28 + i + 1 = 28 + (i + 1) from rfl]
      exact ih (i + 1) (by omega)
set_option maxRecDepth 100000 in
set_option maxHeartbeats 4000000 in
theorem l_X10_gsA_27 {g : G0} {h : G1} (hG : Gd g) (S : SS) {Q : State → Prop} (d ft N : Nat) (tg : Nat → Nat) (hd : d < 2) (ht : tgtM (z_NW S) N ft tg) (k : wp g h mX10_goStep (mixW g (s_AF S (gsA (z_NW S) (z_AF S) d tg N))) [some (.ref 26), some (.ref 27), some (.int (nI d)), some (.int (nI N)), none, none, none] [] 0 Q 137) : ∀ (n i : Nat), i + n = N → wp g h mX10_goStep (mixW g (s_AF S (gsA (z_NW S) (z_AF S) d tg i))) [some (.ref 26), some (.ref 27), some (.int (nI d)), some (.int (nI i)), none, none, none] [] 0 Q 41 := by
  intro n
  induction n with
  | zero =>
    intro i hq1
    obtain ⟨t1, t2, t3, t4, t5⟩ := ht
    obtain rfl : N = i := by omega
    refine q_iload_n dX10_goStep_41 rfl ?_
    refine q_aload_n dX10_goStep_42 rfl ?_
    refine q_iconst (v := 0) dX10_goStep_43 rfl ?_
    refine q_iald (f := (z_NW S)) dX10_goStep_44 (Nat.le_of_ble_eq_true rfl) rfl (0) rfl (Nat.le_of_ble_eq_true rfl) (Nat.le_of_ble_eq_true rfl) ?_
    refine wp_top (y := nI N) t1 ?_
    refine q_icmp_ge 137 dX10_goStep_45 rfl (fun c45 => ?_) (fun c45 => ?_)
    · have n45 := (nI_leI (a := N) (b := N) (by omega) (by omega)).mp c45
      exact k
    · have n45 := mt (nI_leI (a := N) (b := N) (by omega) (by omega)).mpr c45
      omega
  | succ n ih =>
    intro i hq1
    obtain ⟨t1, t2, t3, t4, t5⟩ := ht
    refine q_iload_n dX10_goStep_41 rfl ?_
    refine q_aload_n dX10_goStep_42 rfl ?_
    refine q_iconst (v := 0) dX10_goStep_43 rfl ?_
    refine q_iald (f := (z_NW S)) dX10_goStep_44 (Nat.le_of_ble_eq_true rfl) rfl (0) rfl (Nat.le_of_ble_eq_true rfl) (Nat.le_of_ble_eq_true rfl) ?_
    refine wp_top (y := nI N) t1 ?_
    refine q_icmp_ge 137 dX10_goStep_45 rfl (fun c45 => ?_) (fun c45 => ?_)
    · have n45 := (nI_leI (a := N) (b := i) (by omega) (by omega)).mp c45
      omega
    · have n45 := mt (nI_leI (a := N) (b := i) (by omega) (by omega)).mpr c45
      refine q_aload_n dX10_goStep_48 rfl ?_
      refine q_bipush (v := 28) dX10_goStep_49 rfl ?_
      refine q_iconst (v := 2) dX10_goStep_51 rfl ?_
      refine q_iload_n dX10_goStep_52 rfl ?_
      refine q_imul dX10_goStep_53 ?_
      refine q_iadd dX10_goStep_54 ?_
      refine q_iload_n dX10_goStep_55 rfl ?_
      refine q_iadd dX10_goStep_56 ?_
      refine q_iald (f := (z_NW S)) dX10_goStep_57 (Nat.le_of_ble_eq_true rfl) rfl (((28 + (2 * i)) + d)) (by simp only [fa_lit, pk_mul, nI_add]) (by omega) (Nat.le_of_ble_eq_true rfl) ?_
      refine q_i2l dX10_goStep_58 ?_
      refine q_lst4 dX10_goStep_59 (Nat.le_of_ble_eq_true rfl) rfl ?_
      refine q_lload dX10_goStep_61 rfl ?_
      refine q_aload_n dX10_goStep_63 rfl ?_
      refine q_iconst (v := 1) dX10_goStep_64 rfl ?_
      refine q_iconst (v := 2) dX10_goStep_65 rfl ?_
      refine q_iload_n dX10_goStep_66 rfl ?_
      refine q_imul dX10_goStep_67 ?_
      refine q_iadd dX10_goStep_68 ?_
      refine q_iload_n dX10_goStep_69 rfl ?_
      refine q_iadd dX10_goStep_70 ?_
      refine q_iald (f := (z_NW S)) dX10_goStep_71 (Nat.le_of_ble_eq_true rfl) rfl (((1 + (2 * i)) + d)) (by simp only [fa_lit, pk_mul, nI_add]) (by omega) (Nat.le_of_ble_eq_true rfl) ?_
      refine q_i2l dX10_goStep_72 ?_
      refine q_lmul dX10_goStep_73 ?_
      refine q_ldc2 dX10_goStep_74 uw_1076 ?_
      refine q_ldiv dX10_goStep_77 (by decide) ?_
      refine q_l2i dX10_goStep_78 ?_
      refine wp_top (y := lifF (z_NW S (28 + 2 * i + d)) (z_NW S (1 + 2 * i + d))) rfl ?_
      refine q_ist6 dX10_goStep_79 (Nat.le_of_ble_eq_true rfl) rfl ?_
      refine q_aload_n dX10_goStep_81 rfl ?_
      refine q_get (j := 3) (v := .ref 29) dX10_goStep_82 (Nat.le_of_ble_eq_true rfl) rfl rfl iuX10 (Nat.le_of_ble_eq_true rfl) uw_927 rfl rfl ?_
      refine q_aload_n dX10_goStep_85 rfl ?_
      refine q_aload_n dX10_goStep_86 rfl ?_
      refine q_bipush (v := 13) dX10_goStep_87 rfl ?_
      refine q_iconst (v := 2) dX10_goStep_89 rfl ?_
      refine q_iload_n dX10_goStep_90 rfl ?_
      refine q_imul dX10_goStep_91 ?_
      refine q_iadd dX10_goStep_92 ?_
      refine q_iald (f := (z_NW S)) dX10_goStep_93 (Nat.le_of_ble_eq_true rfl) rfl ((13 + (2 * i))) (by simp only [fa_lit, pk_mul, nI_add]) (by omega) (Nat.le_of_ble_eq_true rfl) ?_
      refine q_callSv (ν := mX10_goalOf) dX10_goStep_94 uw_1106 vX10_goalOf (c_X10_goalOf_27 hG (s_AF S (gsA (z_NW S) (z_AF S) d tg i)) ((((z_NW S) ((13 + (2 * i))))))) rfl rfl (Nat.le_of_ble_eq_true rfl) (Nat.le_of_ble_eq_true rfl) (Nat.le_of_ble_eq_true rfl) 0 (Nat.le_of_ble_eq_true rfl) ?_
      refine wp_eq (st2 := .int ((gofI ((z_NW S) 0) (((z_NW S) ((13 + (2 * i))))))) :: _) rfl ?_
      refine wp_top (y := nI (tg (2 * i))) (t5 (2 * i) (by omega)).1 ?_
      refine q_iload_n dX10_goStep_97 rfl ?_
      refine q_iload dX10_goStep_98 rfl ?_
      refine q_callSu (ν := mX10_bring) dX10_goStep_100 uw_1109 vX10_bring (c_X10_bring hG (s_AF S (gsA (z_NW S) (z_AF S) d tg i)) ((tg (2 * i))) (d) ((lifF (z_NW S (28 + 2 * i + d)) (z_NW S (1 + 2 * i + d)))) (t5 (2 * i) (by omega)).2 hd) rfl rfl (Nat.le_of_ble_eq_true rfl) (Nat.le_of_ble_eq_true rfl) (Nat.le_of_ble_eq_true rfl) 0 (Nat.le_of_ble_eq_true rfl) ?_
      rw [ss_AF]
      refine wp_w (w2 := mixW g (s_AF S (brF (gsA (z_NW S) (z_AF S) d tg i) (tg (2 * i)) d (lifF (z_NW S (28 + 2 * i + d)) (z_NW S (1 + 2 * i + d)))))) rfl ?_
      refine q_aload_n dX10_goStep_103 rfl ?_
      refine q_get (j := 3) (v := .ref 29) dX10_goStep_104 (Nat.le_of_ble_eq_true rfl) rfl rfl iuX10 (Nat.le_of_ble_eq_true rfl) uw_927 rfl rfl ?_
      refine q_aload_n dX10_goStep_107 rfl ?_
      refine q_aload_n dX10_goStep_108 rfl ?_
      refine q_bipush (v := 13) dX10_goStep_109 rfl ?_
      refine q_iconst (v := 2) dX10_goStep_111 rfl ?_
      refine q_iload_n dX10_goStep_112 rfl ?_
      refine q_imul dX10_goStep_113 ?_
      refine q_iadd dX10_goStep_114 ?_
      refine q_iconst (v := 1) dX10_goStep_115 rfl ?_
      refine q_iadd dX10_goStep_116 ?_
      refine q_iald (f := (z_NW S)) dX10_goStep_117 (Nat.le_of_ble_eq_true rfl) rfl (13 + (2 * i + 1)) (by simp only [fa_lit, pk_mul, nI_add]; exact congrArg nI (by omega)) (by omega) (Nat.le_of_ble_eq_true rfl) ?_
      refine q_callSv (ν := mX10_goalOf) dX10_goStep_118 uw_1106 vX10_goalOf (c_X10_goalOf_27 hG (s_AF S (brF (gsA (z_NW S) (z_AF S) d tg i) (tg (2 * i)) d (lifF (z_NW S (28 + 2 * i + d)) (z_NW S (1 + 2 * i + d))))) ((((z_NW S) (13 + (2 * i + 1)))))) rfl rfl (Nat.le_of_ble_eq_true rfl) (Nat.le_of_ble_eq_true rfl) (Nat.le_of_ble_eq_true rfl) 0 (Nat.le_of_ble_eq_true rfl) ?_
      refine wp_eq (st2 := .int ((gofI ((z_NW S) 0) (((z_NW S) (13 + (2 * i + 1)))))) :: _) rfl ?_
      refine wp_top (y := nI (tg (2 * i + 1))) (t5 (2 * i + 1) (by omega)).1 ?_
      refine q_iload_n dX10_goStep_121 rfl ?_
      refine q_lload dX10_goStep_122 rfl ?_
      refine q_l2i dX10_goStep_124 ?_
      refine wp_top (y := z_NW S (28 + 2 * i + d)) (Int32.toInt32_toInt64 _) ?_
      refine q_iload dX10_goStep_125 rfl ?_
      refine q_isub dX10_goStep_127 ?_
      refine q_callSu (ν := mX10_bring) dX10_goStep_128 uw_1109 vX10_bring (c_X10_bring hG (s_AF S (brF (gsA (z_NW S) (z_AF S) d tg i) (tg (2 * i)) d (lifF (z_NW S (28 + 2 * i + d)) (z_NW S (1 + 2 * i + d))))) ((tg (2 * i + 1))) (d) (((z_NW S (28 + 2 * i + d) - lifF (z_NW S (28 + 2 * i + d)) (z_NW S (1 + 2 * i + d))))) (t5 (2 * i + 1) (by omega)).2 hd) rfl rfl (Nat.le_of_ble_eq_true rfl) (Nat.le_of_ble_eq_true rfl) (Nat.le_of_ble_eq_true rfl) 0 (Nat.le_of_ble_eq_true rfl) ?_
      rw [ss_AF]
      refine wp_w (w2 := mixW g (s_AF S (brF (brF (gsA (z_NW S) (z_AF S) d tg i) (tg (2 * i)) d (lifF (z_NW S (28 + 2 * i + d)) (z_NW S (1 + 2 * i + d)))) (tg (2 * i + 1)) d ((z_NW S (28 + 2 * i + d) - lifF (z_NW S (28 + 2 * i + d)) (z_NW S (1 + 2 * i + d))))))) rfl ?_
      refine q_iinc3 (k9 := 1) dX10_goStep_131 rfl (Nat.le_of_ble_eq_true rfl) rfl ?_
      refine wp_L (L2 := [some (.ref 26), some (.ref 27), some (.int (nI d)), some (.int (nI (i + 1))), some (.long ((((z_NW S) (((28 + (2 * i)) + d))) : Int32).toInt64)), none, some (.int (lifF (z_NW S (28 + 2 * i + d)) (z_NW S (1 + 2 * i + d))))]) (by rw [show nI i + 1 = nI (i + 1) from nI_1 _]) ?_
      refine q_goto 41 dX10_goStep_134 rfl ?_
      refine wp_fg (L2 := [some (.ref 26), some (.ref 27), some (.int (nI d)), some (.int (nI (i + 1))), none, none, none]) ⟨rfl, rfl, rfl, rfl, trivial⟩ ?_
      refine wp_w (w2 := mixW g (s_AF S (gsA (z_NW S) (z_AF S) d tg (i + 1)))) rfl ?_
      exact ih (i + 1) (by omega)
set_option maxRecDepth 100000 in
set_option maxHeartbeats 4000000 in
theorem c_X10_goStep_27 {g : G0} (hG : Gd g) (S : SS)  (ft : Nat) (N : Nat) (tg : Nat → Nat) (h1 : tgtM (z_NW S) N ft tg) : ctu g mX10_goStep [.ref 26, .ref 27] (mixW g S) (mixW g (s_NW (s_AF S (gs2 (z_NW S) (z_AF S) ft N tg)) (gsF (z_NW S) ft N tg))) := by
  refine ct_of hG [some (.ref 26), some (.ref 27), none, none, none, none, none] rfl rfl rfl (Nat.le_of_ble_eq_true rfl) (fun h => ?_) rfl
  refine q_aload_n dX10_goStep_0 rfl ?_
  refine q_aload_n dX10_goStep_1 rfl ?_
  refine q_get (j := 3) (v := .ref 29) dX10_goStep_2 (Nat.le_of_ble_eq_true rfl) rfl rfl iuX10 (Nat.le_of_ble_eq_true rfl) uw_927 rfl rfl ?_
  refine q_callSu (ν := mX10_copy) dX10_goStep_5 uw_1042 vX10_copy (c_X10_copy_27_29 hG S ) rfl rfl (Nat.le_of_ble_eq_true rfl) (Nat.le_of_ble_eq_true rfl) (Nat.le_of_ble_eq_true rfl) 0 (Nat.le_of_ble_eq_true rfl) ?_
  refine wp_w (w2 := mixW g (s_AF S (va_cpy (z_NW S) (z_AF S) 0 0 44))) rfl ?_
  refine q_iconst (v := 0) dX10_goStep_8 rfl ?_
  refine q_ist2 dX10_goStep_9 (Nat.le_of_ble_eq_true rfl) rfl ?_
  refine wp_w (w2 := mixW g (s_AF (s_AF S (va_cpy (z_NW S) (z_AF S) 0 0 44)) (zerF (z_AF (s_AF S (va_cpy (z_NW S) (z_AF S) 0 0 44))) (28 + 0)))) (by rw [zer_28', se_AF]) ?_
  refine l_X10_gs0_27 hG (s_AF S (va_cpy (z_NW S) (z_AF S) 0 0 44)) ?_ 12 0 (by omega)
  rw [ss_AF]
  refine wp_w (w2 := mixW g (s_AF S (zerF (va_cpy (z_NW S) (z_AF S) 0 0 44) 40))) rfl ?_
  refine q_iconst (v := 0) dX10_goStep_32 rfl ?_
  refine q_ist2 dX10_goStep_33 (Nat.le_of_ble_eq_true rfl) rfl ?_
  refine q_iload_n dX10_goStep_34 rfl ?_
  refine q_iconst (v := 2) dX10_goStep_35 rfl ?_
  refine q_icmp_ge 165 dX10_goStep_36 rfl (fun c36 => ?_) (fun c36 => ?_)
  · first | exact absurd (by decide) c36 | exact absurd c36 (by decide)
  · refine q_iconst (v := 0) dX10_goStep_39 rfl ?_
    refine q_ist3 dX10_goStep_40 (Nat.le_of_ble_eq_true rfl) rfl ?_
    refine wp_L (L2 := [some (.ref 26), some (.ref 27), some (.int (nI 0)), some (.int (nI 0)), none, none, none]) rfl ?_
    refine wp_w (w2 := mixW g (s_AF (s_AF S (zerF (va_cpy (z_NW S) (z_AF S) 0 0 44) 40)) (gsA (z_NW (s_AF S (zerF (va_cpy (z_NW S) (z_AF S) 0 0 44) 40))) (z_AF (s_AF S (zerF (va_cpy (z_NW S) (z_AF S) 0 0 44) 40))) 0 tg 0))) (by rw [ss_AF]; rfl) ?_
    refine l_X10_gsA_27 hG (s_AF S (zerF (va_cpy (z_NW S) (z_AF S) 0 0 44) 40)) 0 ft N tg (by omega) h1 ?_ N 0 (by omega)
    rw [ss_AF]
    refine wp_w (w2 := mixW g (s_AF S (gsA (z_NW S) (zerF (va_cpy (z_NW S) (z_AF S) 0 0 44) 40) 0 tg N))) rfl ?_
    refine q_aload_n dX10_goStep_137 rfl ?_
    refine q_get (j := 3) (v := .ref 29) dX10_goStep_138 (Nat.le_of_ble_eq_true rfl) rfl rfl iuX10 (Nat.le_of_ble_eq_true rfl) uw_927 rfl rfl ?_
    refine q_aload_n dX10_goStep_141 rfl ?_
    refine q_aload_n dX10_goStep_142 rfl ?_
    refine q_bipush (v := 25) dX10_goStep_143 rfl ?_
    refine q_iald (f := (z_NW S)) dX10_goStep_145 (Nat.le_of_ble_eq_true rfl) rfl (25) rfl (Nat.le_of_ble_eq_true rfl) (Nat.le_of_ble_eq_true rfl) ?_
    refine q_callSv (ν := mX10_goalOf) dX10_goStep_146 uw_1106 vX10_goalOf (c_X10_goalOf_27 hG (s_AF S (gsA (z_NW S) (zerF (va_cpy (z_NW S) (z_AF S) 0 0 44) 40) 0 tg N)) ((((z_NW S) (25))))) rfl rfl (Nat.le_of_ble_eq_true rfl) (Nat.le_of_ble_eq_true rfl) (Nat.le_of_ble_eq_true rfl) 0 (Nat.le_of_ble_eq_true rfl) ?_
    refine wp_eq (st2 := .int ((gofI ((z_NW S) 0) (((z_NW S) (25))))) :: _) rfl ?_
    refine wp_top (y := nI ft) h1.2.2.1 ?_
    refine q_iload_n dX10_goStep_149 rfl ?_
    refine q_aload_n dX10_goStep_150 rfl ?_
    refine q_bipush (v := 26) dX10_goStep_151 rfl ?_
    refine q_iload_n dX10_goStep_153 rfl ?_
    refine q_iadd dX10_goStep_154 ?_
    refine q_iald (f := (z_NW S)) dX10_goStep_155 (Nat.le_of_ble_eq_true rfl) rfl ((26 + 0)) (by simp only [fa_lit, pk_mul, nI_add]) (by omega) (Nat.le_of_ble_eq_true rfl) ?_
    refine q_callSu (ν := mX10_bring) dX10_goStep_156 uw_1109 vX10_bring (c_X10_bring hG (s_AF S (gsA (z_NW S) (zerF (va_cpy (z_NW S) (z_AF S) 0 0 44) 40) 0 tg N)) (ft) (0) ((((z_NW S) ((26 + 0))))) h1.2.2.2.1 (by omega)) rfl rfl (Nat.le_of_ble_eq_true rfl) (Nat.le_of_ble_eq_true rfl) (Nat.le_of_ble_eq_true rfl) 0 (Nat.le_of_ble_eq_true rfl) ?_
    rw [ss_AF]
    refine wp_w (w2 := mixW g (s_AF S (brF (gsA (z_NW S) (zerF (va_cpy (z_NW S) (z_AF S) 0 0 44) 40) 0 tg N) ft 0 (((z_NW S) ((26 + 0))))))) rfl ?_
    refine q_iinc2 (k9 := 1) dX10_goStep_159 rfl (Nat.le_of_ble_eq_true rfl) rfl ?_
    refine wp_L (L2 := [some (.ref 26), some (.ref 27), some (.int (1)), some (.int (nI N)), none, none, none]) rfl ?_
    refine q_goto 34 dX10_goStep_162 rfl ?_
    refine q_iload_n dX10_goStep_34 rfl ?_
    refine q_iconst (v := 2) dX10_goStep_35 rfl ?_
    refine q_icmp_ge 165 dX10_goStep_36 rfl (fun c36 => ?_) (fun c36 => ?_)
    · first | exact absurd (by decide) c36 | exact absurd c36 (by decide)
    · refine q_iconst (v := 0) dX10_goStep_39 rfl ?_
      refine q_ist3 dX10_goStep_40 (Nat.le_of_ble_eq_true rfl) rfl ?_
      refine wp_L (L2 := [some (.ref 26), some (.ref 27), some (.int (nI 1)), some (.int (nI 0)), none, none, none]) rfl ?_
      refine wp_w (w2 := mixW g (s_AF (s_AF S (brF (gsA (z_NW S) (zerF (va_cpy (z_NW S) (z_AF S) 0 0 44) 40) 0 tg N) ft 0 (((z_NW S) ((26 + 0)))))) (gsA (z_NW (s_AF S (brF (gsA (z_NW S) (zerF (va_cpy (z_NW S) (z_AF S) 0 0 44) 40) 0 tg N) ft 0 (((z_NW S) ((26 + 0))))))) (z_AF (s_AF S (brF (gsA (z_NW S) (zerF (va_cpy (z_NW S) (z_AF S) 0 0 44) 40) 0 tg N) ft 0 (((z_NW S) ((26 + 0))))))) 1 tg 0))) (by rw [ss_AF]; rfl) ?_
      refine l_X10_gsA_27 hG (s_AF S (brF (gsA (z_NW S) (zerF (va_cpy (z_NW S) (z_AF S) 0 0 44) 40) 0 tg N) ft 0 (((z_NW S) ((26 + 0)))))) 1 ft N tg (by omega) h1 ?_ N 0 (by omega)
      rw [ss_AF]
      refine wp_w (w2 := mixW g (s_AF S (gsA (z_NW S) (brF (gsA (z_NW S) (zerF (va_cpy (z_NW S) (z_AF S) 0 0 44) 40) 0 tg N) ft 0 (((z_NW S) ((26 + 0))))) 1 tg N))) rfl ?_
      refine q_aload_n dX10_goStep_137 rfl ?_
      refine q_get (j := 3) (v := .ref 29) dX10_goStep_138 (Nat.le_of_ble_eq_true rfl) rfl rfl iuX10 (Nat.le_of_ble_eq_true rfl) uw_927 rfl rfl ?_
      refine q_aload_n dX10_goStep_141 rfl ?_
      refine q_aload_n dX10_goStep_142 rfl ?_
      refine q_bipush (v := 25) dX10_goStep_143 rfl ?_
      refine q_iald (f := (z_NW S)) dX10_goStep_145 (Nat.le_of_ble_eq_true rfl) rfl (25) rfl (Nat.le_of_ble_eq_true rfl) (Nat.le_of_ble_eq_true rfl) ?_
      refine q_callSv (ν := mX10_goalOf) dX10_goStep_146 uw_1106 vX10_goalOf (c_X10_goalOf_27 hG (s_AF S (gsA (z_NW S) (brF (gsA (z_NW S) (zerF (va_cpy (z_NW S) (z_AF S) 0 0 44) 40) 0 tg N) ft 0 (((z_NW S) ((26 + 0))))) 1 tg N)) ((((z_NW S) (25))))) rfl rfl (Nat.le_of_ble_eq_true rfl) (Nat.le_of_ble_eq_true rfl) (Nat.le_of_ble_eq_true rfl) 0 (Nat.le_of_ble_eq_true rfl) ?_
      refine wp_eq (st2 := .int ((gofI ((z_NW S) 0) (((z_NW S) (25))))) :: _) rfl ?_
      refine wp_top (y := nI ft) h1.2.2.1 ?_
      refine q_iload_n dX10_goStep_149 rfl ?_
      refine q_aload_n dX10_goStep_150 rfl ?_
      refine q_bipush (v := 26) dX10_goStep_151 rfl ?_
      refine q_iload_n dX10_goStep_153 rfl ?_
      refine q_iadd dX10_goStep_154 ?_
      refine q_iald (f := (z_NW S)) dX10_goStep_155 (Nat.le_of_ble_eq_true rfl) rfl ((26 + 1)) (by simp only [fa_lit, pk_mul, nI_add]) (by omega) (Nat.le_of_ble_eq_true rfl) ?_
      refine q_callSu (ν := mX10_bring) dX10_goStep_156 uw_1109 vX10_bring (c_X10_bring hG (s_AF S (gsA (z_NW S) (brF (gsA (z_NW S) (zerF (va_cpy (z_NW S) (z_AF S) 0 0 44) 40) 0 tg N) ft 0 (((z_NW S) ((26 + 0))))) 1 tg N)) (ft) (1) ((((z_NW S) ((26 + 1))))) h1.2.2.2.1 (by omega)) rfl rfl (Nat.le_of_ble_eq_true rfl) (Nat.le_of_ble_eq_true rfl) (Nat.le_of_ble_eq_true rfl) 0 (Nat.le_of_ble_eq_true rfl) ?_
      rw [ss_AF]
      refine wp_w (w2 := mixW g (s_AF S (brF (gsA (z_NW S) (brF (gsA (z_NW S) (zerF (va_cpy (z_NW S) (z_AF S) 0 0 44) 40) 0 tg N) ft 0 (((z_NW S) ((26 + 0))))) 1 tg N) ft 1 (((z_NW S) ((26 + 1))))))) rfl ?_
      refine q_iinc2 (k9 := 1) dX10_goStep_159 rfl (Nat.le_of_ble_eq_true rfl) rfl ?_
      refine wp_L (L2 := [some (.ref 26), some (.ref 27), some (.int (2)), some (.int (nI N)), none, none, none]) rfl ?_
      refine q_goto 34 dX10_goStep_162 rfl ?_
      refine q_iload_n dX10_goStep_34 rfl ?_
      refine q_iconst (v := 2) dX10_goStep_35 rfl ?_
      refine q_icmp_ge 165 dX10_goStep_36 rfl (fun c36 => ?_) (fun c36 => ?_)
      · refine q_aload_n dX10_goStep_165 rfl ?_
        refine q_get (j := 3) (v := .ref 29) dX10_goStep_166 (Nat.le_of_ble_eq_true rfl) rfl rfl iuX10 (Nat.le_of_ble_eq_true rfl) uw_927 rfl rfl ?_
        refine q_aload_n dX10_goStep_169 rfl ?_
        refine q_callSu (ν := mX10_copy) dX10_goStep_170 uw_1042 vX10_copy (c_X10_copy_29_27 hG (s_AF S (brF (gsA (z_NW S) (brF (gsA (z_NW S) (zerF (va_cpy (z_NW S) (z_AF S) 0 0 44) 40) 0 tg N) ft 0 (((z_NW S) ((26 + 0))))) 1 tg N) ft 1 (((z_NW S) ((26 + 1)))))) ) rfl rfl (Nat.le_of_ble_eq_true rfl) (Nat.le_of_ble_eq_true rfl) (Nat.le_of_ble_eq_true rfl) 0 (Nat.le_of_ble_eq_true rfl) ?_
        refine wp_w (w2 := mixW g (s_NW (s_AF S (brF (gsA (z_NW S) (brF (gsA (z_NW S) (zerF (va_cpy (z_NW S) (z_AF S) 0 0 44) 40) 0 tg N) ft 0 (((z_NW S) ((26 + 0))))) 1 tg N) ft 1 (((z_NW S) ((26 + 1)))))) (va_cpy (brF (gsA (z_NW S) (brF (gsA (z_NW S) (zerF (va_cpy (z_NW S) (z_AF S) 0 0 44) 40) 0 tg N) ft 0 (((z_NW S) ((26 + 0))))) 1 tg N) ft 1 (((z_NW S) ((26 + 1))))) (z_NW S) 0 0 44))) rfl ?_
        exact q_vret dX10_goStep_173 rfl ⟨rfl, by rw [← gs2_eq (af := z_AF S) h1]; rfl⟩
      · first | exact absurd (by decide) c36 | exact absurd c36 (by decide)
set_option maxRecDepth 100000 in
set_option maxHeartbeats 4000000 in
theorem l_X10_gs0_28 {g : G0} {h : G1} (hG : Gd g) (S : SS) {Q : State → Prop}  (k : wp g h mX10_goStep (mixW g (s_AF S (zerF (z_AF S) (28 + 12)))) [some (.ref 26), some (.ref 28), some (.int (nI 12)), none, none, none, none] [] 0 Q 32) : ∀ (n i : Nat), i + n = 12 → wp g h mX10_goStep (mixW g (s_AF S (zerF (z_AF S) (28 + i)))) [some (.ref 26), some (.ref 28), some (.int (nI i)), none, none, none, none] [] 0 Q 10 := by
  intro n
  induction n with
  | zero =>
    intro i hq1
    obtain rfl : 12 = i := by omega
    refine q_iload_n dX10_goStep_10 rfl ?_
    refine q_bipush (v := 12) dX10_goStep_11 rfl ?_
    refine q_icmp_ge 32 dX10_goStep_13 rfl (fun c13 => ?_) (fun c13 => ?_)
    · have n13 := (nI_leI (a := 12) (b := 12) (by omega) (by omega)).mp c13
      exact k
    · have n13 := mt (nI_leI (a := 12) (b := 12) (by omega) (by omega)).mpr c13
      omega
  | succ n ih =>
    intro i hq1
    refine q_iload_n dX10_goStep_10 rfl ?_
    refine q_bipush (v := 12) dX10_goStep_11 rfl ?_
    refine q_icmp_ge 32 dX10_goStep_13 rfl (fun c13 => ?_) (fun c13 => ?_)
    · have n13 := (nI_leI (a := 12) (b := i) (by omega) (by omega)).mp c13
      omega
    · have n13 := mt (nI_leI (a := 12) (b := i) (by omega) (by omega)).mpr c13
      refine q_aload_n dX10_goStep_16 rfl ?_
      refine q_get (j := 3) (v := .ref 29) dX10_goStep_17 (Nat.le_of_ble_eq_true rfl) rfl rfl iuX10 (Nat.le_of_ble_eq_true rfl) uw_927 rfl rfl ?_
      refine q_bipush (v := 28) dX10_goStep_20 rfl ?_
      refine q_iload_n dX10_goStep_22 rfl ?_
      refine q_iadd dX10_goStep_23 ?_
      refine q_iconst (v := 0) dX10_goStep_24 rfl ?_
      refine q_iast (f := (zerF (z_AF S) (28 + i))) dX10_goStep_25 (Nat.le_of_ble_eq_true rfl) rfl ((28 + i)) (by simp only [fa_lit, pk_mul, nI_add]) (by omega) (Nat.le_of_ble_eq_true rfl) ?_
      refine wp_w (u_AF g _ _) ?_
      rw [ss_AF]
      refine q_iinc2 (k9 := 1) dX10_goStep_26 rfl (Nat.le_of_ble_eq_true rfl) rfl ?_
      refine wp_L (L2 := [some (.ref 26), some (.ref 28), some (.int (nI (i + 1))), none, none, none, none]) (by rw [show nI i + 1 = nI (i + 1) from nI_1 _]) ?_
      refine q_goto 10 dX10_goStep_29 rfl ?_
      rw [upd_zer _ _ (by omega), show 28 + i + 1 = 28 + (i + 1) from rfl]
      exact ih (i + 1) (by omega)
set_option maxRecDepth 100000 in
set_option maxHeartbeats 4000000 in
theorem l_X10_gsA_28 {g : G0} {h : G1} (hG : Gd g) (S : SS) {Q : State → Prop} (d ft N : Nat) (tg : Nat → Nat) (hd : d < 2) (ht : tgtM (z_TR S) N ft tg) (k : wp g h mX10_goStep (mixW g (s_AF S (gsA (z_TR S) (z_AF S) d tg N))) [some (.ref 26), some (.ref 28), some (.int (nI d)), some (.int (nI N)), none, none, none] [] 0 Q 137) : ∀ (n i : Nat), i + n = N → wp g h mX10_goStep (mixW g (s_AF S (gsA (z_TR S) (z_AF S) d tg i))) [some (.ref 26), some (.ref 28), some (.int (nI d)), some (.int (nI i)), none, none, none] [] 0 Q 41 := by
  intro n
  induction n with
  | zero =>
    intro i hq1
    obtain ⟨t1, t2, t3, t4, t5⟩ := ht
    obtain rfl : N = i := by omega
    refine q_iload_n dX10_goStep_41 rfl ?_
    refine q_aload_n dX10_goStep_42 rfl ?_
    refine q_iconst (v := 0) dX10_goStep_43 rfl ?_
    refine q_iald (f := (z_TR S)) dX10_goStep_44 (Nat.le_of_ble_eq_true rfl) rfl (0) rfl (Nat.le_of_ble_eq_true rfl) (Nat.le_of_ble_eq_true rfl) ?_
    refine wp_top (y := nI N) t1 ?_
    refine q_icmp_ge 137 dX10_goStep_45 rfl (fun c45 => ?_) (fun c45 => ?_)
    · have n45 := (nI_leI (a := N) (b := N) (by omega) (by omega)).mp c45
      exact k
    · have n45 := mt (nI_leI (a := N) (b := N) (by omega) (by omega)).mpr c45
      omega
  | succ n ih =>
    intro i hq1
    obtain ⟨t1, t2, t3, t4, t5⟩ := ht
    refine q_iload_n dX10_goStep_41 rfl ?_
    refine q_aload_n dX10_goStep_42 rfl ?_
    refine q_iconst (v := 0) dX10_goStep_43 rfl ?_
    refine q_iald (f := (z_TR S)) dX10_goStep_44 (Nat.le_of_ble_eq_true rfl) rfl (0) rfl (Nat.le_of_ble_eq_true rfl) (Nat.le_of_ble_eq_true rfl) ?_
    refine wp_top (y := nI N) t1 ?_
    refine q_icmp_ge 137 dX10_goStep_45 rfl (fun c45 => ?_) (fun c45 => ?_)
    · have n45 := (nI_leI (a := N) (b := i) (by omega) (by omega)).mp c45
      omega
    · have n45 := mt (nI_leI (a := N) (b := i) (by omega) (by omega)).mpr c45
      refine q_aload_n dX10_goStep_48 rfl ?_
      refine q_bipush (v := 28) dX10_goStep_49 rfl ?_
      refine q_iconst (v := 2) dX10_goStep_51 rfl ?_
      refine q_iload_n dX10_goStep_52 rfl ?_
      refine q_imul dX10_goStep_53 ?_
      refine q_iadd dX10_goStep_54 ?_
      refine q_iload_n dX10_goStep_55 rfl ?_
      refine q_iadd dX10_goStep_56 ?_
      refine q_iald (f := (z_TR S)) dX10_goStep_57 (Nat.le_of_ble_eq_true rfl) rfl (((28 + (2 * i)) + d)) (by simp only [fa_lit, pk_mul, nI_add]) (by omega) (Nat.le_of_ble_eq_true rfl) ?_
      refine q_i2l dX10_goStep_58 ?_
      refine q_lst4 dX10_goStep_59 (Nat.le_of_ble_eq_true rfl) rfl ?_
      refine q_lload dX10_goStep_61 rfl ?_
      refine q_aload_n dX10_goStep_63 rfl ?_
      refine q_iconst (v := 1) dX10_goStep_64 rfl ?_
      refine q_iconst (v := 2) dX10_goStep_65 rfl ?_
      refine q_iload_n dX10_goStep_66 rfl ?_
      refine q_imul dX10_goStep_67 ?_
      refine q_iadd dX10_goStep_68 ?_
      refine q_iload_n dX10_goStep_69 rfl ?_
      refine q_iadd dX10_goStep_70 ?_
      refine q_iald (f := (z_TR S)) dX10_goStep_71 (Nat.le_of_ble_eq_true rfl) rfl (((1 + (2 * i)) + d)) (by simp only [fa_lit, pk_mul, nI_add]) (by omega) (Nat.le_of_ble_eq_true rfl) ?_
      refine q_i2l dX10_goStep_72 ?_
      refine q_lmul dX10_goStep_73 ?_
      refine q_ldc2 dX10_goStep_74 uw_1076 ?_
      refine q_ldiv dX10_goStep_77 (by decide) ?_
      refine q_l2i dX10_goStep_78 ?_
      refine wp_top (y := lifF (z_TR S (28 + 2 * i + d)) (z_TR S (1 + 2 * i + d))) rfl ?_
      refine q_ist6 dX10_goStep_79 (Nat.le_of_ble_eq_true rfl) rfl ?_
      refine q_aload_n dX10_goStep_81 rfl ?_
      refine q_get (j := 3) (v := .ref 29) dX10_goStep_82 (Nat.le_of_ble_eq_true rfl) rfl rfl iuX10 (Nat.le_of_ble_eq_true rfl) uw_927 rfl rfl ?_
      refine q_aload_n dX10_goStep_85 rfl ?_
      refine q_aload_n dX10_goStep_86 rfl ?_
      refine q_bipush (v := 13) dX10_goStep_87 rfl ?_
      refine q_iconst (v := 2) dX10_goStep_89 rfl ?_
      refine q_iload_n dX10_goStep_90 rfl ?_
      refine q_imul dX10_goStep_91 ?_
      refine q_iadd dX10_goStep_92 ?_
      refine q_iald (f := (z_TR S)) dX10_goStep_93 (Nat.le_of_ble_eq_true rfl) rfl ((13 + (2 * i))) (by simp only [fa_lit, pk_mul, nI_add]) (by omega) (Nat.le_of_ble_eq_true rfl) ?_
      refine q_callSv (ν := mX10_goalOf) dX10_goStep_94 uw_1106 vX10_goalOf (c_X10_goalOf_28 hG (s_AF S (gsA (z_TR S) (z_AF S) d tg i)) ((((z_TR S) ((13 + (2 * i))))))) rfl rfl (Nat.le_of_ble_eq_true rfl) (Nat.le_of_ble_eq_true rfl) (Nat.le_of_ble_eq_true rfl) 0 (Nat.le_of_ble_eq_true rfl) ?_
      refine wp_eq (st2 := .int ((gofI ((z_TR S) 0) (((z_TR S) ((13 + (2 * i))))))) :: _) rfl ?_
      refine wp_top (y := nI (tg (2 * i))) (t5 (2 * i) (by omega)).1 ?_
      refine q_iload_n dX10_goStep_97 rfl ?_
      refine q_iload dX10_goStep_98 rfl ?_
      refine q_callSu (ν := mX10_bring) dX10_goStep_100 uw_1109 vX10_bring (c_X10_bring hG (s_AF S (gsA (z_TR S) (z_AF S) d tg i)) ((tg (2 * i))) (d) ((lifF (z_TR S (28 + 2 * i + d)) (z_TR S (1 + 2 * i + d)))) (t5 (2 * i) (by omega)).2 hd) rfl rfl (Nat.le_of_ble_eq_true rfl) (Nat.le_of_ble_eq_true rfl) (Nat.le_of_ble_eq_true rfl) 0 (Nat.le_of_ble_eq_true rfl) ?_
      rw [ss_AF]
      refine wp_w (w2 := mixW g (s_AF S (brF (gsA (z_TR S) (z_AF S) d tg i) (tg (2 * i)) d (lifF (z_TR S (28 + 2 * i + d)) (z_TR S (1 + 2 * i + d)))))) rfl ?_
      refine q_aload_n dX10_goStep_103 rfl ?_
      refine q_get (j := 3) (v := .ref 29) dX10_goStep_104 (Nat.le_of_ble_eq_true rfl) rfl rfl iuX10 (Nat.le_of_ble_eq_true rfl) uw_927 rfl rfl ?_
      refine q_aload_n dX10_goStep_107 rfl ?_
      refine q_aload_n dX10_goStep_108 rfl ?_
      refine q_bipush (v := 13) dX10_goStep_109 rfl ?_
      refine q_iconst (v := 2) dX10_goStep_111 rfl ?_
      refine q_iload_n dX10_goStep_112 rfl ?_
      refine q_imul dX10_goStep_113 ?_
      refine q_iadd dX10_goStep_114 ?_
      refine q_iconst (v := 1) dX10_goStep_115 rfl ?_
      refine q_iadd dX10_goStep_116 ?_
      refine q_iald (f := (z_TR S)) dX10_goStep_117 (Nat.le_of_ble_eq_true rfl) rfl (13 + (2 * i + 1)) (by simp only [fa_lit, pk_mul, nI_add]; exact congrArg nI (by omega)) (by omega) (Nat.le_of_ble_eq_true rfl) ?_
      refine q_callSv (ν := mX10_goalOf) dX10_goStep_118 uw_1106 vX10_goalOf (c_X10_goalOf_28 hG (s_AF S (brF (gsA (z_TR S) (z_AF S) d tg i) (tg (2 * i)) d (lifF (z_TR S (28 + 2 * i + d)) (z_TR S (1 + 2 * i + d))))) ((((z_TR S) (13 + (2 * i + 1)))))) rfl rfl (Nat.le_of_ble_eq_true rfl) (Nat.le_of_ble_eq_true rfl) (Nat.le_of_ble_eq_true rfl) 0 (Nat.le_of_ble_eq_true rfl) ?_
      refine wp_eq (st2 := .int ((gofI ((z_TR S) 0) (((z_TR S) (13 + (2 * i + 1)))))) :: _) rfl ?_
      refine wp_top (y := nI (tg (2 * i + 1))) (t5 (2 * i + 1) (by omega)).1 ?_
      refine q_iload_n dX10_goStep_121 rfl ?_
      refine q_lload dX10_goStep_122 rfl ?_
      refine q_l2i dX10_goStep_124 ?_
      refine wp_top (y := z_TR S (28 + 2 * i + d)) (Int32.toInt32_toInt64 _) ?_
      refine q_iload dX10_goStep_125 rfl ?_
      refine q_isub dX10_goStep_127 ?_
      refine q_callSu (ν := mX10_bring) dX10_goStep_128 uw_1109 vX10_bring (c_X10_bring hG (s_AF S (brF (gsA (z_TR S) (z_AF S) d tg i) (tg (2 * i)) d (lifF (z_TR S (28 + 2 * i + d)) (z_TR S (1 + 2 * i + d))))) ((tg (2 * i + 1))) (d) (((z_TR S (28 + 2 * i + d) - lifF (z_TR S (28 + 2 * i + d)) (z_TR S (1 + 2 * i + d))))) (t5 (2 * i + 1) (by omega)).2 hd) rfl rfl (Nat.le_of_ble_eq_true rfl) (Nat.le_of_ble_eq_true rfl) (Nat.le_of_ble_eq_true rfl) 0 (Nat.le_of_ble_eq_true rfl) ?_
      rw [ss_AF]
      refine wp_w (w2 := mixW g (s_AF S (brF (brF (gsA (z_TR S) (z_AF S) d tg i) (tg (2 * i)) d (lifF (z_TR S (28 + 2 * i + d)) (z_TR S (1 + 2 * i + d)))) (tg (2 * i + 1)) d ((z_TR S (28 + 2 * i + d) - lifF (z_TR S (28 + 2 * i + d)) (z_TR S (1 + 2 * i + d))))))) rfl ?_
      refine q_iinc3 (k9 := 1) dX10_goStep_131 rfl (Nat.le_of_ble_eq_true rfl) rfl ?_
      refine wp_L (L2 := [some (.ref 26), some (.ref 28), some (.int (nI d)), some (.int (nI (i + 1))), some (.long ((((z_TR S) (((28 + (2 * i)) + d))) : Int32).toInt64)), none, some (.int (lifF (z_TR S (28 + 2 * i + d)) (z_TR S (1 + 2 * i + d))))]) (by rw [show nI i + 1 = nI (i + 1) from nI_1 _]) ?_
      refine q_goto 41 dX10_goStep_134 rfl ?_
      refine wp_fg (L2 := [some (.ref 26), some (.ref 28), some (.int (nI d)), some (.int (nI (i + 1))), none, none, none]) ⟨rfl, rfl, rfl, rfl, trivial⟩ ?_
      refine wp_w (w2 := mixW g (s_AF S (gsA (z_TR S) (z_AF S) d tg (i + 1)))) rfl ?_
      exact ih (i + 1) (by omega)
set_option maxRecDepth 100000 in
set_option maxHeartbeats 4000000 in
theorem c_X10_goStep_28 {g : G0} (hG : Gd g) (S : SS)  (ft : Nat) (N : Nat) (tg : Nat → Nat) (h1 : tgtM (z_TR S) N ft tg) : ctu g mX10_goStep [.ref 26, .ref 28] (mixW g S) (mixW g (s_TR (s_AF S (gs2 (z_TR S) (z_AF S) ft N tg)) (gsF (z_TR S) ft N tg))) := by
  refine ct_of hG [some (.ref 26), some (.ref 28), none, none, none, none, none] rfl rfl rfl (Nat.le_of_ble_eq_true rfl) (fun h => ?_) rfl
  refine q_aload_n dX10_goStep_0 rfl ?_
  refine q_aload_n dX10_goStep_1 rfl ?_
  refine q_get (j := 3) (v := .ref 29) dX10_goStep_2 (Nat.le_of_ble_eq_true rfl) rfl rfl iuX10 (Nat.le_of_ble_eq_true rfl) uw_927 rfl rfl ?_
  refine q_callSu (ν := mX10_copy) dX10_goStep_5 uw_1042 vX10_copy (c_X10_copy_28_29 hG S ) rfl rfl (Nat.le_of_ble_eq_true rfl) (Nat.le_of_ble_eq_true rfl) (Nat.le_of_ble_eq_true rfl) 0 (Nat.le_of_ble_eq_true rfl) ?_
  refine wp_w (w2 := mixW g (s_AF S (va_cpy (z_TR S) (z_AF S) 0 0 44))) rfl ?_
  refine q_iconst (v := 0) dX10_goStep_8 rfl ?_
  refine q_ist2 dX10_goStep_9 (Nat.le_of_ble_eq_true rfl) rfl ?_
  refine wp_w (w2 := mixW g (s_AF (s_AF S (va_cpy (z_TR S) (z_AF S) 0 0 44)) (zerF (z_AF (s_AF S (va_cpy (z_TR S) (z_AF S) 0 0 44))) (28 + 0)))) (by rw [zer_28', se_AF]) ?_
  refine l_X10_gs0_28 hG (s_AF S (va_cpy (z_TR S) (z_AF S) 0 0 44)) ?_ 12 0 (by omega)
  rw [ss_AF]
  refine wp_w (w2 := mixW g (s_AF S (zerF (va_cpy (z_TR S) (z_AF S) 0 0 44) 40))) rfl ?_
  refine q_iconst (v := 0) dX10_goStep_32 rfl ?_
  refine q_ist2 dX10_goStep_33 (Nat.le_of_ble_eq_true rfl) rfl ?_
  refine q_iload_n dX10_goStep_34 rfl ?_
  refine q_iconst (v := 2) dX10_goStep_35 rfl ?_
  refine q_icmp_ge 165 dX10_goStep_36 rfl (fun c36 => ?_) (fun c36 => ?_)
  · first | exact absurd (by decide) c36 | exact absurd c36 (by decide)
  · refine q_iconst (v := 0) dX10_goStep_39 rfl ?_
    refine q_ist3 dX10_goStep_40 (Nat.le_of_ble_eq_true rfl) rfl ?_
    refine wp_L (L2 := [some (.ref 26), some (.ref 28), some (.int (nI 0)), some (.int (nI 0)), none, none, none]) rfl ?_
    refine wp_w (w2 := mixW g (s_AF (s_AF S (zerF (va_cpy (z_TR S) (z_AF S) 0 0 44) 40)) (gsA (z_TR (s_AF S (zerF (va_cpy (z_TR S) (z_AF S) 0 0 44) 40))) (z_AF (s_AF S (zerF (va_cpy (z_TR S) (z_AF S) 0 0 44) 40))) 0 tg 0))) (by rw [ss_AF]; rfl) ?_
    refine l_X10_gsA_28 hG (s_AF S (zerF (va_cpy (z_TR S) (z_AF S) 0 0 44) 40)) 0 ft N tg (by omega) h1 ?_ N 0 (by omega)
    rw [ss_AF]
    refine wp_w (w2 := mixW g (s_AF S (gsA (z_TR S) (zerF (va_cpy (z_TR S) (z_AF S) 0 0 44) 40) 0 tg N))) rfl ?_
    refine q_aload_n dX10_goStep_137 rfl ?_
    refine q_get (j := 3) (v := .ref 29) dX10_goStep_138 (Nat.le_of_ble_eq_true rfl) rfl rfl iuX10 (Nat.le_of_ble_eq_true rfl) uw_927 rfl rfl ?_
    refine q_aload_n dX10_goStep_141 rfl ?_
    refine q_aload_n dX10_goStep_142 rfl ?_
    refine q_bipush (v := 25) dX10_goStep_143 rfl ?_
    refine q_iald (f := (z_TR S)) dX10_goStep_145 (Nat.le_of_ble_eq_true rfl) rfl (25) rfl (Nat.le_of_ble_eq_true rfl) (Nat.le_of_ble_eq_true rfl) ?_
    refine q_callSv (ν := mX10_goalOf) dX10_goStep_146 uw_1106 vX10_goalOf (c_X10_goalOf_28 hG (s_AF S (gsA (z_TR S) (zerF (va_cpy (z_TR S) (z_AF S) 0 0 44) 40) 0 tg N)) ((((z_TR S) (25))))) rfl rfl (Nat.le_of_ble_eq_true rfl) (Nat.le_of_ble_eq_true rfl) (Nat.le_of_ble_eq_true rfl) 0 (Nat.le_of_ble_eq_true rfl) ?_
    refine wp_eq (st2 := .int ((gofI ((z_TR S) 0) (((z_TR S) (25))))) :: _) rfl ?_
    refine wp_top (y := nI ft) h1.2.2.1 ?_
    refine q_iload_n dX10_goStep_149 rfl ?_
    refine q_aload_n dX10_goStep_150 rfl ?_
    refine q_bipush (v := 26) dX10_goStep_151 rfl ?_
    refine q_iload_n dX10_goStep_153 rfl ?_
    refine q_iadd dX10_goStep_154 ?_
    refine q_iald (f := (z_TR S)) dX10_goStep_155 (Nat.le_of_ble_eq_true rfl) rfl ((26 + 0)) (by simp only [fa_lit, pk_mul, nI_add]) (by omega) (Nat.le_of_ble_eq_true rfl) ?_
    refine q_callSu (ν := mX10_bring) dX10_goStep_156 uw_1109 vX10_bring (c_X10_bring hG (s_AF S (gsA (z_TR S) (zerF (va_cpy (z_TR S) (z_AF S) 0 0 44) 40) 0 tg N)) (ft) (0) ((((z_TR S) ((26 + 0))))) h1.2.2.2.1 (by omega)) rfl rfl (Nat.le_of_ble_eq_true rfl) (Nat.le_of_ble_eq_true rfl) (Nat.le_of_ble_eq_true rfl) 0 (Nat.le_of_ble_eq_true rfl) ?_
    rw [ss_AF]
    refine wp_w (w2 := mixW g (s_AF S (brF (gsA (z_TR S) (zerF (va_cpy (z_TR S) (z_AF S) 0 0 44) 40) 0 tg N) ft 0 (((z_TR S) ((26 + 0))))))) rfl ?_
    refine q_iinc2 (k9 := 1) dX10_goStep_159 rfl (Nat.le_of_ble_eq_true rfl) rfl ?_
    refine wp_L (L2 := [some (.ref 26), some (.ref 28), some (.int (1)), some (.int (nI N)), none, none, none]) rfl ?_
    refine q_goto 34 dX10_goStep_162 rfl ?_
    refine q_iload_n dX10_goStep_34 rfl ?_
    refine q_iconst (v := 2) dX10_goStep_35 rfl ?_
    refine q_icmp_ge 165 dX10_goStep_36 rfl (fun c36 => ?_) (fun c36 => ?_)
    · first | exact absurd (by decide) c36 | exact absurd c36 (by decide)
    · refine q_iconst (v := 0) dX10_goStep_39 rfl ?_
      refine q_ist3 dX10_goStep_40 (Nat.le_of_ble_eq_true rfl) rfl ?_
      refine wp_L (L2 := [some (.ref 26), some (.ref 28), some (.int (nI 1)), some (.int (nI 0)), none, none, none]) rfl ?_
      refine wp_w (w2 := mixW g (s_AF (s_AF S (brF (gsA (z_TR S) (zerF (va_cpy (z_TR S) (z_AF S) 0 0 44) 40) 0 tg N) ft 0 (((z_TR S) ((26 + 0)))))) (gsA (z_TR (s_AF S (brF (gsA (z_TR S) (zerF (va_cpy (z_TR S) (z_AF S) 0 0 44) 40) 0 tg N) ft 0 (((z_TR S) ((26 + 0))))))) (z_AF (s_AF S (brF (gsA (z_TR S) (zerF (va_cpy (z_TR S) (z_AF S) 0 0 44) 40) 0 tg N) ft 0 (((z_TR S) ((26 + 0))))))) 1 tg 0))) (by rw [ss_AF]; rfl) ?_
      refine l_X10_gsA_28 hG (s_AF S (brF (gsA (z_TR S) (zerF (va_cpy (z_TR S) (z_AF S) 0 0 44) 40) 0 tg N) ft 0 (((z_TR S) ((26 + 0)))))) 1 ft N tg (by omega) h1 ?_ N 0 (by omega)
      rw [ss_AF]
      refine wp_w (w2 := mixW g (s_AF S (gsA (z_TR S) (brF (gsA (z_TR S) (zerF (va_cpy (z_TR S) (z_AF S) 0 0 44) 40) 0 tg N) ft 0 (((z_TR S) ((26 + 0))))) 1 tg N))) rfl ?_
      refine q_aload_n dX10_goStep_137 rfl ?_
      refine q_get (j := 3) (v := .ref 29) dX10_goStep_138 (Nat.le_of_ble_eq_true rfl) rfl rfl iuX10 (Nat.le_of_ble_eq_true rfl) uw_927 rfl rfl ?_
      refine q_aload_n dX10_goStep_141 rfl ?_
      refine q_aload_n dX10_goStep_142 rfl ?_
      refine q_bipush (v := 25) dX10_goStep_143 rfl ?_
      refine q_iald (f := (z_TR S)) dX10_goStep_145 (Nat.le_of_ble_eq_true rfl) rfl (25) rfl (Nat.le_of_ble_eq_true rfl) (Nat.le_of_ble_eq_true rfl) ?_
      refine q_callSv (ν := mX10_goalOf) dX10_goStep_146 uw_1106 vX10_goalOf (c_X10_goalOf_28 hG (s_AF S (gsA (z_TR S) (brF (gsA (z_TR S) (zerF (va_cpy (z_TR S) (z_AF S) 0 0 44) 40) 0 tg N) ft 0 (((z_TR S) ((26 + 0))))) 1 tg N)) ((((z_TR S) (25))))) rfl rfl (Nat.le_of_ble_eq_true rfl) (Nat.le_of_ble_eq_true rfl) (Nat.le_of_ble_eq_true rfl) 0 (Nat.le_of_ble_eq_true rfl) ?_
      refine wp_eq (st2 := .int ((gofI ((z_TR S) 0) (((z_TR S) (25))))) :: _) rfl ?_
      refine wp_top (y := nI ft) h1.2.2.1 ?_
      refine q_iload_n dX10_goStep_149 rfl ?_
      refine q_aload_n dX10_goStep_150 rfl ?_
      refine q_bipush (v := 26) dX10_goStep_151 rfl ?_
      refine q_iload_n dX10_goStep_153 rfl ?_
      refine q_iadd dX10_goStep_154 ?_
      refine q_iald (f := (z_TR S)) dX10_goStep_155 (Nat.le_of_ble_eq_true rfl) rfl ((26 + 1)) (by simp only [fa_lit, pk_mul, nI_add]) (by omega) (Nat.le_of_ble_eq_true rfl) ?_
      refine q_callSu (ν := mX10_bring) dX10_goStep_156 uw_1109 vX10_bring (c_X10_bring hG (s_AF S (gsA (z_TR S) (brF (gsA (z_TR S) (zerF (va_cpy (z_TR S) (z_AF S) 0 0 44) 40) 0 tg N) ft 0 (((z_TR S) ((26 + 0))))) 1 tg N)) (ft) (1) ((((z_TR S) ((26 + 1))))) h1.2.2.2.1 (by omega)) rfl rfl (Nat.le_of_ble_eq_true rfl) (Nat.le_of_ble_eq_true rfl) (Nat.le_of_ble_eq_true rfl) 0 (Nat.le_of_ble_eq_true rfl) ?_
      rw [ss_AF]
      refine wp_w (w2 := mixW g (s_AF S (brF (gsA (z_TR S) (brF (gsA (z_TR S) (zerF (va_cpy (z_TR S) (z_AF S) 0 0 44) 40) 0 tg N) ft 0 (((z_TR S) ((26 + 0))))) 1 tg N) ft 1 (((z_TR S) ((26 + 1))))))) rfl ?_
      refine q_iinc2 (k9 := 1) dX10_goStep_159 rfl (Nat.le_of_ble_eq_true rfl) rfl ?_
      refine wp_L (L2 := [some (.ref 26), some (.ref 28), some (.int (2)), some (.int (nI N)), none, none, none]) rfl ?_
      refine q_goto 34 dX10_goStep_162 rfl ?_
      refine q_iload_n dX10_goStep_34 rfl ?_
      refine q_iconst (v := 2) dX10_goStep_35 rfl ?_
      refine q_icmp_ge 165 dX10_goStep_36 rfl (fun c36 => ?_) (fun c36 => ?_)
      · refine q_aload_n dX10_goStep_165 rfl ?_
        refine q_get (j := 3) (v := .ref 29) dX10_goStep_166 (Nat.le_of_ble_eq_true rfl) rfl rfl iuX10 (Nat.le_of_ble_eq_true rfl) uw_927 rfl rfl ?_
        refine q_aload_n dX10_goStep_169 rfl ?_
        refine q_callSu (ν := mX10_copy) dX10_goStep_170 uw_1042 vX10_copy (c_X10_copy_29_28 hG (s_AF S (brF (gsA (z_TR S) (brF (gsA (z_TR S) (zerF (va_cpy (z_TR S) (z_AF S) 0 0 44) 40) 0 tg N) ft 0 (((z_TR S) ((26 + 0))))) 1 tg N) ft 1 (((z_TR S) ((26 + 1)))))) ) rfl rfl (Nat.le_of_ble_eq_true rfl) (Nat.le_of_ble_eq_true rfl) (Nat.le_of_ble_eq_true rfl) 0 (Nat.le_of_ble_eq_true rfl) ?_
        refine wp_w (w2 := mixW g (s_TR (s_AF S (brF (gsA (z_TR S) (brF (gsA (z_TR S) (zerF (va_cpy (z_TR S) (z_AF S) 0 0 44) 40) 0 tg N) ft 0 (((z_TR S) ((26 + 0))))) 1 tg N) ft 1 (((z_TR S) ((26 + 1)))))) (va_cpy (brF (gsA (z_TR S) (brF (gsA (z_TR S) (zerF (va_cpy (z_TR S) (z_AF S) 0 0 44) 40) 0 tg N) ft 0 (((z_TR S) ((26 + 0))))) 1 tg N) ft 1 (((z_TR S) ((26 + 1))))) (z_TR S) 0 0 44))) rfl ?_
        exact q_vret dX10_goStep_173 rfl ⟨rfl, by rw [← gs2_eq (af := z_AF S) h1]; rfl⟩
      · first | exact absurd (by decide) c36 | exact absurd c36 (by decide)
