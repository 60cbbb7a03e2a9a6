theorem ss_TL (S : SS) (a b : Int32) : s_TL (s_TL S a) b = s_TL S b := rfl
theorem ss_TX (S : SS) (a b : (Nat → Int32)) : s_TX (s_TX S a) b = s_TX S b := rfl
theorem ss_SV (S : SS) (a b : (Nat → Int32)) : s_SV (s_SV S a) b = s_SV S b := rfl
theorem ss_TV (S : SS) (a b : (Nat → Int32)) : s_TV (s_TV S a) b = s_TV S b := rfl
theorem ss_HN (S : SS) (a b : Int32) : s_HN (s_HN S a) b = s_HN S b := rfl
theorem ss_HK (S : SS) (a b : Int32) : s_HK (s_HK S a) b = s_HK S b := rfl
theorem ss_HR (S : SS) (a b : (Nat → Int32)) : s_HR (s_HR S a) b = s_HR S b := rfl
theorem ss_SL (S : SS) (a b : (Nat → Int32)) : s_SL (s_SL S a) b = s_SL S b := rfl
theorem ss_SF (S : SS) (a b : (Nat → Int32)) : s_SF (s_SF S a) b = s_SF S b := rfl
theorem ss_AR (S : SS) (a b : (Nat → Int32)) : s_AR (s_AR S a) b = s_AR S b := rfl
theorem ss_BN (S : SS) (a b : Int64) : s_BN (s_BN S a) b = s_BN S b := rfl
theorem ss_BD (S : SS) (a b : Int64) : s_BD (s_BD S a) b = s_BD S b := rfl
theorem ss_EQ (S : SS) (a b : (Nat → Int64)) : s_EQ (s_EQ S a) b = s_EQ S b := rfl
theorem ss_MI (S : SS) (a b : (Nat → Int64)) : s_MI (s_MI S a) b = s_MI S b := rfl
theorem ss_RE (S : SS) (a b : (Nat → Int32)) : s_RE (s_RE S a) b = s_RE S b := rfl
theorem ss_QN (S : SS) (a b : Int32) : s_QN (s_QN S a) b = s_QN S b := rfl
theorem ss_QS (S : SS) (a b : Int32) : s_QS (s_QS S a) b = s_QS S b := rfl
theorem ss_QK (S : SS) (a b : (Nat → Int32)) : s_QK (s_QK S a) b = s_QK S b := rfl
theorem ss_QV (S : SS) (a b : (Nat → Int32)) : s_QV (s_QV S a) b = s_QV S b := rfl
theorem ss_A0 (S : SS) (a b : Int64) : s_A0 (s_A0 S a) b = s_A0 S b := rfl
theorem ss_A1 (S : SS) (a b : Int64) : s_A1 (s_A1 S a) b = s_A1 S b := rfl
theorem ss_A2 (S : SS) (a b : Int64) : s_A2 (s_A2 S a) b = s_A2 S b := rfl
theorem ss_A3 (S : SS) (a b : Int64) : s_A3 (s_A3 S a) b = s_A3 S b := rfl
theorem ss_B0 (S : SS) (a b : Int64) : s_B0 (s_B0 S a) b = s_B0 S b := rfl
theorem ss_B1 (S : SS) (a b : Int64) : s_B1 (s_B1 S a) b = s_B1 S b := rfl
theorem ss_B2 (S : SS) (a b : Int64) : s_B2 (s_B2 S a) b = s_B2 S b := rfl
theorem ss_B3 (S : SS) (a b : Int64) : s_B3 (s_B3 S a) b = s_B3 S b := rfl
theorem ss_C0 (S : SS) (a b : Int64) : s_C0 (s_C0 S a) b = s_C0 S b := rfl
theorem ss_C1 (S : SS) (a b : Int64) : s_C1 (s_C1 S a) b = s_C1 S b := rfl
theorem ss_C2 (S : SS) (a b : Int64) : s_C2 (s_C2 S a) b = s_C2 S b := rfl
theorem ss_C3 (S : SS) (a b : Int64) : s_C3 (s_C3 S a) b = s_C3 S b := rfl
theorem ss_RF (S : SS) (a b : Int32) : s_RF (s_RF S a) b = s_RF S b := rfl
theorem ss_AC (S : SS) (a b : Int32) : s_AC (s_AC S a) b = s_AC S b := rfl
theorem ss_NX (S : SS) (a b : Int32) : s_NX (s_NX S a) b = s_NX S b := rfl
theorem ss_SS (S : SS) (a b : Int32) : s_SS (s_SS S a) b = s_SS S b := rfl
theorem ss_SP (S : SS) (a b : Int32) : s_SP (s_SP S a) b = s_SP S b := rfl
theorem ss_ME (S : SS) (a b : Int32) : s_ME (s_ME S a) b = s_ME S b := rfl
theorem ss_UP (S : SS) (a b : Int64) : s_UP (s_UP S a) b = s_UP S b := rfl
theorem ss_LO (S : SS) (a b : Int64) : s_LO (s_LO S a) b = s_LO S b := rfl
theorem ss_NW (S : SS) (a b : (Nat → Int32)) : s_NW (s_NW S a) b = s_NW S b := rfl
theorem ss_TR (S : SS) (a b : (Nat → Int32)) : s_TR (s_TR S a) b = s_TR S b := rfl
theorem ss_AF (S : SS) (a b : (Nat → Int32)) : s_AF (s_AF S a) b = s_AF S b := rfl
theorem ss_DI (S : SS) (a b : (Nat → Int32)) : s_DI (s_DI S a) b = s_DI S b := rfl
theorem ss_KE (S : SS) (a b : (Nat → Int32)) : s_KE (s_KE S a) b = s_KE S b := rfl
theorem ss_IK (S : SS) (a b : (Nat → Int32)) : s_IK (s_IK S a) b = s_IK S b := rfl
theorem ss_SC (S : SS) (a b : (Nat → Int32)) : s_SC (s_SC S a) b = s_SC S b := rfl
theorem ss_RD (S : SS) (a b : (Nat → Int32)) : s_RD (s_RD S a) b = s_RD S b := rfl
theorem ss_MW (S : SS) (a b : (Nat → Int32)) : s_MW (s_MW S a) b = s_MW S b := rfl
theorem ss_MS (S : SS) (a b : (Nat → Int32)) : s_MS (s_MS S a) b = s_MS S b := rfl
theorem ss_MX (S : SS) (a b : (Nat → Int64)) : s_MX (s_MX S a) b = s_MX S b := rfl
theorem ss_RT (S : SS) (a b : (Nat → Int64)) : s_RT (s_RT S a) b = s_RT S b := rfl
theorem ss_MO (S : SS) (a b : (Nat → Int64)) : s_MO (s_MO S a) b = s_MO S b := rfl
theorem ss_OU (S : SS) (a b : (Nat → Int64)) : s_OU (s_OU S a) b = s_OU S b := rfl
theorem se_TL (S : SS) : s_TL S (z_TL S) = S := rfl
theorem se_TX (S : SS) : s_TX S (z_TX S) = S := rfl
theorem se_SV (S : SS) : s_SV S (z_SV S) = S := rfl
theorem se_TV (S : SS) : s_TV S (z_TV S) = S := rfl
theorem se_HN (S : SS) : s_HN S (z_HN S) = S := rfl
theorem se_HK (S : SS) : s_HK S (z_HK S) = S := rfl
theorem se_HR (S : SS) : s_HR S (z_HR S) = S := rfl
theorem se_SL (S : SS) : s_SL S (z_SL S) = S := rfl
theorem se_SF (S : SS) : s_SF S (z_SF S) = S := rfl
theorem se_AR (S : SS) : s_AR S (z_AR S) = S := rfl
theorem se_BN (S : SS) : s_BN S (z_BN S) = S := rfl
theorem se_BD (S : SS) : s_BD S (z_BD S) = S := rfl
theorem se_EQ (S : SS) : s_EQ S (z_EQ S) = S := rfl
theorem se_MI (S : SS) : s_MI S (z_MI S) = S := rfl
theorem se_RE (S : SS) : s_RE S (z_RE S) = S := rfl
theorem se_QN (S : SS) : s_QN S (z_QN S) = S := rfl
theorem se_QS (S : SS) : s_QS S (z_QS S) = S := rfl
theorem se_QK (S : SS) : s_QK S (z_QK S) = S := rfl
theorem se_QV (S : SS) : s_QV S (z_QV S) = S := rfl
theorem se_A0 (S : SS) : s_A0 S (z_A0 S) = S := rfl
theorem se_A1 (S : SS) : s_A1 S (z_A1 S) = S := rfl
theorem se_A2 (S : SS) : s_A2 S (z_A2 S) = S := rfl
theorem se_A3 (S : SS) : s_A3 S (z_A3 S) = S := rfl
theorem se_B0 (S : SS) : s_B0 S (z_B0 S) = S := rfl
theorem se_B1 (S : SS) : s_B1 S (z_B1 S) = S := rfl
theorem se_B2 (S : SS) : s_B2 S (z_B2 S) = S := rfl
theorem se_B3 (S : SS) : s_B3 S (z_B3 S) = S := rfl
theorem se_C0 (S : SS) : s_C0 S (z_C0 S) = S := rfl
theorem se_C1 (S : SS) : s_C1 S (z_C1 S) = S := rfl
theorem se_C2 (S : SS) : s_C2 S (z_C2 S) = S := rfl
theorem se_C3 (S : SS) : s_C3 S (z_C3 S) = S := rfl
theorem se_RF (S : SS) : s_RF S (z_RF S) = S := rfl
theorem se_AC (S : SS) : s_AC S (z_AC S) = S := rfl
theorem se_NX (S : SS) : s_NX S (z_NX S) = S := rfl
theorem se_SS (S : SS) : s_SS S (z_SS S) = S := rfl
theorem se_SP (S : SS) : s_SP S (z_SP S) = S := rfl
theorem se_ME (S : SS) : s_ME S (z_ME S) = S := rfl
theorem se_UP (S : SS) : s_UP S (z_UP S) = S := rfl
theorem se_LO (S : SS) : s_LO S (z_LO S) = S := rfl
theorem se_NW (S : SS) : s_NW S (z_NW S) = S := rfl
theorem se_TR (S : SS) : s_TR S (z_TR S) = S := rfl
theorem se_AF (S : SS) : s_AF S (z_AF S) = S := rfl
theorem se_DI (S : SS) : s_DI S (z_DI S) = S := rfl
theorem se_KE (S : SS) : s_KE S (z_KE S) = S := rfl
theorem se_IK (S : SS) : s_IK S (z_IK S) = S := rfl
theorem se_SC (S : SS) : s_SC S (z_SC S) = S := rfl
theorem se_RD (S : SS) : s_RD S (z_RD S) = S := rfl
theorem se_MW (S : SS) : s_MW S (z_MW S) = S := rfl
theorem se_MS (S : SS) : s_MS S (z_MS S) = S := rfl
theorem se_MX (S : SS) : s_MX S (z_MX S) = S := rfl
theorem se_RT (S : SS) : s_RT S (z_RT S) = S := rfl
theorem se_MO (S : SS) : s_MO S (z_MO S) = S := rfl
theorem se_OU (S : SS) : s_OU S (z_OU S) = S := rfl
theorem sc_TX_TL (S : SS) (a : Int32) (b : (Nat → Int32)) : s_TX (s_TL S a) b = s_TL (s_TX S b) a := rfl
theorem sc_SV_TL (S : SS) (a : Int32) (b : (Nat → Int32)) : s_SV (s_TL S a) b = s_TL (s_SV S b) a := rfl
theorem sc_TV_TL (S : SS) (a : Int32) (b : (Nat → Int32)) : s_TV (s_TL S a) b = s_TL (s_TV S b) a := rfl
theorem sc_HN_TL (S : SS) (a : Int32) (b : Int32) : s_HN (s_TL S a) b = s_TL (s_HN S b) a := rfl
theorem sc_HK_TL (S : SS) (a : Int32) (b : Int32) : s_HK (s_TL S a) b = s_TL (s_HK S b) a := rfl
theorem sc_HR_TL (S : SS) (a : Int32) (b : (Nat → Int32)) : s_HR (s_TL S a) b = s_TL (s_HR S b) a := rfl
theorem sc_SL_TL (S : SS) (a : Int32) (b : (Nat → Int32)) : s_SL (s_TL S a) b = s_TL (s_SL S b) a := rfl
theorem sc_SF_TL (S : SS) (a : Int32) (b : (Nat → Int32)) : s_SF (s_TL S a) b = s_TL (s_SF S b) a := rfl
theorem sc_AR_TL (S : SS) (a : Int32) (b : (Nat → Int32)) : s_AR (s_TL S a) b = s_TL (s_AR S b) a := rfl
theorem sc_BN_TL (S : SS) (a : Int32) (b : Int64) : s_BN (s_TL S a) b = s_TL (s_BN S b) a := rfl
theorem sc_BD_TL (S : SS) (a : Int32) (b : Int64) : s_BD (s_TL S a) b = s_TL (s_BD S b) a := rfl
theorem sc_EQ_TL (S : SS) (a : Int32) (b : (Nat → Int64)) : s_EQ (s_TL S a) b = s_TL (s_EQ S b) a := rfl
theorem sc_MI_TL (S : SS) (a : Int32) (b : (Nat → Int64)) : s_MI (s_TL S a) b = s_TL (s_MI S b) a := rfl
theorem sc_RE_TL (S : SS) (a : Int32) (b : (Nat → Int32)) : s_RE (s_TL S a) b = s_TL (s_RE S b) a := rfl
theorem sc_QN_TL (S : SS) (a : Int32) (b : Int32) : s_QN (s_TL S a) b = s_TL (s_QN S b) a := rfl
theorem sc_QS_TL (S : SS) (a : Int32) (b : Int32) : s_QS (s_TL S a) b = s_TL (s_QS S b) a := rfl
theorem sc_QK_TL (S : SS) (a : Int32) (b : (Nat → Int32)) : s_QK (s_TL S a) b = s_TL (s_QK S b) a := rfl
theorem sc_QV_TL (S : SS) (a : Int32) (b : (Nat → Int32)) : s_QV (s_TL S a) b = s_TL (s_QV S b) a := rfl
theorem sc_A0_TL (S : SS) (a : Int32) (b : Int64) : s_A0 (s_TL S a) b = s_TL (s_A0 S b) a := rfl
theorem sc_A1_TL (S : SS) (a : Int32) (b : Int64) : s_A1 (s_TL S a) b = s_TL (s_A1 S b) a := rfl
theorem sc_A2_TL (S : SS) (a : Int32) (b : Int64) : s_A2 (s_TL S a) b = s_TL (s_A2 S b) a := rfl
theorem sc_A3_TL (S : SS) (a : Int32) (b : Int64) : s_A3 (s_TL S a) b = s_TL (s_A3 S b) a := rfl
theorem sc_B0_TL (S : SS) (a : Int32) (b : Int64) : s_B0 (s_TL S a) b = s_TL (s_B0 S b) a := rfl
theorem sc_B1_TL (S : SS) (a : Int32) (b : Int64) : s_B1 (s_TL S a) b = s_TL (s_B1 S b) a := rfl
theorem sc_B2_TL (S : SS) (a : Int32) (b : Int64) : s_B2 (s_TL S a) b = s_TL (s_B2 S b) a := rfl
theorem sc_B3_TL (S : SS) (a : Int32) (b : Int64) : s_B3 (s_TL S a) b = s_TL (s_B3 S b) a := rfl
theorem sc_C0_TL (S : SS) (a : Int32) (b : Int64) : s_C0 (s_TL S a) b = s_TL (s_C0 S b) a := rfl
theorem sc_C1_TL (S : SS) (a : Int32) (b : Int64) : s_C1 (s_TL S a) b = s_TL (s_C1 S b) a := rfl
theorem sc_C2_TL (S : SS) (a : Int32) (b : Int64) : s_C2 (s_TL S a) b = s_TL (s_C2 S b) a := rfl
theorem sc_C3_TL (S : SS) (a : Int32) (b : Int64) : s_C3 (s_TL S a) b = s_TL (s_C3 S b) a := rfl
theorem sc_SV_TX (S : SS) (a : (Nat → Int32)) (b : (Nat → Int32)) : s_SV (s_TX S a) b = s_TX (s_SV S b) a := rfl
theorem sc_TV_TX (S : SS) (a : (Nat → Int32)) (b : (Nat → Int32)) : s_TV (s_TX S a) b = s_TX (s_TV S b) a := rfl
theorem sc_HN_TX (S : SS) (a : (Nat → Int32)) (b : Int32) : s_HN (s_TX S a) b = s_TX (s_HN S b) a := rfl
theorem sc_HK_TX (S : SS) (a : (Nat → Int32)) (b : Int32) : s_HK (s_TX S a) b = s_TX (s_HK S b) a := rfl
theorem sc_HR_TX (S : SS) (a : (Nat → Int32)) (b : (Nat → Int32)) : s_HR (s_TX S a) b = s_TX (s_HR S b) a := rfl
theorem sc_SL_TX (S : SS) (a : (Nat → Int32)) (b : (Nat → Int32)) : s_SL (s_TX S a) b = s_TX (s_SL S b) a := rfl
theorem sc_SF_TX (S : SS) (a : (Nat → Int32)) (b : (Nat → Int32)) : s_SF (s_TX S a) b = s_TX (s_SF S b) a := rfl
theorem sc_AR_TX (S : SS) (a : (Nat → Int32)) (b : (Nat → Int32)) : s_AR (s_TX S a) b = s_TX (s_AR S b) a := rfl
theorem sc_BN_TX (S : SS) (a : (Nat → Int32)) (b : Int64) : s_BN (s_TX S a) b = s_TX (s_BN S b) a := rfl
theorem sc_BD_TX (S : SS) (a : (Nat → Int32)) (b : Int64) : s_BD (s_TX S a) b = s_TX (s_BD S b) a := rfl
theorem sc_EQ_TX (S : SS) (a : (Nat → Int32)) (b : (Nat → Int64)) : s_EQ (s_TX S a) b = s_TX (s_EQ S b) a := rfl
theorem sc_MI_TX (S : SS) (a : (Nat → Int32)) (b : (Nat → Int64)) : s_MI (s_TX S a) b = s_TX (s_MI S b) a := rfl
theorem sc_RE_TX (S : SS) (a : (Nat → Int32)) (b : (Nat → Int32)) : s_RE (s_TX S a) b = s_TX (s_RE S b) a := rfl
theorem sc_QN_TX (S : SS) (a : (Nat → Int32)) (b : Int32) : s_QN (s_TX S a) b = s_TX (s_QN S b) a := rfl
theorem sc_QS_TX (S : SS) (a : (Nat → Int32)) (b : Int32) : s_QS (s_TX S a) b = s_TX (s_QS S b) a := rfl
theorem sc_QK_TX (S : SS) (a : (Nat → Int32)) (b : (Nat → Int32)) : s_QK (s_TX S a) b = s_TX (s_QK S b) a := rfl
theorem sc_QV_TX (S : SS) (a : (Nat → Int32)) (b : (Nat → Int32)) : s_QV (s_TX S a) b = s_TX (s_QV S b) a := rfl
theorem sc_A0_TX (S : SS) (a : (Nat → Int32)) (b : Int64) : s_A0 (s_TX S a) b = s_TX (s_A0 S b) a := rfl
theorem sc_A1_TX (S : SS) (a : (Nat → Int32)) (b : Int64) : s_A1 (s_TX S a) b = s_TX (s_A1 S b) a := rfl
theorem sc_A2_TX (S : SS) (a : (Nat → Int32)) (b : Int64) : s_A2 (s_TX S a) b = s_TX (s_A2 S b) a := rfl
theorem sc_A3_TX (S : SS) (a : (Nat → Int32)) (b : Int64) : s_A3 (s_TX S a) b = s_TX (s_A3 S b) a := rfl
theorem sc_B0_TX (S : SS) (a : (Nat → Int32)) (b : Int64) : s_B0 (s_TX S a) b = s_TX (s_B0 S b) a := rfl
theorem sc_B1_TX (S : SS) (a : (Nat → Int32)) (b : Int64) : s_B1 (s_TX S a) b = s_TX (s_B1 S b) a := rfl
theorem sc_B2_TX (S : SS) (a : (Nat → Int32)) (b : Int64) : s_B2 (s_TX S a) b = s_TX (s_B2 S b) a := rfl
theorem sc_B3_TX (S : SS) (a : (Nat → Int32)) (b : Int64) : s_B3 (s_TX S a) b = s_TX (s_B3 S b) a := rfl
theorem sc_C0_TX (S : SS) (a : (Nat → Int32)) (b : Int64) : s_C0 (s_TX S a) b = s_TX (s_C0 S b) a := rfl
theorem sc_C1_TX (S : SS) (a : (Nat → Int32)) (b : Int64) : s_C1 (s_TX S a) b = s_TX (s_C1 S b) a := rfl
theorem sc_C2_TX (S : SS) (a : (Nat → Int32)) (b : Int64) : s_C2 (s_TX S a) b = s_TX (s_C2 S b) a := rfl
theorem sc_C3_TX (S : SS) (a : (Nat → Int32)) (b : Int64) : s_C3 (s_TX S a) b = s_TX (s_C3 S b) a := rfl
theorem sc_TV_SV (S : SS) (a : (Nat → Int32)) (b : (Nat → Int32)) : s_TV (s_SV S a) b = s_SV (s_TV S b) a := rfl
theorem sc_HN_SV (S : SS) (a : (Nat → Int32)) (b : Int32) : s_HN (s_SV S a) b = s_SV (s_HN S b) a := rfl
theorem sc_HK_SV (S : SS) (a : (Nat → Int32)) (b : Int32) : s_HK (s_SV S a) b = s_SV (s_HK S b) a := rfl
theorem sc_HR_SV (S : SS) (a : (Nat → Int32)) (b : (Nat → Int32)) : s_HR (s_SV S a) b = s_SV (s_HR S b) a := rfl
theorem sc_SL_SV (S : SS) (a : (Nat → Int32)) (b : (Nat → Int32)) : s_SL (s_SV S a) b = s_SV (s_SL S b) a := rfl
theorem sc_SF_SV (S : SS) (a : (Nat → Int32)) (b : (Nat → Int32)) : s_SF (s_SV S a) b = s_SV (s_SF S b) a := rfl
theorem sc_AR_SV (S : SS) (a : (Nat → Int32)) (b : (Nat → Int32)) : s_AR (s_SV S a) b = s_SV (s_AR S b) a := rfl
theorem sc_BN_SV (S : SS) (a : (Nat → Int32)) (b : Int64) : s_BN (s_SV S a) b = s_SV (s_BN S b) a := rfl
theorem sc_BD_SV (S : SS) (a : (Nat → Int32)) (b : Int64) : s_BD (s_SV S a) b = s_SV (s_BD S b) a := rfl
theorem sc_EQ_SV (S : SS) (a : (Nat → Int32)) (b : (Nat → Int64)) : s_EQ (s_SV S a) b = s_SV (s_EQ S b) a := rfl
theorem sc_MI_SV (S : SS) (a : (Nat → Int32)) (b : (Nat → Int64)) : s_MI (s_SV S a) b = s_SV (s_MI S b) a := rfl
theorem sc_RE_SV (S : SS) (a : (Nat → Int32)) (b : (Nat → Int32)) : s_RE (s_SV S a) b = s_SV (s_RE S b) a := rfl
theorem sc_QN_SV (S : SS) (a : (Nat → Int32)) (b : Int32) : s_QN (s_SV S a) b = s_SV (s_QN S b) a := rfl
theorem sc_QS_SV (S : SS) (a : (Nat → Int32)) (b : Int32) : s_QS (s_SV S a) b = s_SV (s_QS S b) a := rfl
theorem sc_QK_SV (S : SS) (a : (Nat → Int32)) (b : (Nat → Int32)) : s_QK (s_SV S a) b = s_SV (s_QK S b) a := rfl
theorem sc_QV_SV (S : SS) (a : (Nat → Int32)) (b : (Nat → Int32)) : s_QV (s_SV S a) b = s_SV (s_QV S b) a := rfl
theorem sc_A0_SV (S : SS) (a : (Nat → Int32)) (b : Int64) : s_A0 (s_SV S a) b = s_SV (s_A0 S b) a := rfl
theorem sc_A1_SV (S : SS) (a : (Nat → Int32)) (b : Int64) : s_A1 (s_SV S a) b = s_SV (s_A1 S b) a := rfl
theorem sc_A2_SV (S : SS) (a : (Nat → Int32)) (b : Int64) : s_A2 (s_SV S a) b = s_SV (s_A2 S b) a := rfl
theorem sc_A3_SV (S : SS) (a : (Nat → Int32)) (b : Int64) : s_A3 (s_SV S a) b = s_SV (s_A3 S b) a := rfl
theorem sc_B0_SV (S : SS) (a : (Nat → Int32)) (b : Int64) : s_B0 (s_SV S a) b = s_SV (s_B0 S b) a := rfl
theorem sc_B1_SV (S : SS) (a : (Nat → Int32)) (b : Int64) : s_B1 (s_SV S a) b = s_SV (s_B1 S b) a := rfl
theorem sc_B2_SV (S : SS) (a : (Nat → Int32)) (b : Int64) : s_B2 (s_SV S a) b = s_SV (s_B2 S b) a := rfl
theorem sc_B3_SV (S : SS) (a : (Nat → Int32)) (b : Int64) : s_B3 (s_SV S a) b = s_SV (s_B3 S b) a := rfl
theorem sc_C0_SV (S : SS) (a : (Nat → Int32)) (b : Int64) : s_C0 (s_SV S a) b = s_SV (s_C0 S b) a := rfl
theorem sc_C1_SV (S : SS) (a : (Nat → Int32)) (b : Int64) : s_C1 (s_SV S a) b = s_SV (s_C1 S b) a := rfl
theorem sc_C2_SV (S : SS) (a : (Nat → Int32)) (b : Int64) : s_C2 (s_SV S a) b = s_SV (s_C2 S b) a := rfl
theorem sc_C3_SV (S : SS) (a : (Nat → Int32)) (b : Int64) : s_C3 (s_SV S a) b = s_SV (s_C3 S b) a := rfl
theorem sc_HN_TV (S : SS) (a : (Nat → Int32)) (b : Int32) : s_HN (s_TV S a) b = s_TV (s_HN S b) a := rfl
theorem sc_HK_TV (S : SS) (a : (Nat → Int32)) (b : Int32) : s_HK (s_TV S a) b = s_TV (s_HK S b) a := rfl
theorem sc_HR_TV (S : SS) (a : (Nat → Int32)) (b : (Nat → Int32)) : s_HR (s_TV S a) b = s_TV (s_HR S b) a := rfl
theorem sc_SL_TV (S : SS) (a : (Nat → Int32)) (b : (Nat → Int32)) : s_SL (s_TV S a) b = s_TV (s_SL S b) a := rfl
theorem sc_SF_TV (S : SS) (a : (Nat → Int32)) (b : (Nat → Int32)) : s_SF (s_TV S a) b = s_TV (s_SF S b) a := rfl
theorem sc_AR_TV (S : SS) (a : (Nat → Int32)) (b : (Nat → Int32)) : s_AR (s_TV S a) b = s_TV (s_AR S b) a := rfl
theorem sc_BN_TV (S : SS) (a : (Nat → Int32)) (b : Int64) : s_BN (s_TV S a) b = s_TV (s_BN S b) a := rfl
theorem sc_BD_TV (S : SS) (a : (Nat → Int32)) (b : Int64) : s_BD (s_TV S a) b = s_TV (s_BD S b) a := rfl
theorem sc_EQ_TV (S : SS) (a : (Nat → Int32)) (b : (Nat → Int64)) : s_EQ (s_TV S a) b = s_TV (s_EQ S b) a := rfl
theorem sc_MI_TV (S : SS) (a : (Nat → Int32)) (b : (Nat → Int64)) : s_MI (s_TV S a) b = s_TV (s_MI S b) a := rfl
theorem sc_RE_TV (S : SS) (a : (Nat → Int32)) (b : (Nat → Int32)) : s_RE (s_TV S a) b = s_TV (s_RE S b) a := rfl
theorem sc_QN_TV (S : SS) (a : (Nat → Int32)) (b : Int32) : s_QN (s_TV S a) b = s_TV (s_QN S b) a := rfl
theorem sc_QS_TV (S : SS) (a : (Nat → Int32)) (b : Int32) : s_QS (s_TV S a) b = s_TV (s_QS S b) a := rfl
theorem sc_QK_TV (S : SS) (a : (Nat → Int32)) (b : (Nat → Int32)) : s_QK (s_TV S a) b = s_TV (s_QK S b) a := rfl
theorem sc_QV_TV (S : SS) (a : (Nat → Int32)) (b : (Nat → Int32)) : s_QV (s_TV S a) b = s_TV (s_QV S b) a := rfl
theorem sc_A0_TV (S : SS) (a : (Nat → Int32)) (b : Int64) : s_A0 (s_TV S a) b = s_TV (s_A0 S b) a := rfl
theorem sc_A1_TV (S : SS) (a : (Nat → Int32)) (b : Int64) : s_A1 (s_TV S a) b = s_TV (s_A1 S b) a := rfl
theorem sc_A2_TV (S : SS) (a : (Nat → Int32)) (b : Int64) : s_A2 (s_TV S a) b = s_TV (s_A2 S b) a := rfl
theorem sc_A3_TV (S : SS) (a : (Nat → Int32)) (b : Int64) : s_A3 (s_TV S a) b = s_TV (s_A3 S b) a := rfl
theorem sc_B0_TV (S : SS) (a : (Nat → Int32)) (b : Int64) : s_B0 (s_TV S a) b = s_TV (s_B0 S b) a := rfl
theorem sc_B1_TV (S : SS) (a : (Nat → Int32)) (b : Int64) : s_B1 (s_TV S a) b = s_TV (s_B1 S b) a := rfl
theorem sc_B2_TV (S : SS) (a : (Nat → Int32)) (b : Int64) : s_B2 (s_TV S a) b = s_TV (s_B2 S b) a := rfl
theorem sc_B3_TV (S : SS) (a : (Nat → Int32)) (b : Int64) : s_B3 (s_TV S a) b = s_TV (s_B3 S b) a := rfl
theorem sc_C0_TV (S : SS) (a : (Nat → Int32)) (b : Int64) : s_C0 (s_TV S a) b = s_TV (s_C0 S b) a := rfl
theorem sc_C1_TV (S : SS) (a : (Nat → Int32)) (b : Int64) : s_C1 (s_TV S a) b = s_TV (s_C1 S b) a := rfl
theorem sc_C2_TV (S : SS) (a : (Nat → Int32)) (b : Int64) : s_C2 (s_TV S a) b = s_TV (s_C2 S b) a := rfl
theorem sc_C3_TV (S : SS) (a : (Nat → Int32)) (b : Int64) : s_C3 (s_TV S a) b = s_TV (s_C3 S b) a := rfl
theorem sc_HK_HN (S : SS) (a : Int32) (b : Int32) : s_HK (s_HN S a) b = s_HN (s_HK S b) a := rfl
theorem sc_HR_HN (S : SS) (a : Int32) (b : (Nat → Int32)) : s_HR (s_HN S a) b = s_HN (s_HR S b) a := rfl
theorem sc_SL_HN (S : SS) (a : Int32) (b : (Nat → Int32)) : s_SL (s_HN S a) b = s_HN (s_SL S b) a := rfl
theorem sc_SF_HN (S : SS) (a : Int32) (b : (Nat → Int32)) : s_SF (s_HN S a) b = s_HN (s_SF S b) a := rfl
theorem sc_AR_HN (S : SS) (a : Int32) (b : (Nat → Int32)) : s_AR (s_HN S a) b = s_HN (s_AR S b) a := rfl
theorem sc_BN_HN (S : SS) (a : Int32) (b : Int64) : s_BN (s_HN S a) b = s_HN (s_BN S b) a := rfl
theorem sc_BD_HN (S : SS) (a : Int32) (b : Int64) : s_BD (s_HN S a) b = s_HN (s_BD S b) a := rfl
theorem sc_EQ_HN (S : SS) (a : Int32) (b : (Nat → Int64)) : s_EQ (s_HN S a) b = s_HN (s_EQ S b) a := rfl
theorem sc_MI_HN (S : SS) (a : Int32) (b : (Nat → Int64)) : s_MI (s_HN S a) b = s_HN (s_MI S b) a := rfl
theorem sc_RE_HN (S : SS) (a : Int32) (b : (Nat → Int32)) : s_RE (s_HN S a) b = s_HN (s_RE S b) a := rfl
theorem sc_QN_HN (S : SS) (a : Int32) (b : Int32) : s_QN (s_HN S a) b = s_HN (s_QN S b) a := rfl
theorem sc_QS_HN (S : SS) (a : Int32) (b : Int32) : s_QS (s_HN S a) b = s_HN (s_QS S b) a := rfl
theorem sc_QK_HN (S : SS) (a : Int32) (b : (Nat → Int32)) : s_QK (s_HN S a) b = s_HN (s_QK S b) a := rfl
theorem sc_QV_HN (S : SS) (a : Int32) (b : (Nat → Int32)) : s_QV (s_HN S a) b = s_HN (s_QV S b) a := rfl
theorem sc_A0_HN (S : SS) (a : Int32) (b : Int64) : s_A0 (s_HN S a) b = s_HN (s_A0 S b) a := rfl
theorem sc_A1_HN (S : SS) (a : Int32) (b : Int64) : s_A1 (s_HN S a) b = s_HN (s_A1 S b) a := rfl
theorem sc_A2_HN (S : SS) (a : Int32) (b : Int64) : s_A2 (s_HN S a) b = s_HN (s_A2 S b) a := rfl
theorem sc_A3_HN (S : SS) (a : Int32) (b : Int64) : s_A3 (s_HN S a) b = s_HN (s_A3 S b) a := rfl
theorem sc_B0_HN (S : SS) (a : Int32) (b : Int64) : s_B0 (s_HN S a) b = s_HN (s_B0 S b) a := rfl
theorem sc_B1_HN (S : SS) (a : Int32) (b : Int64) : s_B1 (s_HN S a) b = s_HN (s_B1 S b) a := rfl
theorem sc_B2_HN (S : SS) (a : Int32) (b : Int64) : s_B2 (s_HN S a) b = s_HN (s_B2 S b) a := rfl
theorem sc_B3_HN (S : SS) (a : Int32) (b : Int64) : s_B3 (s_HN S a) b = s_HN (s_B3 S b) a := rfl
theorem sc_C0_HN (S : SS) (a : Int32) (b : Int64) : s_C0 (s_HN S a) b = s_HN (s_C0 S b) a := rfl
theorem sc_C1_HN (S : SS) (a : Int32) (b : Int64) : s_C1 (s_HN S a) b = s_HN (s_C1 S b) a := rfl
theorem sc_C2_HN (S : SS) (a : Int32) (b : Int64) : s_C2 (s_HN S a) b = s_HN (s_C2 S b) a := rfl
theorem sc_C3_HN (S : SS) (a : Int32) (b : Int64) : s_C3 (s_HN S a) b = s_HN (s_C3 S b) a := rfl
theorem sc_HR_HK (S : SS) (a : Int32) (b : (Nat → Int32)) : s_HR (s_HK S a) b = s_HK (s_HR S b) a := rfl
theorem sc_SL_HK (S : SS) (a : Int32) (b : (Nat → Int32)) : s_SL (s_HK S a) b = s_HK (s_SL S b) a := rfl
theorem sc_SF_HK (S : SS) (a : Int32) (b : (Nat → Int32)) : s_SF (s_HK S a) b = s_HK (s_SF S b) a := rfl
theorem sc_AR_HK (S : SS) (a : Int32) (b : (Nat → Int32)) : s_AR (s_HK S a) b = s_HK (s_AR S b) a := rfl
theorem sc_BN_HK (S : SS) (a : Int32) (b : Int64) : s_BN (s_HK S a) b = s_HK (s_BN S b) a := rfl
theorem sc_BD_HK (S : SS) (a : Int32) (b : Int64) : s_BD (s_HK S a) b = s_HK (s_BD S b) a := rfl
theorem sc_EQ_HK (S : SS) (a : Int32) (b : (Nat → Int64)) : s_EQ (s_HK S a) b = s_HK (s_EQ S b) a := rfl
theorem sc_MI_HK (S : SS) (a : Int32) (b : (Nat → Int64)) : s_MI (s_HK S a) b = s_HK (s_MI S b) a := rfl
theorem sc_RE_HK (S : SS) (a : Int32) (b : (Nat → Int32)) : s_RE (s_HK S a) b = s_HK (s_RE S b) a := rfl
theorem sc_QN_HK (S : SS) (a : Int32) (b : Int32) : s_QN (s_HK S a) b = s_HK (s_QN S b) a := rfl
theorem sc_QS_HK (S : SS) (a : Int32) (b : Int32) : s_QS (s_HK S a) b = s_HK (s_QS S b) a := rfl
theorem sc_QK_HK (S : SS) (a : Int32) (b : (Nat → Int32)) : s_QK (s_HK S a) b = s_HK (s_QK S b) a := rfl
theorem sc_QV_HK (S : SS) (a : Int32) (b : (Nat → Int32)) : s_QV (s_HK S a) b = s_HK (s_QV S b) a := rfl
theorem sc_A0_HK (S : SS) (a : Int32) (b : Int64) : s_A0 (s_HK S a) b = s_HK (s_A0 S b) a := rfl
theorem sc_A1_HK (S : SS) (a : Int32) (b : Int64) : s_A1 (s_HK S a) b = s_HK (s_A1 S b) a := rfl
theorem sc_A2_HK (S : SS) (a : Int32) (b : Int64) : s_A2 (s_HK S a) b = s_HK (s_A2 S b) a := rfl
theorem sc_A3_HK (S : SS) (a : Int32) (b : Int64) : s_A3 (s_HK S a) b = s_HK (s_A3 S b) a := rfl
theorem sc_B0_HK (S : SS) (a : Int32) (b : Int64) : s_B0 (s_HK S a) b = s_HK (s_B0 S b) a := rfl
theorem sc_B1_HK (S : SS) (a : Int32) (b : Int64) : s_B1 (s_HK S a) b = s_HK (s_B1 S b) a := rfl
theorem sc_B2_HK (S : SS) (a : Int32) (b : Int64) : s_B2 (s_HK S a) b = s_HK (s_B2 S b) a := rfl
theorem sc_B3_HK (S : SS) (a : Int32) (b : Int64) : s_B3 (s_HK S a) b = s_HK (s_B3 S b) a := rfl
theorem sc_C0_HK (S : SS) (a : Int32) (b : Int64) : s_C0 (s_HK S a) b = s_HK (s_C0 S b) a := rfl
theorem sc_C1_HK (S : SS) (a : Int32) (b : Int64) : s_C1 (s_HK S a) b = s_HK (s_C1 S b) a := rfl
theorem sc_C2_HK (S : SS) (a : Int32) (b : Int64) : s_C2 (s_HK S a) b = s_HK (s_C2 S b) a := rfl
theorem sc_C3_HK (S : SS) (a : Int32) (b : Int64) : s_C3 (s_HK S a) b = s_HK (s_C3 S b) a := rfl
theorem sc_SL_HR (S : SS) (a : (Nat → Int32)) (b : (Nat → Int32)) : s_SL (s_HR S a) b = s_HR (s_SL S b) a := rfl
theorem sc_SF_HR (S : SS) (a : (Nat → Int32)) (b : (Nat → Int32)) : s_SF (s_HR S a) b = s_HR (s_SF S b) a := rfl
theorem sc_AR_HR (S : SS) (a : (Nat → Int32)) (b : (Nat → Int32)) : s_AR (s_HR S a) b = s_HR (s_AR S b) a := rfl
theorem sc_BN_HR (S : SS) (a : (Nat → Int32)) (b : Int64) : s_BN (s_HR S a) b = s_HR (s_BN S b) a := rfl
theorem sc_BD_HR (S : SS) (a : (Nat → Int32)) (b : Int64) : s_BD (s_HR S a) b = s_HR (s_BD S b) a := rfl
theorem sc_EQ_HR (S : SS) (a : (Nat → Int32)) (b : (Nat → Int64)) : s_EQ (s_HR S a) b = s_HR (s_EQ S b) a := rfl
theorem sc_MI_HR (S : SS) (a : (Nat → Int32)) (b : (Nat → Int64)) : s_MI (s_HR S a) b = s_HR (s_MI S b) a := rfl
theorem sc_RE_HR (S : SS) (a : (Nat → Int32)) (b : (Nat → Int32)) : s_RE (s_HR S a) b = s_HR (s_RE S b) a := rfl
theorem sc_QN_HR (S : SS) (a : (Nat → Int32)) (b : Int32) : s_QN (s_HR S a) b = s_HR (s_QN S b) a := rfl
theorem sc_QS_HR (S : SS) (a : (Nat → Int32)) (b : Int32) : s_QS (s_HR S a) b = s_HR (s_QS S b) a := rfl
theorem sc_QK_HR (S : SS) (a : (Nat → Int32)) (b : (Nat → Int32)) : s_QK (s_HR S a) b = s_HR (s_QK S b) a := rfl
theorem sc_QV_HR (S : SS) (a : (Nat → Int32)) (b : (Nat → Int32)) : s_QV (s_HR S a) b = s_HR (s_QV S b) a := rfl
theorem sc_A0_HR (S : SS) (a : (Nat → Int32)) (b : Int64) : s_A0 (s_HR S a) b = s_HR (s_A0 S b) a := rfl
theorem sc_A1_HR (S : SS) (a : (Nat → Int32)) (b : Int64) : s_A1 (s_HR S a) b = s_HR (s_A1 S b) a := rfl
theorem sc_A2_HR (S : SS) (a : (Nat → Int32)) (b : Int64) : s_A2 (s_HR S a) b = s_HR (s_A2 S b) a := rfl
theorem sc_A3_HR (S : SS) (a : (Nat → Int32)) (b : Int64) : s_A3 (s_HR S a) b = s_HR (s_A3 S b) a := rfl
theorem sc_B0_HR (S : SS) (a : (Nat → Int32)) (b : Int64) : s_B0 (s_HR S a) b = s_HR (s_B0 S b) a := rfl
theorem sc_B1_HR (S : SS) (a : (Nat → Int32)) (b : Int64) : s_B1 (s_HR S a) b = s_HR (s_B1 S b) a := rfl
theorem sc_B2_HR (S : SS) (a : (Nat → Int32)) (b : Int64) : s_B2 (s_HR S a) b = s_HR (s_B2 S b) a := rfl
theorem sc_B3_HR (S : SS) (a : (Nat → Int32)) (b : Int64) : s_B3 (s_HR S a) b = s_HR (s_B3 S b) a := rfl
theorem sc_C0_HR (S : SS) (a : (Nat → Int32)) (b : Int64) : s_C0 (s_HR S a) b = s_HR (s_C0 S b) a := rfl
theorem sc_C1_HR (S : SS) (a : (Nat → Int32)) (b : Int64) : s_C1 (s_HR S a) b = s_HR (s_C1 S b) a := rfl
theorem sc_C2_HR (S : SS) (a : (Nat → Int32)) (b : Int64) : s_C2 (s_HR S a) b = s_HR (s_C2 S b) a := rfl
theorem sc_C3_HR (S : SS) (a : (Nat → Int32)) (b : Int64) : s_C3 (s_HR S a) b = s_HR (s_C3 S b) a := rfl
theorem sc_SF_SL (S : SS) (a : (Nat → Int32)) (b : (Nat → Int32)) : s_SF (s_SL S a) b = s_SL (s_SF S b) a := rfl
theorem sc_AR_SL (S : SS) (a : (Nat → Int32)) (b : (Nat → Int32)) : s_AR (s_SL S a) b = s_SL (s_AR S b) a := rfl
theorem sc_BN_SL (S : SS) (a : (Nat → Int32)) (b : Int64) : s_BN (s_SL S a) b = s_SL (s_BN S b) a := rfl
theorem sc_BD_SL (S : SS) (a : (Nat → Int32)) (b : Int64) : s_BD (s_SL S a) b = s_SL (s_BD S b) a := rfl
theorem sc_EQ_SL (S : SS) (a : (Nat → Int32)) (b : (Nat → Int64)) : s_EQ (s_SL S a) b = s_SL (s_EQ S b) a := rfl
theorem sc_MI_SL (S : SS) (a : (Nat → Int32)) (b : (Nat → Int64)) : s_MI (s_SL S a) b = s_SL (s_MI S b) a := rfl
theorem sc_RE_SL (S : SS) (a : (Nat → Int32)) (b : (Nat → Int32)) : s_RE (s_SL S a) b = s_SL (s_RE S b) a := rfl
theorem sc_QN_SL (S : SS) (a : (Nat → Int32)) (b : Int32) : s_QN (s_SL S a) b = s_SL (s_QN S b) a := rfl
theorem sc_QS_SL (S : SS) (a : (Nat → Int32)) (b : Int32) : s_QS (s_SL S a) b = s_SL (s_QS S b) a := rfl
theorem sc_QK_SL (S : SS) (a : (Nat → Int32)) (b : (Nat → Int32)) : s_QK (s_SL S a) b = s_SL (s_QK S b) a := rfl
theorem sc_QV_SL (S : SS) (a : (Nat → Int32)) (b : (Nat → Int32)) : s_QV (s_SL S a) b = s_SL (s_QV S b) a := rfl
theorem sc_A0_SL (S : SS) (a : (Nat → Int32)) (b : Int64) : s_A0 (s_SL S a) b = s_SL (s_A0 S b) a := rfl
theorem sc_A1_SL (S : SS) (a : (Nat → Int32)) (b : Int64) : s_A1 (s_SL S a) b = s_SL (s_A1 S b) a := rfl
theorem sc_A2_SL (S : SS) (a : (Nat → Int32)) (b : Int64) : s_A2 (s_SL S a) b = s_SL (s_A2 S b) a := rfl
theorem sc_A3_SL (S : SS) (a : (Nat → Int32)) (b : Int64) : s_A3 (s_SL S a) b = s_SL (s_A3 S b) a := rfl
theorem sc_B0_SL (S : SS) (a : (Nat → Int32)) (b : Int64) : s_B0 (s_SL S a) b = s_SL (s_B0 S b) a := rfl
theorem sc_B1_SL (S : SS) (a : (Nat → Int32)) (b : Int64) : s_B1 (s_SL S a) b = s_SL (s_B1 S b) a := rfl
theorem sc_B2_SL (S : SS) (a : (Nat → Int32)) (b : Int64) : s_B2 (s_SL S a) b = s_SL (s_B2 S b) a := rfl
theorem sc_B3_SL (S : SS) (a : (Nat → Int32)) (b : Int64) : s_B3 (s_SL S a) b = s_SL (s_B3 S b) a := rfl
theorem sc_C0_SL (S : SS) (a : (Nat → Int32)) (b : Int64) : s_C0 (s_SL S a) b = s_SL (s_C0 S b) a := rfl
theorem sc_C1_SL (S : SS) (a : (Nat → Int32)) (b : Int64) : s_C1 (s_SL S a) b = s_SL (s_C1 S b) a := rfl
theorem sc_C2_SL (S : SS) (a : (Nat → Int32)) (b : Int64) : s_C2 (s_SL S a) b = s_SL (s_C2 S b) a := rfl
theorem sc_C3_SL (S : SS) (a : (Nat → Int32)) (b : Int64) : s_C3 (s_SL S a) b = s_SL (s_C3 S b) a := rfl
theorem sc_AR_SF (S : SS) (a : (Nat → Int32)) (b : (Nat → Int32)) : s_AR (s_SF S a) b = s_SF (s_AR S b) a := rfl
theorem sc_BN_SF (S : SS) (a : (Nat → Int32)) (b : Int64) : s_BN (s_SF S a) b = s_SF (s_BN S b) a := rfl
theorem sc_BD_SF (S : SS) (a : (Nat → Int32)) (b : Int64) : s_BD (s_SF S a) b = s_SF (s_BD S b) a := rfl
theorem sc_EQ_SF (S : SS) (a : (Nat → Int32)) (b : (Nat → Int64)) : s_EQ (s_SF S a) b = s_SF (s_EQ S b) a := rfl
theorem sc_MI_SF (S : SS) (a : (Nat → Int32)) (b : (Nat → Int64)) : s_MI (s_SF S a) b = s_SF (s_MI S b) a := rfl
theorem sc_RE_SF (S : SS) (a : (Nat → Int32)) (b : (Nat → Int32)) : s_RE (s_SF S a) b = s_SF (s_RE S b) a := rfl
theorem sc_QN_SF (S : SS) (a : (Nat → Int32)) (b : Int32) : s_QN (s_SF S a) b = s_SF (s_QN S b) a := rfl
theorem sc_QS_SF (S : SS) (a : (Nat → Int32)) (b : Int32) : s_QS (s_SF S a) b = s_SF (s_QS S b) a := rfl
theorem sc_QK_SF (S : SS) (a : (Nat → Int32)) (b : (Nat → Int32)) : s_QK (s_SF S a) b = s_SF (s_QK S b) a := rfl
theorem sc_QV_SF (S : SS) (a : (Nat → Int32)) (b : (Nat → Int32)) : s_QV (s_SF S a) b = s_SF (s_QV S b) a := rfl
theorem sc_A0_SF (S : SS) (a : (Nat → Int32)) (b : Int64) : s_A0 (s_SF S a) b = s_SF (s_A0 S b) a := rfl
theorem sc_A1_SF (S : SS) (a : (Nat → Int32)) (b : Int64) : s_A1 (s_SF S a) b = s_SF (s_A1 S b) a := rfl
theorem sc_A2_SF (S : SS) (a : (Nat → Int32)) (b : Int64) : s_A2 (s_SF S a) b = s_SF (s_A2 S b) a := rfl
theorem sc_A3_SF (S : SS) (a : (Nat → Int32)) (b : Int64) : s_A3 (s_SF S a) b = s_SF (s_A3 S b) a := rfl
theorem sc_B0_SF (S : SS) (a : (Nat → Int32)) (b : Int64) : s_B0 (s_SF S a) b = s_SF (s_B0 S b) a := rfl
theorem sc_B1_SF (S : SS) (a : (Nat → Int32)) (b : Int64) : s_B1 (s_SF S a) b = s_SF (s_B1 S b) a := rfl
theorem sc_B2_SF (S : SS) (a : (Nat → Int32)) (b : Int64) : s_B2 (s_SF S a) b = s_SF (s_B2 S b) a := rfl
theorem sc_B3_SF (S : SS) (a : (Nat → Int32)) (b : Int64) : s_B3 (s_SF S a) b = s_SF (s_B3 S b) a := rfl
theorem sc_C0_SF (S : SS) (a : (Nat → Int32)) (b : Int64) : s_C0 (s_SF S a) b = s_SF (s_C0 S b) a := rfl
theorem sc_C1_SF (S : SS) (a : (Nat → Int32)) (b : Int64) : s_C1 (s_SF S a) b = s_SF (s_C1 S b) a := rfl
theorem sc_C2_SF (S : SS) (a : (Nat → Int32)) (b : Int64) : s_C2 (s_SF S a) b = s_SF (s_C2 S b) a := rfl
theorem sc_C3_SF (S : SS) (a : (Nat → Int32)) (b : Int64) : s_C3 (s_SF S a) b = s_SF (s_C3 S b) a := rfl
theorem sc_BN_AR (S : SS) (a : (Nat → Int32)) (b : Int64) : s_BN (s_AR S a) b = s_AR (s_BN S b) a := rfl
theorem sc_BD_AR (S : SS) (a : (Nat → Int32)) (b : Int64) : s_BD (s_AR S a) b = s_AR (s_BD S b) a := rfl
theorem sc_EQ_AR (S : SS) (a : (Nat → Int32)) (b : (Nat → Int64)) : s_EQ (s_AR S a) b = s_AR (s_EQ S b) a := rfl
theorem sc_MI_AR (S : SS) (a : (Nat → Int32)) (b : (Nat → Int64)) : s_MI (s_AR S a) b = s_AR (s_MI S b) a := rfl
theorem sc_RE_AR (S : SS) (a : (Nat → Int32)) (b : (Nat → Int32)) : s_RE (s_AR S a) b = s_AR (s_RE S b) a := rfl
theorem sc_QN_AR (S : SS) (a : (Nat → Int32)) (b : Int32) : s_QN (s_AR S a) b = s_AR (s_QN S b) a := rfl
theorem sc_QS_AR (S : SS) (a : (Nat → Int32)) (b : Int32) : s_QS (s_AR S a) b = s_AR (s_QS S b) a := rfl
theorem sc_QK_AR (S : SS) (a : (Nat → Int32)) (b : (Nat → Int32)) : s_QK (s_AR S a) b = s_AR (s_QK S b) a := rfl
theorem sc_QV_AR (S : SS) (a : (Nat → Int32)) (b : (Nat → Int32)) : s_QV (s_AR S a) b = s_AR (s_QV S b) a := rfl
theorem sc_A0_AR (S : SS) (a : (Nat → Int32)) (b : Int64) : s_A0 (s_AR S a) b = s_AR (s_A0 S b) a := rfl
theorem sc_A1_AR (S : SS) (a : (Nat → Int32)) (b : Int64) : s_A1 (s_AR S a) b = s_AR (s_A1 S b) a := rfl
theorem sc_A2_AR (S : SS) (a : (Nat → Int32)) (b : Int64) : s_A2 (s_AR S a) b = s_AR (s_A2 S b) a := rfl
theorem sc_A3_AR (S : SS) (a : (Nat → Int32)) (b : Int64) : s_A3 (s_AR S a) b = s_AR (s_A3 S b) a := rfl
theorem sc_B0_AR (S : SS) (a : (Nat → Int32)) (b : Int64) : s_B0 (s_AR S a) b = s_AR (s_B0 S b) a := rfl
theorem sc_B1_AR (S : SS) (a : (Nat → Int32)) (b : Int64) : s_B1 (s_AR S a) b = s_AR (s_B1 S b) a := rfl
theorem sc_B2_AR (S : SS) (a : (Nat → Int32)) (b : Int64) : s_B2 (s_AR S a) b = s_AR (s_B2 S b) a := rfl
theorem sc_B3_AR (S : SS) (a : (Nat → Int32)) (b : Int64) : s_B3 (s_AR S a) b = s_AR (s_B3 S b) a := rfl
theorem sc_C0_AR (S : SS) (a : (Nat → Int32)) (b : Int64) : s_C0 (s_AR S a) b = s_AR (s_C0 S b) a := rfl
theorem sc_C1_AR (S : SS) (a : (Nat → Int32)) (b : Int64) : s_C1 (s_AR S a) b = s_AR (s_C1 S b) a := rfl
theorem sc_C2_AR (S : SS) (a : (Nat → Int32)) (b : Int64) : s_C2 (s_AR S a) b = s_AR (s_C2 S b) a := rfl
theorem sc_C3_AR (S : SS) (a : (Nat → Int32)) (b : Int64) : s_C3 (s_AR S a) b = s_AR (s_C3 S b) a := rfl
theorem sc_BD_BN (S : SS) (a : Int64) (b : Int64) : s_BD (s_BN S a) b = s_BN (s_BD S b) a := rfl
theorem sc_EQ_BN (S : SS) (a : Int64) (b : (Nat → Int64)) : s_EQ (s_BN S a) b = s_BN (s_EQ S b) a := rfl
theorem sc_MI_BN (S : SS) (a : Int64) (b : (Nat → Int64)) : s_MI (s_BN S a) b = s_BN (s_MI S b) a := rfl
theorem sc_RE_BN (S : SS) (a : Int64) (b : (Nat → Int32)) : s_RE (s_BN S a) b = s_BN (s_RE S b) a := rfl
theorem sc_QN_BN (S : SS) (a : Int64) (b : Int32) : s_QN (s_BN S a) b = s_BN (s_QN S b) a := rfl
theorem sc_QS_BN (S : SS) (a : Int64) (b : Int32) : s_QS (s_BN S a) b = s_BN (s_QS S b) a := rfl
theorem sc_QK_BN (S : SS) (a : Int64) (b : (Nat → Int32)) : s_QK (s_BN S a) b = s_BN (s_QK S b) a := rfl
theorem sc_QV_BN (S : SS) (a : Int64) (b : (Nat → Int32)) : s_QV (s_BN S a) b = s_BN (s_QV S b) a := rfl
theorem sc_A0_BN (S : SS) (a : Int64) (b : Int64) : s_A0 (s_BN S a) b = s_BN (s_A0 S b) a := rfl
theorem sc_A1_BN (S : SS) (a : Int64) (b : Int64) : s_A1 (s_BN S a) b = s_BN (s_A1 S b) a := rfl
theorem sc_A2_BN (S : SS) (a : Int64) (b : Int64) : s_A2 (s_BN S a) b = s_BN (s_A2 S b) a := rfl
theorem sc_A3_BN (S : SS) (a : Int64) (b : Int64) : s_A3 (s_BN S a) b = s_BN (s_A3 S b) a := rfl
theorem sc_B0_BN (S : SS) (a : Int64) (b : Int64) : s_B0 (s_BN S a) b = s_BN (s_B0 S b) a := rfl
theorem sc_B1_BN (S : SS) (a : Int64) (b : Int64) : s_B1 (s_BN S a) b = s_BN (s_B1 S b) a := rfl
theorem sc_B2_BN (S : SS) (a : Int64) (b : Int64) : s_B2 (s_BN S a) b = s_BN (s_B2 S b) a := rfl
theorem sc_B3_BN (S : SS) (a : Int64) (b : Int64) : s_B3 (s_BN S a) b = s_BN (s_B3 S b) a := rfl
theorem sc_C0_BN (S : SS) (a : Int64) (b : Int64) : s_C0 (s_BN S a) b = s_BN (s_C0 S b) a := rfl
theorem sc_C1_BN (S : SS) (a : Int64) (b : Int64) : s_C1 (s_BN S a) b = s_BN (s_C1 S b) a := rfl
theorem sc_C2_BN (S : SS) (a : Int64) (b : Int64) : s_C2 (s_BN S a) b = s_BN (s_C2 S b) a := rfl
theorem sc_C3_BN (S : SS) (a : Int64) (b : Int64) : s_C3 (s_BN S a) b = s_BN (s_C3 S b) a := rfl
theorem sc_EQ_BD (S : SS) (a : Int64) (b : (Nat → Int64)) : s_EQ (s_BD S a) b = s_BD (s_EQ S b) a := rfl
theorem sc_MI_BD (S : SS) (a : Int64) (b : (Nat → Int64)) : s_MI (s_BD S a) b = s_BD (s_MI S b) a := rfl
theorem sc_RE_BD (S : SS) (a : Int64) (b : (Nat → Int32)) : s_RE (s_BD S a) b = s_BD (s_RE S b) a := rfl
theorem sc_QN_BD (S : SS) (a : Int64) (b : Int32) : s_QN (s_BD S a) b = s_BD (s_QN S b) a := rfl
theorem sc_QS_BD (S : SS) (a : Int64) (b : Int32) : s_QS (s_BD S a) b = s_BD (s_QS S b) a := rfl
theorem sc_QK_BD (S : SS) (a : Int64) (b : (Nat → Int32)) : s_QK (s_BD S a) b = s_BD (s_QK S b) a := rfl
theorem sc_QV_BD (S : SS) (a : Int64) (b : (Nat → Int32)) : s_QV (s_BD S a) b = s_BD (s_QV S b) a := rfl
theorem sc_A0_BD (S : SS) (a : Int64) (b : Int64) : s_A0 (s_BD S a) b = s_BD (s_A0 S b) a := rfl
theorem sc_A1_BD (S : SS) (a : Int64) (b : Int64) : s_A1 (s_BD S a) b = s_BD (s_A1 S b) a := rfl
theorem sc_A2_BD (S : SS) (a : Int64) (b : Int64) : s_A2 (s_BD S a) b = s_BD (s_A2 S b) a := rfl
theorem sc_A3_BD (S : SS) (a : Int64) (b : Int64) : s_A3 (s_BD S a) b = s_BD (s_A3 S b) a := rfl
theorem sc_B0_BD (S : SS) (a : Int64) (b : Int64) : s_B0 (s_BD S a) b = s_BD (s_B0 S b) a := rfl
theorem sc_B1_BD (S : SS) (a : Int64) (b : Int64) : s_B1 (s_BD S a) b = s_BD (s_B1 S b) a := rfl
theorem sc_B2_BD (S : SS) (a : Int64) (b : Int64) : s_B2 (s_BD S a) b = s_BD (s_B2 S b) a := rfl
theorem sc_B3_BD (S : SS) (a : Int64) (b : Int64) : s_B3 (s_BD S a) b = s_BD (s_B3 S b) a := rfl
theorem sc_C0_BD (S : SS) (a : Int64) (b : Int64) : s_C0 (s_BD S a) b = s_BD (s_C0 S b) a := rfl
theorem sc_C1_BD (S : SS) (a : Int64) (b : Int64) : s_C1 (s_BD S a) b = s_BD (s_C1 S b) a := rfl
theorem sc_C2_BD (S : SS) (a : Int64) (b : Int64) : s_C2 (s_BD S a) b = s_BD (s_C2 S b) a := rfl
theorem sc_C3_BD (S : SS) (a : Int64) (b : Int64) : s_C3 (s_BD S a) b = s_BD (s_C3 S b) a := rfl
theorem sc_MI_EQ (S : SS) (a : (Nat → Int64)) (b : (Nat → Int64)) : s_MI (s_EQ S a) b = s_EQ (s_MI S b) a := rfl
theorem sc_RE_EQ (S : SS) (a : (Nat → Int64)) (b : (Nat → Int32)) : s_RE (s_EQ S a) b = s_EQ (s_RE S b) a := rfl
theorem sc_QN_EQ (S : SS) (a : (Nat → Int64)) (b : Int32) : s_QN (s_EQ S a) b = s_EQ (s_QN S b) a := rfl
theorem sc_QS_EQ (S : SS) (a : (Nat → Int64)) (b : Int32) : s_QS (s_EQ S a) b = s_EQ (s_QS S b) a := rfl
theorem sc_QK_EQ (S : SS) (a : (Nat → Int64)) (b : (Nat → Int32)) : s_QK (s_EQ S a) b = s_EQ (s_QK S b) a := rfl
theorem sc_QV_EQ (S : SS) (a : (Nat → Int64)) (b : (Nat → Int32)) : s_QV (s_EQ S a) b = s_EQ (s_QV S b) a := rfl
theorem sc_A0_EQ (S : SS) (a : (Nat → Int64)) (b : Int64) : s_A0 (s_EQ S a) b = s_EQ (s_A0 S b) a := rfl
theorem sc_A1_EQ (S : SS) (a : (Nat → Int64)) (b : Int64) : s_A1 (s_EQ S a) b = s_EQ (s_A1 S b) a := rfl
theorem sc_A2_EQ (S : SS) (a : (Nat → Int64)) (b : Int64) : s_A2 (s_EQ S a) b = s_EQ (s_A2 S b) a := rfl
theorem sc_A3_EQ (S : SS) (a : (Nat → Int64)) (b : Int64) : s_A3 (s_EQ S a) b = s_EQ (s_A3 S b) a := rfl
theorem sc_B0_EQ (S : SS) (a : (Nat → Int64)) (b : Int64) : s_B0 (s_EQ S a) b = s_EQ (s_B0 S b) a := rfl
theorem sc_B1_EQ (S : SS) (a : (Nat → Int64)) (b : Int64) : s_B1 (s_EQ S a) b = s_EQ (s_B1 S b) a := rfl
theorem sc_B2_EQ (S : SS) (a : (Nat → Int64)) (b : Int64) : s_B2 (s_EQ S a) b = s_EQ (s_B2 S b) a := rfl
theorem sc_B3_EQ (S : SS) (a : (Nat → Int64)) (b : Int64) : s_B3 (s_EQ S a) b = s_EQ (s_B3 S b) a := rfl
theorem sc_C0_EQ (S : SS) (a : (Nat → Int64)) (b : Int64) : s_C0 (s_EQ S a) b = s_EQ (s_C0 S b) a := rfl
theorem sc_C1_EQ (S : SS) (a : (Nat → Int64)) (b : Int64) : s_C1 (s_EQ S a) b = s_EQ (s_C1 S b) a := rfl
theorem sc_C2_EQ (S : SS) (a : (Nat → Int64)) (b : Int64) : s_C2 (s_EQ S a) b = s_EQ (s_C2 S b) a := rfl
theorem sc_C3_EQ (S : SS) (a : (Nat → Int64)) (b : Int64) : s_C3 (s_EQ S a) b = s_EQ (s_C3 S b) a := rfl
theorem sc_RE_MI (S : SS) (a : (Nat → Int64)) (b : (Nat → Int32)) : s_RE (s_MI S a) b = s_MI (s_RE S b) a := rfl
theorem sc_QN_MI (S : SS) (a : (Nat → Int64)) (b : Int32) : s_QN (s_MI S a) b = s_MI (s_QN S b) a := rfl
theorem sc_QS_MI (S : SS) (a : (Nat → Int64)) (b : Int32) : s_QS (s_MI S a) b = s_MI (s_QS S b) a := rfl
theorem sc_QK_MI (S : SS) (a : (Nat → Int64)) (b : (Nat → Int32)) : s_QK (s_MI S a) b = s_MI (s_QK S b) a := rfl
theorem sc_QV_MI (S : SS) (a : (Nat → Int64)) (b : (Nat → Int32)) : s_QV (s_MI S a) b = s_MI (s_QV S b) a := rfl
theorem sc_A0_MI (S : SS) (a : (Nat → Int64)) (b : Int64) : s_A0 (s_MI S a) b = s_MI (s_A0 S b) a := rfl
theorem sc_A1_MI (S : SS) (a : (Nat → Int64)) (b : Int64) : s_A1 (s_MI S a) b = s_MI (s_A1 S b) a := rfl
theorem sc_A2_MI (S : SS) (a : (Nat → Int64)) (b : Int64) : s_A2 (s_MI S a) b = s_MI (s_A2 S b) a := rfl
theorem sc_A3_MI (S : SS) (a : (Nat → Int64)) (b : Int64) : s_A3 (s_MI S a) b = s_MI (s_A3 S b) a := rfl
theorem sc_B0_MI (S : SS) (a : (Nat → Int64)) (b : Int64) : s_B0 (s_MI S a) b = s_MI (s_B0 S b) a := rfl
theorem sc_B1_MI (S : SS) (a : (Nat → Int64)) (b : Int64) : s_B1 (s_MI S a) b = s_MI (s_B1 S b) a := rfl
theorem sc_B2_MI (S : SS) (a : (Nat → Int64)) (b : Int64) : s_B2 (s_MI S a) b = s_MI (s_B2 S b) a := rfl
theorem sc_B3_MI (S : SS) (a : (Nat → Int64)) (b : Int64) : s_B3 (s_MI S a) b = s_MI (s_B3 S b) a := rfl
theorem sc_C0_MI (S : SS) (a : (Nat → Int64)) (b : Int64) : s_C0 (s_MI S a) b = s_MI (s_C0 S b) a := rfl
theorem sc_C1_MI (S : SS) (a : (Nat → Int64)) (b : Int64) : s_C1 (s_MI S a) b = s_MI (s_C1 S b) a := rfl
theorem sc_C2_MI (S : SS) (a : (Nat → Int64)) (b : Int64) : s_C2 (s_MI S a) b = s_MI (s_C2 S b) a := rfl
theorem sc_C3_MI (S : SS) (a : (Nat → Int64)) (b : Int64) : s_C3 (s_MI S a) b = s_MI (s_C3 S b) a := rfl
theorem sc_QN_RE (S : SS) (a : (Nat → Int32)) (b : Int32) : s_QN (s_RE S a) b = s_RE (s_QN S b) a := rfl
theorem sc_QS_RE (S : SS) (a : (Nat → Int32)) (b : Int32) : s_QS (s_RE S a) b = s_RE (s_QS S b) a := rfl
theorem sc_QK_RE (S : SS) (a : (Nat → Int32)) (b : (Nat → Int32)) : s_QK (s_RE S a) b = s_RE (s_QK S b) a := rfl
theorem sc_QV_RE (S : SS) (a : (Nat → Int32)) (b : (Nat → Int32)) : s_QV (s_RE S a) b = s_RE (s_QV S b) a := rfl
theorem sc_A0_RE (S : SS) (a : (Nat → Int32)) (b : Int64) : s_A0 (s_RE S a) b = s_RE (s_A0 S b) a := rfl
theorem sc_A1_RE (S : SS) (a : (Nat → Int32)) (b : Int64) : s_A1 (s_RE S a) b = s_RE (s_A1 S b) a := rfl
theorem sc_A2_RE (S : SS) (a : (Nat → Int32)) (b : Int64) : s_A2 (s_RE S a) b = s_RE (s_A2 S b) a := rfl
theorem sc_A3_RE (S : SS) (a : (Nat → Int32)) (b : Int64) : s_A3 (s_RE S a) b = s_RE (s_A3 S b) a := rfl
theorem sc_B0_RE (S : SS) (a : (Nat → Int32)) (b : Int64) : s_B0 (s_RE S a) b = s_RE (s_B0 S b) a := rfl
theorem sc_B1_RE (S : SS) (a : (Nat → Int32)) (b : Int64) : s_B1 (s_RE S a) b = s_RE (s_B1 S b) a := rfl
theorem sc_B2_RE (S : SS) (a : (Nat → Int32)) (b : Int64) : s_B2 (s_RE S a) b = s_RE (s_B2 S b) a := rfl
theorem sc_B3_RE (S : SS) (a : (Nat → Int32)) (b : Int64) : s_B3 (s_RE S a) b = s_RE (s_B3 S b) a := rfl
theorem sc_C0_RE (S : SS) (a : (Nat → Int32)) (b : Int64) : s_C0 (s_RE S a) b = s_RE (s_C0 S b) a := rfl
theorem sc_C1_RE (S : SS) (a : (Nat → Int32)) (b : Int64) : s_C1 (s_RE S a) b = s_RE (s_C1 S b) a := rfl
theorem sc_C2_RE (S : SS) (a : (Nat → Int32)) (b : Int64) : s_C2 (s_RE S a) b = s_RE (s_C2 S b) a := rfl
theorem sc_C3_RE (S : SS) (a : (Nat → Int32)) (b : Int64) : s_C3 (s_RE S a) b = s_RE (s_C3 S b) a := rfl
theorem sc_QS_QN (S : SS) (a : Int32) (b : Int32) : s_QS (s_QN S a) b = s_QN (s_QS S b) a := rfl
theorem sc_QK_QN (S : SS) (a : Int32) (b : (Nat → Int32)) : s_QK (s_QN S a) b = s_QN (s_QK S b) a := rfl
theorem sc_QV_QN (S : SS) (a : Int32) (b : (Nat → Int32)) : s_QV (s_QN S a) b = s_QN (s_QV S b) a := rfl
theorem sc_A0_QN (S : SS) (a : Int32) (b : Int64) : s_A0 (s_QN S a) b = s_QN (s_A0 S b) a := rfl
theorem sc_A1_QN (S : SS) (a : Int32) (b : Int64) : s_A1 (s_QN S a) b = s_QN (s_A1 S b) a := rfl
theorem sc_A2_QN (S : SS) (a : Int32) (b : Int64) : s_A2 (s_QN S a) b = s_QN (s_A2 S b) a := rfl
theorem sc_A3_QN (S : SS) (a : Int32) (b : Int64) : s_A3 (s_QN S a) b = s_QN (s_A3 S b) a := rfl
theorem sc_B0_QN (S : SS) (a : Int32) (b : Int64) : s_B0 (s_QN S a) b = s_QN (s_B0 S b) a := rfl
theorem sc_B1_QN (S : SS) (a : Int32) (b : Int64) : s_B1 (s_QN S a) b = s_QN (s_B1 S b) a := rfl
theorem sc_B2_QN (S : SS) (a : Int32) (b : Int64) : s_B2 (s_QN S a) b = s_QN (s_B2 S b) a := rfl
theorem sc_B3_QN (S : SS) (a : Int32) (b : Int64) : s_B3 (s_QN S a) b = s_QN (s_B3 S b) a := rfl
theorem sc_C0_QN (S : SS) (a : Int32) (b : Int64) : s_C0 (s_QN S a) b = s_QN (s_C0 S b) a := rfl
theorem sc_C1_QN (S : SS) (a : Int32) (b : Int64) : s_C1 (s_QN S a) b = s_QN (s_C1 S b) a := rfl
theorem sc_C2_QN (S : SS) (a : Int32) (b : Int64) : s_C2 (s_QN S a) b = s_QN (s_C2 S b) a := rfl
theorem sc_C3_QN (S : SS) (a : Int32) (b : Int64) : s_C3 (s_QN S a) b = s_QN (s_C3 S b) a := rfl
theorem sc_QK_QS (S : SS) (a : Int32) (b : (Nat → Int32)) : s_QK (s_QS S a) b = s_QS (s_QK S b) a := rfl
theorem sc_QV_QS (S : SS) (a : Int32) (b : (Nat → Int32)) : s_QV (s_QS S a) b = s_QS (s_QV S b) a := rfl
theorem sc_A0_QS (S : SS) (a : Int32) (b : Int64) : s_A0 (s_QS S a) b = s_QS (s_A0 S b) a := rfl
theorem sc_A1_QS (S : SS) (a : Int32) (b : Int64) : s_A1 (s_QS S a) b = s_QS (s_A1 S b) a := rfl
theorem sc_A2_QS (S : SS) (a : Int32) (b : Int64) : s_A2 (s_QS S a) b = s_QS (s_A2 S b) a := rfl
theorem sc_A3_QS (S : SS) (a : Int32) (b : Int64) : s_A3 (s_QS S a) b = s_QS (s_A3 S b) a := rfl
theorem sc_B0_QS (S : SS) (a : Int32) (b : Int64) : s_B0 (s_QS S a) b = s_QS (s_B0 S b) a := rfl
theorem sc_B1_QS (S : SS) (a : Int32) (b : Int64) : s_B1 (s_QS S a) b = s_QS (s_B1 S b) a := rfl
theorem sc_B2_QS (S : SS) (a : Int32) (b : Int64) : s_B2 (s_QS S a) b = s_QS (s_B2 S b) a := rfl
theorem sc_B3_QS (S : SS) (a : Int32) (b : Int64) : s_B3 (s_QS S a) b = s_QS (s_B3 S b) a := rfl
theorem sc_C0_QS (S : SS) (a : Int32) (b : Int64) : s_C0 (s_QS S a) b = s_QS (s_C0 S b) a := rfl
theorem sc_C1_QS (S : SS) (a : Int32) (b : Int64) : s_C1 (s_QS S a) b = s_QS (s_C1 S b) a := rfl
theorem sc_C2_QS (S : SS) (a : Int32) (b : Int64) : s_C2 (s_QS S a) b = s_QS (s_C2 S b) a := rfl
theorem sc_C3_QS (S : SS) (a : Int32) (b : Int64) : s_C3 (s_QS S a) b = s_QS (s_C3 S b) a := rfl
theorem sc_QV_QK (S : SS) (a : (Nat → Int32)) (b : (Nat → Int32)) : s_QV (s_QK S a) b = s_QK (s_QV S b) a := rfl
theorem sc_A0_QK (S : SS) (a : (Nat → Int32)) (b : Int64) : s_A0 (s_QK S a) b = s_QK (s_A0 S b) a := rfl
theorem sc_A1_QK (S : SS) (a : (Nat → Int32)) (b : Int64) : s_A1 (s_QK S a) b = s_QK (s_A1 S b) a := rfl
theorem sc_A2_QK (S : SS) (a : (Nat → Int32)) (b : Int64) : s_A2 (s_QK S a) b = s_QK (s_A2 S b) a := rfl
theorem sc_A3_QK (S : SS) (a : (Nat → Int32)) (b : Int64) : s_A3 (s_QK S a) b = s_QK (s_A3 S b) a := rfl
theorem sc_B0_QK (S : SS) (a : (Nat → Int32)) (b : Int64) : s_B0 (s_QK S a) b = s_QK (s_B0 S b) a := rfl
theorem sc_B1_QK (S : SS) (a : (Nat → Int32)) (b : Int64) : s_B1 (s_QK S a) b = s_QK (s_B1 S b) a := rfl
theorem sc_B2_QK (S : SS) (a : (Nat → Int32)) (b : Int64) : s_B2 (s_QK S a) b = s_QK (s_B2 S b) a := rfl
theorem sc_B3_QK (S : SS) (a : (Nat → Int32)) (b : Int64) : s_B3 (s_QK S a) b = s_QK (s_B3 S b) a := rfl
theorem sc_C0_QK (S : SS) (a : (Nat → Int32)) (b : Int64) : s_C0 (s_QK S a) b = s_QK (s_C0 S b) a := rfl
theorem sc_C1_QK (S : SS) (a : (Nat → Int32)) (b : Int64) : s_C1 (s_QK S a) b = s_QK (s_C1 S b) a := rfl
theorem sc_C2_QK (S : SS) (a : (Nat → Int32)) (b : Int64) : s_C2 (s_QK S a) b = s_QK (s_C2 S b) a := rfl
theorem sc_C3_QK (S : SS) (a : (Nat → Int32)) (b : Int64) : s_C3 (s_QK S a) b = s_QK (s_C3 S b) a := rfl
theorem sc_A0_QV (S : SS) (a : (Nat → Int32)) (b : Int64) : s_A0 (s_QV S a) b = s_QV (s_A0 S b) a := rfl
theorem sc_A1_QV (S : SS) (a : (Nat → Int32)) (b : Int64) : s_A1 (s_QV S a) b = s_QV (s_A1 S b) a := rfl
theorem sc_A2_QV (S : SS) (a : (Nat → Int32)) (b : Int64) : s_A2 (s_QV S a) b = s_QV (s_A2 S b) a := rfl
theorem sc_A3_QV (S : SS) (a : (Nat → Int32)) (b : Int64) : s_A3 (s_QV S a) b = s_QV (s_A3 S b) a := rfl
theorem sc_B0_QV (S : SS) (a : (Nat → Int32)) (b : Int64) : s_B0 (s_QV S a) b = s_QV (s_B0 S b) a := rfl
theorem sc_B1_QV (S : SS) (a : (Nat → Int32)) (b : Int64) : s_B1 (s_QV S a) b = s_QV (s_B1 S b) a := rfl
theorem sc_B2_QV (S : SS) (a : (Nat → Int32)) (b : Int64) : s_B2 (s_QV S a) b = s_QV (s_B2 S b) a := rfl
theorem sc_B3_QV (S : SS) (a : (Nat → Int32)) (b : Int64) : s_B3 (s_QV S a) b = s_QV (s_B3 S b) a := rfl
theorem sc_C0_QV (S : SS) (a : (Nat → Int32)) (b : Int64) : s_C0 (s_QV S a) b = s_QV (s_C0 S b) a := rfl
theorem sc_C1_QV (S : SS) (a : (Nat → Int32)) (b : Int64) : s_C1 (s_QV S a) b = s_QV (s_C1 S b) a := rfl
theorem sc_C2_QV (S : SS) (a : (Nat → Int32)) (b : Int64) : s_C2 (s_QV S a) b = s_QV (s_C2 S b) a := rfl
theorem sc_C3_QV (S : SS) (a : (Nat → Int32)) (b : Int64) : s_C3 (s_QV S a) b = s_QV (s_C3 S b) a := rfl
theorem sc_A1_A0 (S : SS) (a : Int64) (b : Int64) : s_A1 (s_A0 S a) b = s_A0 (s_A1 S b) a := rfl
theorem sc_A2_A0 (S : SS) (a : Int64) (b : Int64) : s_A2 (s_A0 S a) b = s_A0 (s_A2 S b) a := rfl
theorem sc_A3_A0 (S : SS) (a : Int64) (b : Int64) : s_A3 (s_A0 S a) b = s_A0 (s_A3 S b) a := rfl
theorem sc_B0_A0 (S : SS) (a : Int64) (b : Int64) : s_B0 (s_A0 S a) b = s_A0 (s_B0 S b) a := rfl
theorem sc_B1_A0 (S : SS) (a : Int64) (b : Int64) : s_B1 (s_A0 S a) b = s_A0 (s_B1 S b) a := rfl
theorem sc_B2_A0 (S : SS) (a : Int64) (b : Int64) : s_B2 (s_A0 S a) b = s_A0 (s_B2 S b) a := rfl
theorem sc_B3_A0 (S : SS) (a : Int64) (b : Int64) : s_B3 (s_A0 S a) b = s_A0 (s_B3 S b) a := rfl
theorem sc_C0_A0 (S : SS) (a : Int64) (b : Int64) : s_C0 (s_A0 S a) b = s_A0 (s_C0 S b) a := rfl
theorem sc_C1_A0 (S : SS) (a : Int64) (b : Int64) : s_C1 (s_A0 S a) b = s_A0 (s_C1 S b) a := rfl
theorem sc_C2_A0 (S : SS) (a : Int64) (b : Int64) : s_C2 (s_A0 S a) b = s_A0 (s_C2 S b) a := rfl
theorem sc_C3_A0 (S : SS) (a : Int64) (b : Int64) : s_C3 (s_A0 S a) b = s_A0 (s_C3 S b) a := rfl
theorem sc_A2_A1 (S : SS) (a : Int64) (b : Int64) : s_A2 (s_A1 S a) b = s_A1 (s_A2 S b) a := rfl
theorem sc_A3_A1 (S : SS) (a : Int64) (b : Int64) : s_A3 (s_A1 S a) b = s_A1 (s_A3 S b) a := rfl
theorem sc_B0_A1 (S : SS) (a : Int64) (b : Int64) : s_B0 (s_A1 S a) b = s_A1 (s_B0 S b) a := rfl
theorem sc_B1_A1 (S : SS) (a : Int64) (b : Int64) : s_B1 (s_A1 S a) b = s_A1 (s_B1 S b) a := rfl
theorem sc_B2_A1 (S : SS) (a : Int64) (b : Int64) : s_B2 (s_A1 S a) b = s_A1 (s_B2 S b) a := rfl
theorem sc_B3_A1 (S : SS) (a : Int64) (b : Int64) : s_B3 (s_A1 S a) b = s_A1 (s_B3 S b) a := rfl
theorem sc_C0_A1 (S : SS) (a : Int64) (b : Int64) : s_C0 (s_A1 S a) b = s_A1 (s_C0 S b) a := rfl
theorem sc_C1_A1 (S : SS) (a : Int64) (b : Int64) : s_C1 (s_A1 S a) b = s_A1 (s_C1 S b) a := rfl
theorem sc_C2_A1 (S : SS) (a : Int64) (b : Int64) : s_C2 (s_A1 S a) b = s_A1 (s_C2 S b) a := rfl
theorem sc_C3_A1 (S : SS) (a : Int64) (b : Int64) : s_C3 (s_A1 S a) b = s_A1 (s_C3 S b) a := rfl
theorem sc_A3_A2 (S : SS) (a : Int64) (b : Int64) : s_A3 (s_A2 S a) b = s_A2 (s_A3 S b) a := rfl
theorem sc_B0_A2 (S : SS) (a : Int64) (b : Int64) : s_B0 (s_A2 S a) b = s_A2 (s_B0 S b) a := rfl
theorem sc_B1_A2 (S : SS) (a : Int64) (b : Int64) : s_B1 (s_A2 S a) b = s_A2 (s_B1 S b) a := rfl
theorem sc_B2_A2 (S : SS) (a : Int64) (b : Int64) : s_B2 (s_A2 S a) b = s_A2 (s_B2 S b) a := rfl
theorem sc_B3_A2 (S : SS) (a : Int64) (b : Int64) : s_B3 (s_A2 S a) b = s_A2 (s_B3 S b) a := rfl
theorem sc_C0_A2 (S : SS) (a : Int64) (b : Int64) : s_C0 (s_A2 S a) b = s_A2 (s_C0 S b) a := rfl
theorem sc_C1_A2 (S : SS) (a : Int64) (b : Int64) : s_C1 (s_A2 S a) b = s_A2 (s_C1 S b) a := rfl
theorem sc_C2_A2 (S : SS) (a : Int64) (b : Int64) : s_C2 (s_A2 S a) b = s_A2 (s_C2 S b) a := rfl
theorem sc_C3_A2 (S : SS) (a : Int64) (b : Int64) : s_C3 (s_A2 S a) b = s_A2 (s_C3 S b) a := rfl
theorem sc_B0_A3 (S : SS) (a : Int64) (b : Int64) : s_B0 (s_A3 S a) b = s_A3 (s_B0 S b) a := rfl
theorem sc_B1_A3 (S : SS) (a : Int64) (b : Int64) : s_B1 (s_A3 S a) b = s_A3 (s_B1 S b) a := rfl
theorem sc_B2_A3 (S : SS) (a : Int64) (b : Int64) : s_B2 (s_A3 S a) b = s_A3 (s_B2 S b) a := rfl
theorem sc_B3_A3 (S : SS) (a : Int64) (b : Int64) : s_B3 (s_A3 S a) b = s_A3 (s_B3 S b) a := rfl
theorem sc_C0_A3 (S : SS) (a : Int64) (b : Int64) : s_C0 (s_A3 S a) b = s_A3 (s_C0 S b) a := rfl
theorem sc_C1_A3 (S : SS) (a : Int64) (b : Int64) : s_C1 (s_A3 S a) b = s_A3 (s_C1 S b) a := rfl
theorem sc_C2_A3 (S : SS) (a : Int64) (b : Int64) : s_C2 (s_A3 S a) b = s_A3 (s_C2 S b) a := rfl
theorem sc_C3_A3 (S : SS) (a : Int64) (b : Int64) : s_C3 (s_A3 S a) b = s_A3 (s_C3 S b) a := rfl
theorem sc_B1_B0 (S : SS) (a : Int64) (b : Int64) : s_B1 (s_B0 S a) b = s_B0 (s_B1 S b) a := rfl
theorem sc_B2_B0 (S : SS) (a : Int64) (b : Int64) : s_B2 (s_B0 S a) b = s_B0 (s_B2 S b) a := rfl
theorem sc_B3_B0 (S : SS) (a : Int64) (b : Int64) : s_B3 (s_B0 S a) b = s_B0 (s_B3 S b) a := rfl
theorem sc_C0_B0 (S : SS) (a : Int64) (b : Int64) : s_C0 (s_B0 S a) b = s_B0 (s_C0 S b) a := rfl
theorem sc_C1_B0 (S : SS) (a : Int64) (b : Int64) : s_C1 (s_B0 S a) b = s_B0 (s_C1 S b) a := rfl
theorem sc_C2_B0 (S : SS) (a : Int64) (b : Int64) : s_C2 (s_B0 S a) b = s_B0 (s_C2 S b) a := rfl
theorem sc_C3_B0 (S : SS) (a : Int64) (b : Int64) : s_C3 (s_B0 S a) b = s_B0 (s_C3 S b) a := rfl
theorem sc_B2_B1 (S : SS) (a : Int64) (b : Int64) : s_B2 (s_B1 S a) b = s_B1 (s_B2 S b) a := rfl
theorem sc_B3_B1 (S : SS) (a : Int64) (b : Int64) : s_B3 (s_B1 S a) b = s_B1 (s_B3 S b) a := rfl
theorem sc_C0_B1 (S : SS) (a : Int64) (b : Int64) : s_C0 (s_B1 S a) b = s_B1 (s_C0 S b) a := rfl
theorem sc_C1_B1 (S : SS) (a : Int64) (b : Int64) : s_C1 (s_B1 S a) b = s_B1 (s_C1 S b) a := rfl
theorem sc_C2_B1 (S : SS) (a : Int64) (b : Int64) : s_C2 (s_B1 S a) b = s_B1 (s_C2 S b) a := rfl
theorem sc_C3_B1 (S : SS) (a : Int64) (b : Int64) : s_C3 (s_B1 S a) b = s_B1 (s_C3 S b) a := rfl
theorem sc_B3_B2 (S : SS) (a : Int64) (b : Int64) : s_B3 (s_B2 S a) b = s_B2 (s_B3 S b) a := rfl
theorem sc_C0_B2 (S : SS) (a : Int64) (b : Int64) : s_C0 (s_B2 S a) b = s_B2 (s_C0 S b) a := rfl
theorem sc_C1_B2 (S : SS) (a : Int64) (b : Int64) : s_C1 (s_B2 S a) b = s_B2 (s_C1 S b) a := rfl
theorem sc_C2_B2 (S : SS) (a : Int64) (b : Int64) : s_C2 (s_B2 S a) b = s_B2 (s_C2 S b) a := rfl
theorem sc_C3_B2 (S : SS) (a : Int64) (b : Int64) : s_C3 (s_B2 S a) b = s_B2 (s_C3 S b) a := rfl
theorem sc_C0_B3 (S : SS) (a : Int64) (b : Int64) : s_C0 (s_B3 S a) b = s_B3 (s_C0 S b) a := rfl
theorem sc_C1_B3 (S : SS) (a : Int64) (b : Int64) : s_C1 (s_B3 S a) b = s_B3 (s_C1 S b) a := rfl
theorem sc_C2_B3 (S : SS) (a : Int64) (b : Int64) : s_C2 (s_B3 S a) b = s_B3 (s_C2 S b) a := rfl
theorem sc_C3_B3 (S : SS) (a : Int64) (b : Int64) : s_C3 (s_B3 S a) b = s_B3 (s_C3 S b) a := rfl
theorem sc_C1_C0 (S : SS) (a : Int64) (b : Int64) : s_C1 (s_C0 S a) b = s_C0 (s_C1 S b) a := rfl
theorem sc_C2_C0 (S : SS) (a : Int64) (b : Int64) : s_C2 (s_C0 S a) b = s_C0 (s_C2 S b) a := rfl
theorem sc_C3_C0 (S : SS) (a : Int64) (b : Int64) : s_C3 (s_C0 S a) b = s_C0 (s_C3 S b) a := rfl
theorem sc_C2_C1 (S : SS) (a : Int64) (b : Int64) : s_C2 (s_C1 S a) b = s_C1 (s_C2 S b) a := rfl
theorem sc_C3_C1 (S : SS) (a : Int64) (b : Int64) : s_C3 (s_C1 S a) b = s_C1 (s_C3 S b) a := rfl
theorem sc_C3_C2 (S : SS) (a : Int64) (b : Int64) : s_C3 (s_C2 S a) b = s_C2 (s_C3 S b) a := rfl
theorem sc_AC_RF (S : SS) (a : Int32) (b : Int32) : s_AC (s_RF S a) b = s_RF (s_AC S b) a := rfl
theorem sc_NX_RF (S : SS) (a : Int32) (b : Int32) : s_NX (s_RF S a) b = s_RF (s_NX S b) a := rfl
theorem sc_SS_RF (S : SS) (a : Int32) (b : Int32) : s_SS (s_RF S a) b = s_RF (s_SS S b) a := rfl
theorem sc_SP_RF (S : SS) (a : Int32) (b : Int32) : s_SP (s_RF S a) b = s_RF (s_SP S b) a := rfl
theorem sc_ME_RF (S : SS) (a : Int32) (b : Int32) : s_ME (s_RF S a) b = s_RF (s_ME S b) a := rfl
theorem sc_UP_RF (S : SS) (a : Int32) (b : Int64) : s_UP (s_RF S a) b = s_RF (s_UP S b) a := rfl
theorem sc_LO_RF (S : SS) (a : Int32) (b : Int64) : s_LO (s_RF S a) b = s_RF (s_LO S b) a := rfl
theorem sc_NW_RF (S : SS) (a : Int32) (b : (Nat → Int32)) : s_NW (s_RF S a) b = s_RF (s_NW S b) a := rfl
theorem sc_TR_RF (S : SS) (a : Int32) (b : (Nat → Int32)) : s_TR (s_RF S a) b = s_RF (s_TR S b) a := rfl
theorem sc_AF_RF (S : SS) (a : Int32) (b : (Nat → Int32)) : s_AF (s_RF S a) b = s_RF (s_AF S b) a := rfl
theorem sc_DI_RF (S : SS) (a : Int32) (b : (Nat → Int32)) : s_DI (s_RF S a) b = s_RF (s_DI S b) a := rfl
theorem sc_KE_RF (S : SS) (a : Int32) (b : (Nat → Int32)) : s_KE (s_RF S a) b = s_RF (s_KE S b) a := rfl
theorem sc_IK_RF (S : SS) (a : Int32) (b : (Nat → Int32)) : s_IK (s_RF S a) b = s_RF (s_IK S b) a := rfl
theorem sc_SC_RF (S : SS) (a : Int32) (b : (Nat → Int32)) : s_SC (s_RF S a) b = s_RF (s_SC S b) a := rfl
theorem sc_RD_RF (S : SS) (a : Int32) (b : (Nat → Int32)) : s_RD (s_RF S a) b = s_RF (s_RD S b) a := rfl
theorem sc_MW_RF (S : SS) (a : Int32) (b : (Nat → Int32)) : s_MW (s_RF S a) b = s_RF (s_MW S b) a := rfl
theorem sc_MS_RF (S : SS) (a : Int32) (b : (Nat → Int32)) : s_MS (s_RF S a) b = s_RF (s_MS S b) a := rfl
theorem sc_MX_RF (S : SS) (a : Int32) (b : (Nat → Int64)) : s_MX (s_RF S a) b = s_RF (s_MX S b) a := rfl
theorem sc_RT_RF (S : SS) (a : Int32) (b : (Nat → Int64)) : s_RT (s_RF S a) b = s_RF (s_RT S b) a := rfl
theorem sc_MO_RF (S : SS) (a : Int32) (b : (Nat → Int64)) : s_MO (s_RF S a) b = s_RF (s_MO S b) a := rfl
theorem sc_OU_RF (S : SS) (a : Int32) (b : (Nat → Int64)) : s_OU (s_RF S a) b = s_RF (s_OU S b) a := rfl
theorem sc_NX_AC (S : SS) (a : Int32) (b : Int32) : s_NX (s_AC S a) b = s_AC (s_NX S b) a := rfl
theorem sc_SS_AC (S : SS) (a : Int32) (b : Int32) : s_SS (s_AC S a) b = s_AC (s_SS S b) a := rfl
theorem sc_SP_AC (S : SS) (a : Int32) (b : Int32) : s_SP (s_AC S a) b = s_AC (s_SP S b) a := rfl
theorem sc_ME_AC (S : SS) (a : Int32) (b : Int32) : s_ME (s_AC S a) b = s_AC (s_ME S b) a := rfl
theorem sc_UP_AC (S : SS) (a : Int32) (b : Int64) : s_UP (s_AC S a) b = s_AC (s_UP S b) a := rfl
theorem sc_LO_AC (S : SS) (a : Int32) (b : Int64) : s_LO (s_AC S a) b = s_AC (s_LO S b) a := rfl
theorem sc_NW_AC (S : SS) (a : Int32) (b : (Nat → Int32)) : s_NW (s_AC S a) b = s_AC (s_NW S b) a := rfl
theorem sc_TR_AC (S : SS) (a : Int32) (b : (Nat → Int32)) : s_TR (s_AC S a) b = s_AC (s_TR S b) a := rfl
theorem sc_AF_AC (S : SS) (a : Int32) (b : (Nat → Int32)) : s_AF (s_AC S a) b = s_AC (s_AF S b) a := rfl
theorem sc_DI_AC (S : SS) (a : Int32) (b : (Nat → Int32)) : s_DI (s_AC S a) b = s_AC (s_DI S b) a := rfl
theorem sc_KE_AC (S : SS) (a : Int32) (b : (Nat → Int32)) : s_KE (s_AC S a) b = s_AC (s_KE S b) a := rfl
theorem sc_IK_AC (S : SS) (a : Int32) (b : (Nat → Int32)) : s_IK (s_AC S a) b = s_AC (s_IK S b) a := rfl
theorem sc_SC_AC (S : SS) (a : Int32) (b : (Nat → Int32)) : s_SC (s_AC S a) b = s_AC (s_SC S b) a := rfl
theorem sc_RD_AC (S : SS) (a : Int32) (b : (Nat → Int32)) : s_RD (s_AC S a) b = s_AC (s_RD S b) a := rfl
theorem sc_MW_AC (S : SS) (a : Int32) (b : (Nat → Int32)) : s_MW (s_AC S a) b = s_AC (s_MW S b) a := rfl
theorem sc_MS_AC (S : SS) (a : Int32) (b : (Nat → Int32)) : s_MS (s_AC S a) b = s_AC (s_MS S b) a := rfl
theorem sc_MX_AC (S : SS) (a : Int32) (b : (Nat → Int64)) : s_MX (s_AC S a) b = s_AC (s_MX S b) a := rfl
theorem sc_RT_AC (S : SS) (a : Int32) (b : (Nat → Int64)) : s_RT (s_AC S a) b = s_AC (s_RT S b) a := rfl
theorem sc_MO_AC (S : SS) (a : Int32) (b : (Nat → Int64)) : s_MO (s_AC S a) b = s_AC (s_MO S b) a := rfl
theorem sc_OU_AC (S : SS) (a : Int32) (b : (Nat → Int64)) : s_OU (s_AC S a) b = s_AC (s_OU S b) a := rfl
theorem sc_SS_NX (S : SS) (a : Int32) (b : Int32) : s_SS (s_NX S a) b = s_NX (s_SS S b) a := rfl
theorem sc_SP_NX (S : SS) (a : Int32) (b : Int32) : s_SP (s_NX S a) b = s_NX (s_SP S b) a := rfl
theorem sc_ME_NX (S : SS) (a : Int32) (b : Int32) : s_ME (s_NX S a) b = s_NX (s_ME S b) a := rfl
theorem sc_UP_NX (S : SS) (a : Int32) (b : Int64) : s_UP (s_NX S a) b = s_NX (s_UP S b) a := rfl
theorem sc_LO_NX (S : SS) (a : Int32) (b : Int64) : s_LO (s_NX S a) b = s_NX (s_LO S b) a := rfl
theorem sc_NW_NX (S : SS) (a : Int32) (b : (Nat → Int32)) : s_NW (s_NX S a) b = s_NX (s_NW S b) a := rfl
theorem sc_TR_NX (S : SS) (a : Int32) (b : (Nat → Int32)) : s_TR (s_NX S a) b = s_NX (s_TR S b) a := rfl
theorem sc_AF_NX (S : SS) (a : Int32) (b : (Nat → Int32)) : s_AF (s_NX S a) b = s_NX (s_AF S b) a := rfl
theorem sc_DI_NX (S : SS) (a : Int32) (b : (Nat → Int32)) : s_DI (s_NX S a) b = s_NX (s_DI S b) a := rfl
theorem sc_KE_NX (S : SS) (a : Int32) (b : (Nat → Int32)) : s_KE (s_NX S a) b = s_NX (s_KE S b) a := rfl
theorem sc_IK_NX (S : SS) (a : Int32) (b : (Nat → Int32)) : s_IK (s_NX S a) b = s_NX (s_IK S b) a := rfl
theorem sc_SC_NX (S : SS) (a : Int32) (b : (Nat → Int32)) : s_SC (s_NX S a) b = s_NX (s_SC S b) a := rfl
theorem sc_RD_NX (S : SS) (a : Int32) (b : (Nat → Int32)) : s_RD (s_NX S a) b = s_NX (s_RD S b) a := rfl
theorem sc_MW_NX (S : SS) (a : Int32) (b : (Nat → Int32)) : s_MW (s_NX S a) b = s_NX (s_MW S b) a := rfl
theorem sc_MS_NX (S : SS) (a : Int32) (b : (Nat → Int32)) : s_MS (s_NX S a) b = s_NX (s_MS S b) a := rfl
theorem sc_MX_NX (S : SS) (a : Int32) (b : (Nat → Int64)) : s_MX (s_NX S a) b = s_NX (s_MX S b) a := rfl
theorem sc_RT_NX (S : SS) (a : Int32) (b : (Nat → Int64)) : s_RT (s_NX S a) b = s_NX (s_RT S b) a := rfl
theorem sc_MO_NX (S : SS) (a : Int32) (b : (Nat → Int64)) : s_MO (s_NX S a) b = s_NX (s_MO S b) a := rfl
theorem sc_OU_NX (S : SS) (a : Int32) (b : (Nat → Int64)) : s_OU (s_NX S a) b = s_NX (s_OU S b) a := rfl
theorem sc_SP_SS (S : SS) (a : Int32) (b : Int32) : s_SP (s_SS S a) b = s_SS (s_SP S b) a := rfl
theorem sc_ME_SS (S : SS) (a : Int32) (b : Int32) : s_ME (s_SS S a) b = s_SS (s_ME S b) a := rfl
theorem sc_UP_SS (S : SS) (a : Int32) (b : Int64) : s_UP (s_SS S a) b = s_SS (s_UP S b) a := rfl
theorem sc_LO_SS (S : SS) (a : Int32) (b : Int64) : s_LO (s_SS S a) b = s_SS (s_LO S b) a := rfl
theorem sc_NW_SS (S : SS) (a : Int32) (b : (Nat → Int32)) : s_NW (s_SS S a) b = s_SS (s_NW S b) a := rfl
theorem sc_TR_SS (S : SS) (a : Int32) (b : (Nat → Int32)) : s_TR (s_SS S a) b = s_SS (s_TR S b) a := rfl
theorem sc_AF_SS (S : SS) (a : Int32) (b : (Nat → Int32)) : s_AF (s_SS S a) b = s_SS (s_AF S b) a := rfl
theorem sc_DI_SS (S : SS) (a : Int32) (b : (Nat → Int32)) : s_DI (s_SS S a) b = s_SS (s_DI S b) a := rfl
theorem sc_KE_SS (S : SS) (a : Int32) (b : (Nat → Int32)) : s_KE (s_SS S a) b = s_SS (s_KE S b) a := rfl
theorem sc_IK_SS (S : SS) (a : Int32) (b : (Nat → Int32)) : s_IK (s_SS S a) b = s_SS (s_IK S b) a := rfl
theorem sc_SC_SS (S : SS) (a : Int32) (b : (Nat → Int32)) : s_SC (s_SS S a) b = s_SS (s_SC S b) a := rfl
theorem sc_RD_SS (S : SS) (a : Int32) (b : (Nat → Int32)) : s_RD (s_SS S a) b = s_SS (s_RD S b) a := rfl
theorem sc_MW_SS (S : SS) (a : Int32) (b : (Nat → Int32)) : s_MW (s_SS S a) b = s_SS (s_MW S b) a := rfl
theorem sc_MS_SS (S : SS) (a : Int32) (b : (Nat → Int32)) : s_MS (s_SS S a) b = s_SS (s_MS S b) a := rfl
theorem sc_MX_SS (S : SS) (a : Int32) (b : (Nat → Int64)) : s_MX (s_SS S a) b = s_SS (s_MX S b) a := rfl
theorem sc_RT_SS (S : SS) (a : Int32) (b : (Nat → Int64)) : s_RT (s_SS S a) b = s_SS (s_RT S b) a := rfl
theorem sc_MO_SS (S : SS) (a : Int32) (b : (Nat → Int64)) : s_MO (s_SS S a) b = s_SS (s_MO S b) a := rfl
theorem sc_OU_SS (S : SS) (a : Int32) (b : (Nat → Int64)) : s_OU (s_SS S a) b = s_SS (s_OU S b) a := rfl
theorem sc_ME_SP (S : SS) (a : Int32) (b : Int32) : s_ME (s_SP S a) b = s_SP (s_ME S b) a := rfl
theorem sc_UP_SP (S : SS) (a : Int32) (b : Int64) : s_UP (s_SP S a) b = s_SP (s_UP S b) a := rfl
theorem sc_LO_SP (S : SS) (a : Int32) (b : Int64) : s_LO (s_SP S a) b = s_SP (s_LO S b) a := rfl
theorem sc_NW_SP (S : SS) (a : Int32) (b : (Nat → Int32)) : s_NW (s_SP S a) b = s_SP (s_NW S b) a := rfl
theorem sc_TR_SP (S : SS) (a : Int32) (b : (Nat → Int32)) : s_TR (s_SP S a) b = s_SP (s_TR S b) a := rfl
theorem sc_AF_SP (S : SS) (a : Int32) (b : (Nat → Int32)) : s_AF (s_SP S a) b = s_SP (s_AF S b) a := rfl
theorem sc_DI_SP (S : SS) (a : Int32) (b : (Nat → Int32)) : s_DI (s_SP S a) b = s_SP (s_DI S b) a := rfl
theorem sc_KE_SP (S : SS) (a : Int32) (b : (Nat → Int32)) : s_KE (s_SP S a) b = s_SP (s_KE S b) a := rfl
theorem sc_IK_SP (S : SS) (a : Int32) (b : (Nat → Int32)) : s_IK (s_SP S a) b = s_SP (s_IK S b) a := rfl
theorem sc_SC_SP (S : SS) (a : Int32) (b : (Nat → Int32)) : s_SC (s_SP S a) b = s_SP (s_SC S b) a := rfl
theorem sc_RD_SP (S : SS) (a : Int32) (b : (Nat → Int32)) : s_RD (s_SP S a) b = s_SP (s_RD S b) a := rfl
theorem sc_MW_SP (S : SS) (a : Int32) (b : (Nat → Int32)) : s_MW (s_SP S a) b = s_SP (s_MW S b) a := rfl
theorem sc_MS_SP (S : SS) (a : Int32) (b : (Nat → Int32)) : s_MS (s_SP S a) b = s_SP (s_MS S b) a := rfl
theorem sc_MX_SP (S : SS) (a : Int32) (b : (Nat → Int64)) : s_MX (s_SP S a) b = s_SP (s_MX S b) a := rfl
theorem sc_RT_SP (S : SS) (a : Int32) (b : (Nat → Int64)) : s_RT (s_SP S a) b = s_SP (s_RT S b) a := rfl
theorem sc_MO_SP (S : SS) (a : Int32) (b : (Nat → Int64)) : s_MO (s_SP S a) b = s_SP (s_MO S b) a := rfl
theorem sc_OU_SP (S : SS) (a : Int32) (b : (Nat → Int64)) : s_OU (s_SP S a) b = s_SP (s_OU S b) a := rfl
theorem sc_UP_ME (S : SS) (a : Int32) (b : Int64) : s_UP (s_ME S a) b = s_ME (s_UP S b) a := rfl
theorem sc_LO_ME (S : SS) (a : Int32) (b : Int64) : s_LO (s_ME S a) b = s_ME (s_LO S b) a := rfl
theorem sc_NW_ME (S : SS) (a : Int32) (b : (Nat → Int32)) : s_NW (s_ME S a) b = s_ME (s_NW S b) a := rfl
theorem sc_TR_ME (S : SS) (a : Int32) (b : (Nat → Int32)) : s_TR (s_ME S a) b = s_ME (s_TR S b) a := rfl
theorem sc_AF_ME (S : SS) (a : Int32) (b : (Nat → Int32)) : s_AF (s_ME S a) b = s_ME (s_AF S b) a := rfl
theorem sc_DI_ME (S : SS) (a : Int32) (b : (Nat → Int32)) : s_DI (s_ME S a) b = s_ME (s_DI S b) a := rfl
theorem sc_KE_ME (S : SS) (a : Int32) (b : (Nat → Int32)) : s_KE (s_ME S a) b = s_ME (s_KE S b) a := rfl
theorem sc_IK_ME (S : SS) (a : Int32) (b : (Nat → Int32)) : s_IK (s_ME S a) b = s_ME (s_IK S b) a := rfl
theorem sc_SC_ME (S : SS) (a : Int32) (b : (Nat → Int32)) : s_SC (s_ME S a) b = s_ME (s_SC S b) a := rfl
theorem sc_RD_ME (S : SS) (a : Int32) (b : (Nat → Int32)) : s_RD (s_ME S a) b = s_ME (s_RD S b) a := rfl
theorem sc_MW_ME (S : SS) (a : Int32) (b : (Nat → Int32)) : s_MW (s_ME S a) b = s_ME (s_MW S b) a := rfl
theorem sc_MS_ME (S : SS) (a : Int32) (b : (Nat → Int32)) : s_MS (s_ME S a) b = s_ME (s_MS S b) a := rfl
theorem sc_MX_ME (S : SS) (a : Int32) (b : (Nat → Int64)) : s_MX (s_ME S a) b = s_ME (s_MX S b) a := rfl
theorem sc_RT_ME (S : SS) (a : Int32) (b : (Nat → Int64)) : s_RT (s_ME S a) b = s_ME (s_RT S b) a := rfl
theorem sc_MO_ME (S : SS) (a : Int32) (b : (Nat → Int64)) : s_MO (s_ME S a) b = s_ME (s_MO S b) a := rfl
theorem sc_OU_ME (S : SS) (a : Int32) (b : (Nat → Int64)) : s_OU (s_ME S a) b = s_ME (s_OU S b) a := rfl
theorem sc_LO_UP (S : SS) (a : Int64) (b : Int64) : s_LO (s_UP S a) b = s_UP (s_LO S b) a := rfl
theorem sc_NW_UP (S : SS) (a : Int64) (b : (Nat → Int32)) : s_NW (s_UP S a) b = s_UP (s_NW S b) a := rfl
theorem sc_TR_UP (S : SS) (a : Int64) (b : (Nat → Int32)) : s_TR (s_UP S a) b = s_UP (s_TR S b) a := rfl
theorem sc_AF_UP (S : SS) (a : Int64) (b : (Nat → Int32)) : s_AF (s_UP S a) b = s_UP (s_AF S b) a := rfl
theorem sc_DI_UP (S : SS) (a : Int64) (b : (Nat → Int32)) : s_DI (s_UP S a) b = s_UP (s_DI S b) a := rfl
theorem sc_KE_UP (S : SS) (a : Int64) (b : (Nat → Int32)) : s_KE (s_UP S a) b = s_UP (s_KE S b) a := rfl
theorem sc_IK_UP (S : SS) (a : Int64) (b : (Nat → Int32)) : s_IK (s_UP S a) b = s_UP (s_IK S b) a := rfl
theorem sc_SC_UP (S : SS) (a : Int64) (b : (Nat → Int32)) : s_SC (s_UP S a) b = s_UP (s_SC S b) a := rfl
theorem sc_RD_UP (S : SS) (a : Int64) (b : (Nat → Int32)) : s_RD (s_UP S a) b = s_UP (s_RD S b) a := rfl
theorem sc_MW_UP (S : SS) (a : Int64) (b : (Nat → Int32)) : s_MW (s_UP S a) b = s_UP (s_MW S b) a := rfl
theorem sc_MS_UP (S : SS) (a : Int64) (b : (Nat → Int32)) : s_MS (s_UP S a) b = s_UP (s_MS S b) a := rfl
theorem sc_MX_UP (S : SS) (a : Int64) (b : (Nat → Int64)) : s_MX (s_UP S a) b = s_UP (s_MX S b) a := rfl
theorem sc_RT_UP (S : SS) (a : Int64) (b : (Nat → Int64)) : s_RT (s_UP S a) b = s_UP (s_RT S b) a := rfl
theorem sc_MO_UP (S : SS) (a : Int64) (b : (Nat → Int64)) : s_MO (s_UP S a) b = s_UP (s_MO S b) a := rfl
theorem sc_OU_UP (S : SS) (a : Int64) (b : (Nat → Int64)) : s_OU (s_UP S a) b = s_UP (s_OU S b) a := rfl
theorem sc_NW_LO (S : SS) (a : Int64) (b : (Nat → Int32)) : s_NW (s_LO S a) b = s_LO (s_NW S b) a := rfl
theorem sc_TR_LO (S : SS) (a : Int64) (b : (Nat → Int32)) : s_TR (s_LO S a) b = s_LO (s_TR S b) a := rfl
theorem sc_AF_LO (S : SS) (a : Int64) (b : (Nat → Int32)) : s_AF (s_LO S a) b = s_LO (s_AF S b) a := rfl
theorem sc_DI_LO (S : SS) (a : Int64) (b : (Nat → Int32)) : s_DI (s_LO S a) b = s_LO (s_DI S b) a := rfl
theorem sc_KE_LO (S : SS) (a : Int64) (b : (Nat → Int32)) : s_KE (s_LO S a) b = s_LO (s_KE S b) a := rfl
theorem sc_IK_LO (S : SS) (a : Int64) (b : (Nat → Int32)) : s_IK (s_LO S a) b = s_LO (s_IK S b) a := rfl
theorem sc_SC_LO (S : SS) (a : Int64) (b : (Nat → Int32)) : s_SC (s_LO S a) b = s_LO (s_SC S b) a := rfl
theorem sc_RD_LO (S : SS) (a : Int64) (b : (Nat → Int32)) : s_RD (s_LO S a) b = s_LO (s_RD S b) a := rfl
theorem sc_MW_LO (S : SS) (a : Int64) (b : (Nat → Int32)) : s_MW (s_LO S a) b = s_LO (s_MW S b) a := rfl
theorem sc_MS_LO (S : SS) (a : Int64) (b : (Nat → Int32)) : s_MS (s_LO S a) b = s_LO (s_MS S b) a := rfl
theorem sc_MX_LO (S : SS) (a : Int64) (b : (Nat → Int64)) : s_MX (s_LO S a) b = s_LO (s_MX S b) a := rfl
theorem sc_RT_LO (S : SS) (a : Int64) (b : (Nat → Int64)) : s_RT (s_LO S a) b = s_LO (s_RT S b) a := rfl
theorem sc_MO_LO (S : SS) (a : Int64) (b : (Nat → Int64)) : s_MO (s_LO S a) b = s_LO (s_MO S b) a := rfl
theorem sc_OU_LO (S : SS) (a : Int64) (b : (Nat → Int64)) : s_OU (s_LO S a) b = s_LO (s_OU S b) a := rfl
theorem sc_TR_NW (S : SS) (a : (Nat → Int32)) (b : (Nat → Int32)) : s_TR (s_NW S a) b = s_NW (s_TR S b) a := rfl
theorem sc_AF_NW (S : SS) (a : (Nat → Int32)) (b : (Nat → Int32)) : s_AF (s_NW S a) b = s_NW (s_AF S b) a := rfl
theorem sc_DI_NW (S : SS) (a : (Nat → Int32)) (b : (Nat → Int32)) : s_DI (s_NW S a) b = s_NW (s_DI S b) a := rfl
theorem sc_KE_NW (S : SS) (a : (Nat → Int32)) (b : (Nat → Int32)) : s_KE (s_NW S a) b = s_NW (s_KE S b) a := rfl
theorem sc_IK_NW (S : SS) (a : (Nat → Int32)) (b : (Nat → Int32)) : s_IK (s_NW S a) b = s_NW (s_IK S b) a := rfl
theorem sc_SC_NW (S : SS) (a : (Nat → Int32)) (b : (Nat → Int32)) : s_SC (s_NW S a) b = s_NW (s_SC S b) a := rfl
theorem sc_RD_NW (S : SS) (a : (Nat → Int32)) (b : (Nat → Int32)) : s_RD (s_NW S a) b = s_NW (s_RD S b) a := rfl
theorem sc_MW_NW (S : SS) (a : (Nat → Int32)) (b : (Nat → Int32)) : s_MW (s_NW S a) b = s_NW (s_MW S b) a := rfl
theorem sc_MS_NW (S : SS) (a : (Nat → Int32)) (b : (Nat → Int32)) : s_MS (s_NW S a) b = s_NW (s_MS S b) a := rfl
theorem sc_MX_NW (S : SS) (a : (Nat → Int32)) (b : (Nat → Int64)) : s_MX (s_NW S a) b = s_NW (s_MX S b) a := rfl
theorem sc_RT_NW (S : SS) (a : (Nat → Int32)) (b : (Nat → Int64)) : s_RT (s_NW S a) b = s_NW (s_RT S b) a := rfl
theorem sc_MO_NW (S : SS) (a : (Nat → Int32)) (b : (Nat → Int64)) : s_MO (s_NW S a) b = s_NW (s_MO S b) a := rfl
theorem sc_OU_NW (S : SS) (a : (Nat → Int32)) (b : (Nat → Int64)) : s_OU (s_NW S a) b = s_NW (s_OU S b) a := rfl
theorem sc_AF_TR (S : SS) (a : (Nat → Int32)) (b : (Nat → Int32)) : s_AF (s_TR S a) b = s_TR (s_AF S b) a := rfl
theorem sc_DI_TR (S : SS) (a : (Nat → Int32)) (b : (Nat → Int32)) : s_DI (s_TR S a) b = s_TR (s_DI S b) a := rfl
theorem sc_KE_TR (S : SS) (a : (Nat → Int32)) (b : (Nat → Int32)) : s_KE (s_TR S a) b = s_TR (s_KE S b) a := rfl
theorem sc_IK_TR (S : SS) (a : (Nat → Int32)) (b : (Nat → Int32)) : s_IK (s_TR S a) b = s_TR (s_IK S b) a := rfl
theorem sc_SC_TR (S : SS) (a : (Nat → Int32)) (b : (Nat → Int32)) : s_SC (s_TR S a) b = s_TR (s_SC S b) a := rfl
theorem sc_RD_TR (S : SS) (a : (Nat → Int32)) (b : (Nat → Int32)) : s_RD (s_TR S a) b = s_TR (s_RD S b) a := rfl
theorem sc_MW_TR (S : SS) (a : (Nat → Int32)) (b : (Nat → Int32)) : s_MW (s_TR S a) b = s_TR (s_MW S b) a := rfl
theorem sc_MS_TR (S : SS) (a : (Nat → Int32)) (b : (Nat → Int32)) : s_MS (s_TR S a) b = s_TR (s_MS S b) a := rfl
theorem sc_MX_TR (S : SS) (a : (Nat → Int32)) (b : (Nat → Int64)) : s_MX (s_TR S a) b = s_TR (s_MX S b) a := rfl
theorem sc_RT_TR (S : SS) (a : (Nat → Int32)) (b : (Nat → Int64)) : s_RT (s_TR S a) b = s_TR (s_RT S b) a := rfl
theorem sc_MO_TR (S : SS) (a : (Nat → Int32)) (b : (Nat → Int64)) : s_MO (s_TR S a) b = s_TR (s_MO S b) a := rfl
theorem sc_OU_TR (S : SS) (a : (Nat → Int32)) (b : (Nat → Int64)) : s_OU (s_TR S a) b = s_TR (s_OU S b) a := rfl
theorem sc_DI_AF (S : SS) (a : (Nat → Int32)) (b : (Nat → Int32)) : s_DI (s_AF S a) b = s_AF (s_DI S b) a := rfl
theorem sc_KE_AF (S : SS) (a : (Nat → Int32)) (b : (Nat → Int32)) : s_KE (s_AF S a) b = s_AF (s_KE S b) a := rfl
theorem sc_IK_AF (S : SS) (a : (Nat → Int32)) (b : (Nat → Int32)) : s_IK (s_AF S a) b = s_AF (s_IK S b) a := rfl
theorem sc_SC_AF (S : SS) (a : (Nat → Int32)) (b : (Nat → Int32)) : s_SC (s_AF S a) b = s_AF (s_SC S b) a := rfl
theorem sc_RD_AF (S : SS) (a : (Nat → Int32)) (b : (Nat → Int32)) : s_RD (s_AF S a) b = s_AF (s_RD S b) a := rfl
theorem sc_MW_AF (S : SS) (a : (Nat → Int32)) (b : (Nat → Int32)) : s_MW (s_AF S a) b = s_AF (s_MW S b) a := rfl
theorem sc_MS_AF (S : SS) (a : (Nat → Int32)) (b : (Nat → Int32)) : s_MS (s_AF S a) b = s_AF (s_MS S b) a := rfl
theorem sc_MX_AF (S : SS) (a : (Nat → Int32)) (b : (Nat → Int64)) : s_MX (s_AF S a) b = s_AF (s_MX S b) a := rfl
theorem sc_RT_AF (S : SS) (a : (Nat → Int32)) (b : (Nat → Int64)) : s_RT (s_AF S a) b = s_AF (s_RT S b) a := rfl
theorem sc_MO_AF (S : SS) (a : (Nat → Int32)) (b : (Nat → Int64)) : s_MO (s_AF S a) b = s_AF (s_MO S b) a := rfl
theorem sc_OU_AF (S : SS) (a : (Nat → Int32)) (b : (Nat → Int64)) : s_OU (s_AF S a) b = s_AF (s_OU S b) a := rfl
theorem sc_KE_DI (S : SS) (a : (Nat → Int32)) (b : (Nat → Int32)) : s_KE (s_DI S a) b = s_DI (s_KE S b) a := rfl
theorem sc_IK_DI (S : SS) (a : (Nat → Int32)) (b : (Nat → Int32)) : s_IK (s_DI S a) b = s_DI (s_IK S b) a := rfl
theorem sc_SC_DI (S : SS) (a : (Nat → Int32)) (b : (Nat → Int32)) : s_SC (s_DI S a) b = s_DI (s_SC S b) a := rfl
theorem sc_RD_DI (S : SS) (a : (Nat → Int32)) (b : (Nat → Int32)) : s_RD (s_DI S a) b = s_DI (s_RD S b) a := rfl
theorem sc_MW_DI (S : SS) (a : (Nat → Int32)) (b : (Nat → Int32)) : s_MW (s_DI S a) b = s_DI (s_MW S b) a := rfl
theorem sc_MS_DI (S : SS) (a : (Nat → Int32)) (b : (Nat → Int32)) : s_MS (s_DI S a) b = s_DI (s_MS S b) a := rfl
theorem sc_MX_DI (S : SS) (a : (Nat → Int32)) (b : (Nat → Int64)) : s_MX (s_DI S a) b = s_DI (s_MX S b) a := rfl
theorem sc_RT_DI (S : SS) (a : (Nat → Int32)) (b : (Nat → Int64)) : s_RT (s_DI S a) b = s_DI (s_RT S b) a := rfl
theorem sc_MO_DI (S : SS) (a : (Nat → Int32)) (b : (Nat → Int64)) : s_MO (s_DI S a) b = s_DI (s_MO S b) a := rfl
theorem sc_OU_DI (S : SS) (a : (Nat → Int32)) (b : (Nat → Int64)) : s_OU (s_DI S a) b = s_DI (s_OU S b) a := rfl
theorem sc_IK_KE (S : SS) (a : (Nat → Int32)) (b : (Nat → Int32)) : s_IK (s_KE S a) b = s_KE (s_IK S b) a := rfl
theorem sc_SC_KE (S : SS) (a : (Nat → Int32)) (b : (Nat → Int32)) : s_SC (s_KE S a) b = s_KE (s_SC S b) a := rfl
theorem sc_RD_KE (S : SS) (a : (Nat → Int32)) (b : (Nat → Int32)) : s_RD (s_KE S a) b = s_KE (s_RD S b) a := rfl
theorem sc_MW_KE (S : SS) (a : (Nat → Int32)) (b : (Nat → Int32)) : s_MW (s_KE S a) b = s_KE (s_MW S b) a := rfl
theorem sc_MS_KE (S : SS) (a : (Nat → Int32)) (b : (Nat → Int32)) : s_MS (s_KE S a) b = s_KE (s_MS S b) a := rfl
theorem sc_MX_KE (S : SS) (a : (Nat → Int32)) (b : (Nat → Int64)) : s_MX (s_KE S a) b = s_KE (s_MX S b) a := rfl
theorem sc_RT_KE (S : SS) (a : (Nat → Int32)) (b : (Nat → Int64)) : s_RT (s_KE S a) b = s_KE (s_RT S b) a := rfl
theorem sc_MO_KE (S : SS) (a : (Nat → Int32)) (b : (Nat → Int64)) : s_MO (s_KE S a) b = s_KE (s_MO S b) a := rfl
theorem sc_OU_KE (S : SS) (a : (Nat → Int32)) (b : (Nat → Int64)) : s_OU (s_KE S a) b = s_KE (s_OU S b) a := rfl
theorem sc_SC_IK (S : SS) (a : (Nat → Int32)) (b : (Nat → Int32)) : s_SC (s_IK S a) b = s_IK (s_SC S b) a := rfl
theorem sc_RD_IK (S : SS) (a : (Nat → Int32)) (b : (Nat → Int32)) : s_RD (s_IK S a) b = s_IK (s_RD S b) a := rfl
theorem sc_MW_IK (S : SS) (a : (Nat → Int32)) (b : (Nat → Int32)) : s_MW (s_IK S a) b = s_IK (s_MW S b) a := rfl
theorem sc_MS_IK (S : SS) (a : (Nat → Int32)) (b : (Nat → Int32)) : s_MS (s_IK S a) b = s_IK (s_MS S b) a := rfl
theorem sc_MX_IK (S : SS) (a : (Nat → Int32)) (b : (Nat → Int64)) : s_MX (s_IK S a) b = s_IK (s_MX S b) a := rfl
theorem sc_RT_IK (S : SS) (a : (Nat → Int32)) (b : (Nat → Int64)) : s_RT (s_IK S a) b = s_IK (s_RT S b) a := rfl
theorem sc_MO_IK (S : SS) (a : (Nat → Int32)) (b : (Nat → Int64)) : s_MO (s_IK S a) b = s_IK (s_MO S b) a := rfl
theorem sc_OU_IK (S : SS) (a : (Nat → Int32)) (b : (Nat → Int64)) : s_OU (s_IK S a) b = s_IK (s_OU S b) a := rfl
theorem sc_RD_SC (S : SS) (a : (Nat → Int32)) (b : (Nat → Int32)) : s_RD (s_SC S a) b = s_SC (s_RD S b) a := rfl
theorem sc_MW_SC (S : SS) (a : (Nat → Int32)) (b : (Nat → Int32)) : s_MW (s_SC S a) b = s_SC (s_MW S b) a := rfl
theorem sc_MS_SC (S : SS) (a : (Nat → Int32)) (b : (Nat → Int32)) : s_MS (s_SC S a) b = s_SC (s_MS S b) a := rfl
theorem sc_MX_SC (S : SS) (a : (Nat → Int32)) (b : (Nat → Int64)) : s_MX (s_SC S a) b = s_SC (s_MX S b) a := rfl
theorem sc_RT_SC (S : SS) (a : (Nat → Int32)) (b : (Nat → Int64)) : s_RT (s_SC S a) b = s_SC (s_RT S b) a := rfl
theorem sc_MO_SC (S : SS) (a : (Nat → Int32)) (b : (Nat → Int64)) : s_MO (s_SC S a) b = s_SC (s_MO S b) a := rfl
theorem sc_OU_SC (S : SS) (a : (Nat → Int32)) (b : (Nat → Int64)) : s_OU (s_SC S a) b = s_SC (s_OU S b) a := rfl
theorem sc_MW_RD (S : SS) (a : (Nat → Int32)) (b : (Nat → Int32)) : s_MW (s_RD S a) b = s_RD (s_MW S b) a := rfl
theorem sc_MS_RD (S : SS) (a : (Nat → Int32)) (b : (Nat → Int32)) : s_MS (s_RD S a) b = s_RD (s_MS S b) a := rfl
theorem sc_MX_RD (S : SS) (a : (Nat → Int32)) (b : (Nat → Int64)) : s_MX (s_RD S a) b = s_RD (s_MX S b) a := rfl
theorem sc_RT_RD (S : SS) (a : (Nat → Int32)) (b : (Nat → Int64)) : s_RT (s_RD S a) b = s_RD (s_RT S b) a := rfl
theorem sc_MO_RD (S : SS) (a : (Nat → Int32)) (b : (Nat → Int64)) : s_MO (s_RD S a) b = s_RD (s_MO S b) a := rfl
theorem sc_OU_RD (S : SS) (a : (Nat → Int32)) (b : (Nat → Int64)) : s_OU (s_RD S a) b = s_RD (s_OU S b) a := rfl
theorem sc_MS_MW (S : SS) (a : (Nat → Int32)) (b : (Nat → Int32)) : s_MS (s_MW S a) b = s_MW (s_MS S b) a := rfl
theorem sc_MX_MW (S : SS) (a : (Nat → Int32)) (b : (Nat → Int64)) : s_MX (s_MW S a) b = s_MW (s_MX S b) a := rfl
theorem sc_RT_MW (S : SS) (a : (Nat → Int32)) (b : (Nat → Int64)) : s_RT (s_MW S a) b = s_MW (s_RT S b) a := rfl
theorem sc_MO_MW (S : SS) (a : (Nat → Int32)) (b : (Nat → Int64)) : s_MO (s_MW S a) b = s_MW (s_MO S b) a := rfl
theorem sc_OU_MW (S : SS) (a : (Nat → Int32)) (b : (Nat → Int64)) : s_OU (s_MW S a) b = s_MW (s_OU S b) a := rfl
theorem sc_MX_MS (S : SS) (a : (Nat → Int32)) (b : (Nat → Int64)) : s_MX (s_MS S a) b = s_MS (s_MX S b) a := rfl
theorem sc_RT_MS (S : SS) (a : (Nat → Int32)) (b : (Nat → Int64)) : s_RT (s_MS S a) b = s_MS (s_RT S b) a := rfl
theorem sc_MO_MS (S : SS) (a : (Nat → Int32)) (b : (Nat → Int64)) : s_MO (s_MS S a) b = s_MS (s_MO S b) a := rfl
theorem sc_OU_MS (S : SS) (a : (Nat → Int32)) (b : (Nat → Int64)) : s_OU (s_MS S a) b = s_MS (s_OU S b) a := rfl
theorem sc_RT_MX (S : SS) (a : (Nat → Int64)) (b : (Nat → Int64)) : s_RT (s_MX S a) b = s_MX (s_RT S b) a := rfl
theorem sc_MO_MX (S : SS) (a : (Nat → Int64)) (b : (Nat → Int64)) : s_MO (s_MX S a) b = s_MX (s_MO S b) a := rfl
theorem sc_OU_MX (S : SS) (a : (Nat → Int64)) (b : (Nat → Int64)) : s_OU (s_MX S a) b = s_MX (s_OU S b) a := rfl
theorem sc_MO_RT (S : SS) (a : (Nat → Int64)) (b : (Nat → Int64)) : s_MO (s_RT S a) b = s_RT (s_MO S b) a := rfl
theorem sc_OU_RT (S : SS) (a : (Nat → Int64)) (b : (Nat → Int64)) : s_OU (s_RT S a) b = s_RT (s_OU S b) a := rfl
theorem sc_OU_MO (S : SS) (a : (Nat → Int64)) (b : (Nat → Int64)) : s_OU (s_MO S a) b = s_MO (s_OU S b) a := rfl
