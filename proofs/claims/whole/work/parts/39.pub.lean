set_option maxRecDepth 100000 in
set_option maxHeartbeats 4000000 in
theorem c_X9_append {g : G0} (hG : Gd g) (S : SS) (c : Nat) (len : Nat) (h1 : (z_TL S) = nI len) (h2 : len < 60) (h3 : c ≤ 255) : ctv g mX9_append [.ref 0, .int (nI c)] (mixW g S) (.int (nI (len + 1))) (mixW g (s_TL (s_TX S (upd (z_TX S) len (nI c))) (nI (len + 1)))) := by
  refine ct_of hG [some (.ref 0), some (.int (nI c))] rfl rfl rfl (Nat.le_of_ble_eq_true rfl) (fun h => ?_) rfl
  refine q_iload_n dX9_append_0 rfl ?_
  refine q_iconst (v := 0) dX9_append_1 rfl ?_
  refine q_sipush (v := 255) dX9_append_2 rfl ?_
  refine q_callSx (ν := mX9_requireRange) dX9_append_5 uw_476 vX9_requireRange (c_X9_requireRange_x hG S ((nI c)) (0) (255)) rfl rfl (Nat.le_of_ble_eq_true rfl) (Nat.le_of_ble_eq_true rfl) (Nat.le_of_ble_eq_true rfl) 1 (Nat.le_of_ble_eq_true rfl) rfl (fun z => (z (rng_ok (lo := 0) (hi := 255) (by omega) (by omega) (by omega))).elim) (fun c5 => ?_)
  refine wp_eq (st2 := []) rfl ?_
  refine q_aload_n dX9_append_8 rfl ?_
  refine q_get (j := 0) (v := .ref 1) dX9_append_9 (Nat.le_of_ble_eq_true rfl) rfl rfl iuX9 (Nat.le_of_ble_eq_true rfl) uw_208 rfl rfl ?_
  refine q_callVv (ν := mX1_isFull) dX9_append_12 uw_547 vX1_isFull (c_X1_isFull hG S (len) h1 (by omega)) (Nat.le_of_ble_eq_true rfl) rfl rfl rfl rfl (Nat.le_of_ble_eq_true rfl) (Nat.le_of_ble_eq_true rfl) (Nat.le_of_ble_eq_true rfl) 1 (Nat.le_of_ble_eq_true rfl) ?_
  refine q_if_eq 28 dX9_append_15 rfl (fun c15 => ?_) (fun c15 => ?_)
  · refine q_aload_n dX9_append_28 rfl ?_
    refine q_get (j := 0) (v := .ref 1) dX9_append_29 (Nat.le_of_ble_eq_true rfl) rfl rfl iuX9 (Nat.le_of_ble_eq_true rfl) uw_208 rfl rfl ?_
    refine q_iload_n dX9_append_32 rfl ?_
    refine q_i2c dX9_append_33 ?_
    refine wp_top (y := nI c) (chr_nI (by omega)) ?_
    refine q_callVv (ν := mX1_add) dX9_append_34 uw_567 vX1_add (c_X1_add hG S (c) (len) h1 h2 (by omega)) (Nat.le_of_ble_eq_true rfl) rfl rfl rfl rfl (Nat.le_of_ble_eq_true rfl) (Nat.le_of_ble_eq_true rfl) (Nat.le_of_ble_eq_true rfl) 1 (Nat.le_of_ble_eq_true rfl) ?_
    refine wp_w (w2 := mixW g (s_TL (s_TX S (upd (z_TX S) len (nI c))) (nI (len + 1)))) rfl ?_
    exact q_iret dX9_append_37 rfl ⟨rfl, rfl⟩
  · exact absurd (pI_1 c15) (by omega)
set_option maxRecDepth 100000 in
set_option maxHeartbeats 4000000 in
theorem c_X9_append_x1 {g : G0} (hG : Gd g) (S : SS) (x : Int32)  (h1 : ¬ (0 ≤ x ∧ x ≤ 255)) : ctt g mX9_append [.ref 0, .int x] (mixW g S) EIA (mixW g S) := by
  refine ct_of hG [some (.ref 0), some (.int (x))] rfl rfl rfl (Nat.le_of_ble_eq_true rfl) (fun h => ?_) rfl
  refine q_iload_n dX9_append_0 rfl ?_
  refine q_iconst (v := 0) dX9_append_1 rfl ?_
  refine q_sipush (v := 255) dX9_append_2 rfl ?_
  refine q_callSx (ν := mX9_requireRange) dX9_append_5 uw_476 vX9_requireRange (c_X9_requireRange_x hG S (x) (0) (255)) rfl rfl (Nat.le_of_ble_eq_true rfl) (Nat.le_of_ble_eq_true rfl) (Nat.le_of_ble_eq_true rfl) 1 (Nat.le_of_ble_eq_true rfl) rfl (fun z => ⟨rfl, rfl⟩) (fun c5 => ?_)
  refine wp_eq (st2 := []) rfl ?_
  exact absurd c5 h1
set_option maxRecDepth 100000 in
set_option maxHeartbeats 4000000 in
theorem c_X9_append_x2 {g : G0} (hG : Gd g) (S : SS) (c : Nat)  (h1 : (z_TL S) = nI 60) (h2 : c ≤ 255) : ctt g mX9_append [.ref 0, .int (nI c)] (mixW g S) EIS (mixW g S) := by
  refine ct_of hG [some (.ref 0), some (.int (nI c))] rfl rfl rfl (Nat.le_of_ble_eq_true rfl) (fun h => ?_) rfl
  refine q_iload_n dX9_append_0 rfl ?_
  refine q_iconst (v := 0) dX9_append_1 rfl ?_
  refine q_sipush (v := 255) dX9_append_2 rfl ?_
  refine q_callSx (ν := mX9_requireRange) dX9_append_5 uw_476 vX9_requireRange (c_X9_requireRange_x hG S ((nI c)) (0) (255)) rfl rfl (Nat.le_of_ble_eq_true rfl) (Nat.le_of_ble_eq_true rfl) (Nat.le_of_ble_eq_true rfl) 1 (Nat.le_of_ble_eq_true rfl) rfl (fun z => (z (rng_ok (lo := 0) (hi := 255) (by omega) (by omega) (by omega))).elim) (fun c5 => ?_)
  refine wp_eq (st2 := []) rfl ?_
  refine q_aload_n dX9_append_8 rfl ?_
  refine q_get (j := 0) (v := .ref 1) dX9_append_9 (Nat.le_of_ble_eq_true rfl) rfl rfl iuX9 (Nat.le_of_ble_eq_true rfl) uw_208 rfl rfl ?_
  refine q_callVv (ν := mX1_isFull) dX9_append_12 uw_547 vX1_isFull (c_X1_isFull hG S (60) h1 (by omega)) (Nat.le_of_ble_eq_true rfl) rfl rfl rfl rfl (Nat.le_of_ble_eq_true rfl) (Nat.le_of_ble_eq_true rfl) (Nat.le_of_ble_eq_true rfl) 1 (Nat.le_of_ble_eq_true rfl) ?_
  refine q_if_eq 28 dX9_append_15 rfl (fun c15 => ?_) (fun c15 => ?_)
  · exact absurd (show 60 ≤ 60 by omega) (pI_0 c15)
  · exact q_throw dX9_append_18 dX9_append_21 dX9_append_22 dX9_append_24 dX9_append_27 uw_551 uw_54 (List.mem_of_getElem? (i := 1) rfl) okT_IS rfl rfl (Nat.le_of_ble_eq_true rfl) (Nat.le_of_ble_eq_true rfl) (Nat.le_of_ble_eq_true rfl) (Nat.le_of_ble_eq_true rfl) ⟨rfl, rfl⟩
set_option maxRecDepth 100000 in
set_option maxHeartbeats 4000000 in
theorem c_X9_clearText {g : G0} (hG : Gd g) (S : SS)    : ctv g mX9_clearText [.ref 0] (mixW g S) (.int ((z_TL S))) (mixW g (s_TL S (0))) := by
  refine ct_of hG [some (.ref 0)] rfl rfl rfl (Nat.le_of_ble_eq_true rfl) (fun h => ?_) rfl
  refine q_aload_n dX9_clearText_0 rfl ?_
  refine q_get (j := 0) (v := .ref 1) dX9_clearText_1 (Nat.le_of_ble_eq_true rfl) rfl rfl iuX9 (Nat.le_of_ble_eq_true rfl) uw_208 rfl rfl ?_
  refine q_callVv (ν := mX1_empty) dX9_clearText_4 uw_252 vX1_empty (c_X1_empty hG S ) (Nat.le_of_ble_eq_true rfl) rfl rfl rfl rfl (Nat.le_of_ble_eq_true rfl) (Nat.le_of_ble_eq_true rfl) (Nat.le_of_ble_eq_true rfl) 0 (Nat.le_of_ble_eq_true rfl) ?_
  refine wp_w (w2 := mixW g (s_TL S (0))) rfl ?_
  exact q_iret dX9_clearText_7 rfl ⟨rfl, rfl⟩
set_option maxRecDepth 100000 in
set_option maxHeartbeats 4000000 in
theorem c_X9_errorPosition {g : G0} (hG : Gd g) (S : SS)  (t : Nat → Nat) (len : Nat) (h1 : (z_TL S) = nI len) (h2 : len ≤ 60) (h3 : ∀ j, j < len → (z_TX S) j = nI (t j) ∧ t j < 65536) : ctv g mX9_errorPosition [.ref 0] (mixW g S) (.int (feF t len len)) (mixW g S) := by
  refine ct_of hG [some (.ref 0)] rfl rfl rfl (Nat.le_of_ble_eq_true rfl) (fun h => ?_) rfl
  refine q_aload_n dX9_errorPosition_0 rfl ?_
  refine q_get (j := 0) (v := .ref 1) dX9_errorPosition_1 (Nat.le_of_ble_eq_true rfl) rfl rfl iuX9 (Nat.le_of_ble_eq_true rfl) uw_208 rfl rfl ?_
  refine q_callVv (ν := mX1_firstError) dX9_errorPosition_4 uw_260 vX1_firstError (c_X1_firstError hG S (t) (len) h1 h2 h3) (Nat.le_of_ble_eq_true rfl) rfl rfl rfl rfl (Nat.le_of_ble_eq_true rfl) (Nat.le_of_ble_eq_true rfl) (Nat.le_of_ble_eq_true rfl) 0 (Nat.le_of_ble_eq_true rfl) ?_
  exact q_iret dX9_errorPosition_7 rfl ⟨rfl, rfl⟩
set_option maxRecDepth 100000 in
set_option maxHeartbeats 4000000 in
theorem c_X9_load {g : G0} (hG : Gd g) (S : SS)  (t : Nat → Nat) (len : Nat) (c : Nat) (h1 : (z_TL S) = nI len) (h2 : len ≤ 60) (h3 : ∀ j, j < len → (z_TX S) j = nI (t j) ∧ t j < 65536) (h4 : feF t len len = -9) (h5 : len = 8 + 7 * c) (h6 : c ≤ 6) (h7 : ∀ j, 1 ≤ j → j < len → ¬ (8 ≤ j ∧ (j - 8) % 7 = 0) → 48 ≤ t j ∧ t j ≤ 57) : ctv g mX9_load [.ref 0] (mixW g S) (.int (nI c)) (mixW g (s_SV (s_HK (s_SF S (upd (upd (z_SF S) 0 0) 1 0)) (0)) (rdF t (z_SV S) c))) := by
  refine ct_of hG [some (.ref 0), none] rfl rfl rfl (Nat.le_of_ble_eq_true rfl) (fun h => ?_) rfl
  refine q_aload_n dX9_load_0 rfl ?_
  refine q_get (j := 0) (v := .ref 1) dX9_load_1 (Nat.le_of_ble_eq_true rfl) rfl rfl iuX9 (Nat.le_of_ble_eq_true rfl) uw_208 rfl rfl ?_
  refine q_callVv (ν := mX1_firstError) dX9_load_4 uw_260 vX1_firstError (c_X1_firstError hG S (t) (len) h1 h2 h3) (Nat.le_of_ble_eq_true rfl) rfl rfl rfl rfl (Nat.le_of_ble_eq_true rfl) (Nat.le_of_ble_eq_true rfl) (Nat.le_of_ble_eq_true rfl) 1 (Nat.le_of_ble_eq_true rfl) ?_
  refine q_bipush (v := (-9)) dX9_load_7 rfl ?_
  refine q_icmp_eq 22 dX9_load_9 rfl (fun c9 => ?_) (fun c9 => ?_)
  · refine q_aload_n dX9_load_22 rfl ?_
    refine q_get (j := 0) (v := .ref 1) dX9_load_23 (Nat.le_of_ble_eq_true rfl) rfl rfl iuX9 (Nat.le_of_ble_eq_true rfl) uw_208 rfl rfl ?_
    refine q_aload_n dX9_load_26 rfl ?_
    refine q_get (j := 1) (v := .ref 3) dX9_load_27 (Nat.le_of_ble_eq_true rfl) rfl rfl iuX9 (Nat.le_of_ble_eq_true rfl) uw_209 rfl rfl ?_
    refine q_callVu (ν := mX1_readInto) dX9_load_30 uw_579 vX1_readInto (c_X1_readInto hG S (t) (len) (c) h1 h5 h6 (fun j hj => (h3 j hj).1) h7) (Nat.le_of_ble_eq_true rfl) rfl rfl rfl rfl (Nat.le_of_ble_eq_true rfl) (Nat.le_of_ble_eq_true rfl) (Nat.le_of_ble_eq_true rfl) 1 (Nat.le_of_ble_eq_true rfl) ?_
    refine wp_w (w2 := mixW g (s_SV S (rdF t (z_SV S) c))) rfl ?_
    refine q_aload_n dX9_load_33 rfl ?_
    refine q_get (j := 3) (v := .ref 7) dX9_load_34 (Nat.le_of_ble_eq_true rfl) rfl rfl iuX9 (Nat.le_of_ble_eq_true rfl) uw_211 rfl rfl ?_
    refine q_callVu (ν := mX2_forget) dX9_load_37 uw_609 vX2_forget (c_X2_forget hG (s_SV S (rdF t (z_SV S) c)) ) (Nat.le_of_ble_eq_true rfl) rfl rfl rfl rfl (Nat.le_of_ble_eq_true rfl) (Nat.le_of_ble_eq_true rfl) (Nat.le_of_ble_eq_true rfl) 1 (Nat.le_of_ble_eq_true rfl) ?_
    rw [sc_HK_SV]
    refine wp_w (w2 := mixW g (s_SV (s_HK S (0)) (rdF t (z_SV S) c))) rfl ?_
    refine q_iconst (v := 0) dX9_load_40 rfl ?_
    refine q_ist1 dX9_load_41 (Nat.le_of_ble_eq_true rfl) rfl ?_
    refine q_iload_n dX9_load_42 rfl ?_
    refine q_iconst (v := 2) dX9_load_43 rfl ?_
    refine q_icmp_ge 60 dX9_load_44 rfl (fun c44 => ?_) (fun c44 => ?_)
    · first | exact absurd (by decide) c44 | exact absurd c44 (by decide)
    · refine q_aload_n dX9_load_47 rfl ?_
      refine q_get (j := 5) (v := .ref 12) dX9_load_48 (Nat.le_of_ble_eq_true rfl) rfl rfl iuX9 (Nat.le_of_ble_eq_true rfl) uw_213 rfl rfl ?_
      refine q_iload_n dX9_load_51 rfl ?_
      refine q_iconst (v := 0) dX9_load_52 rfl ?_
      refine q_zast (f := (z_SF S)) (y := 0) dX9_load_53 (Nat.le_of_ble_eq_true rfl) rfl (0) rfl (Nat.le_of_ble_eq_true rfl) (Nat.le_of_ble_eq_true rfl) rfl ?_
      refine wp_w (u_SF g _ _) ?_
      rw [sc_SF_SV, sc_SF_HK]
      refine q_iinc1 (k9 := 1) dX9_load_54 rfl (Nat.le_of_ble_eq_true rfl) rfl ?_
      refine wp_L (L2 := [some (.ref 0), some (.int (1))]) rfl ?_
      refine q_goto 42 dX9_load_57 rfl ?_
      refine q_iload_n dX9_load_42 rfl ?_
      refine q_iconst (v := 2) dX9_load_43 rfl ?_
      refine q_icmp_ge 60 dX9_load_44 rfl (fun c44 => ?_) (fun c44 => ?_)
      · first | exact absurd (by decide) c44 | exact absurd c44 (by decide)
      · refine q_aload_n dX9_load_47 rfl ?_
        refine q_get (j := 5) (v := .ref 12) dX9_load_48 (Nat.le_of_ble_eq_true rfl) rfl rfl iuX9 (Nat.le_of_ble_eq_true rfl) uw_213 rfl rfl ?_
        refine q_iload_n dX9_load_51 rfl ?_
        refine q_iconst (v := 0) dX9_load_52 rfl ?_
        refine q_zast (f := (upd (z_SF S) (0) (0))) (y := 0) dX9_load_53 (Nat.le_of_ble_eq_true rfl) rfl (1) rfl (Nat.le_of_ble_eq_true rfl) (Nat.le_of_ble_eq_true rfl) rfl ?_
        refine wp_w (u_SF g _ _) ?_
        rw [sc_SF_SV, sc_SF_HK, ss_SF]
        refine q_iinc1 (k9 := 1) dX9_load_54 rfl (Nat.le_of_ble_eq_true rfl) rfl ?_
        refine wp_L (L2 := [some (.ref 0), some (.int (2))]) rfl ?_
        refine q_goto 42 dX9_load_57 rfl ?_
        refine q_iload_n dX9_load_42 rfl ?_
        refine q_iconst (v := 2) dX9_load_43 rfl ?_
        refine q_icmp_ge 60 dX9_load_44 rfl (fun c44 => ?_) (fun c44 => ?_)
        · refine q_aload_n dX9_load_60 rfl ?_
          refine q_get (j := 1) (v := .ref 3) dX9_load_61 (Nat.le_of_ble_eq_true rfl) rfl rfl iuX9 (Nat.le_of_ble_eq_true rfl) uw_209 rfl rfl ?_
          refine q_callVv (ν := mX7_count) dX9_load_64 uw_280 vX7_count (c_X7_count_3 hG (s_SV (s_HK (s_SF S (upd (upd (z_SF S) (0) (0)) (1) (0))) (0)) (rdF t (z_SV S) c)) ) (Nat.le_of_ble_eq_true rfl) rfl rfl rfl rfl (Nat.le_of_ble_eq_true rfl) (Nat.le_of_ble_eq_true rfl) (Nat.le_of_ble_eq_true rfl) 1 (Nat.le_of_ble_eq_true rfl) ?_
          refine wp_eq (st2 := .int (((rdF t (z_SV S) c) 0)) :: _) rfl ?_
          refine wp_top (y := nI c) (rdF_0 t (z_SV S) c) ?_
          exact q_iret dX9_load_67 rfl ⟨rfl, rfl⟩
        · first | exact absurd (by decide) c44 | exact absurd c44 (by decide)
  · exact absurd h4 c9
set_option maxRecDepth 100000 in
set_option maxHeartbeats 4000000 in
theorem c_X9_load_x {g : G0} (hG : Gd g) (S : SS)  (t : Nat → Nat) (len : Nat) (h1 : (z_TL S) = nI len) (h2 : len ≤ 60) (h3 : ∀ j, j < len → (z_TX S) j = nI (t j) ∧ t j < 65536) (h4 : ¬ feF t len len = -9) : ctt g mX9_load [.ref 0] (mixW g S) EIS (mixW g S) := by
  refine ct_of hG [some (.ref 0), none] rfl rfl rfl (Nat.le_of_ble_eq_true rfl) (fun h => ?_) rfl
  refine q_aload_n dX9_load_0 rfl ?_
  refine q_get (j := 0) (v := .ref 1) dX9_load_1 (Nat.le_of_ble_eq_true rfl) rfl rfl iuX9 (Nat.le_of_ble_eq_true rfl) uw_208 rfl rfl ?_
  refine q_callVv (ν := mX1_firstError) dX9_load_4 uw_260 vX1_firstError (c_X1_firstError hG S (t) (len) h1 h2 h3) (Nat.le_of_ble_eq_true rfl) rfl rfl rfl rfl (Nat.le_of_ble_eq_true rfl) (Nat.le_of_ble_eq_true rfl) (Nat.le_of_ble_eq_true rfl) 1 (Nat.le_of_ble_eq_true rfl) ?_
  refine q_bipush (v := (-9)) dX9_load_7 rfl ?_
  refine q_icmp_eq 22 dX9_load_9 rfl (fun c9 => ?_) (fun c9 => ?_)
  · exact absurd c9 h4
  · exact q_throw dX9_load_12 dX9_load_15 dX9_load_16 dX9_load_18 dX9_load_21 uw_551 uw_54 (List.mem_of_getElem? (i := 2) rfl) okT_IS rfl rfl (Nat.le_of_ble_eq_true rfl) (Nat.le_of_ble_eq_true rfl) (Nat.le_of_ble_eq_true rfl) (Nat.le_of_ble_eq_true rfl) ⟨rfl, rfl⟩
set_option maxRecDepth 100000 in
set_option maxHeartbeats 4000000 in
theorem c_X9_cellCount {g : G0} (hG : Gd g) (S : SS)    : ctv g mX9_cellCount [.ref 0] (mixW g S) (.int ((z_SV S) 0)) (mixW g S) := by
  refine ct_of hG [some (.ref 0)] rfl rfl rfl (Nat.le_of_ble_eq_true rfl) (fun h => ?_) rfl
  refine q_aload_n dX9_cellCount_0 rfl ?_
  refine q_get (j := 1) (v := .ref 3) dX9_cellCount_1 (Nat.le_of_ble_eq_true rfl) rfl rfl iuX9 (Nat.le_of_ble_eq_true rfl) uw_209 rfl rfl ?_
  refine q_callVv (ν := mX7_count) dX9_cellCount_4 uw_280 vX7_count (c_X7_count_3 hG S ) (Nat.le_of_ble_eq_true rfl) rfl rfl rfl rfl (Nat.le_of_ble_eq_true rfl) (Nat.le_of_ble_eq_true rfl) (Nat.le_of_ble_eq_true rfl) 0 (Nat.le_of_ble_eq_true rfl) ?_
  exact q_iret dX9_cellCount_7 rfl ⟨rfl, rfl⟩
set_option maxRecDepth 100000 in
set_option maxHeartbeats 4000000 in
theorem c_X9_feedCell {g : G0} (hG : Gd g) (S : SS)    : ctv g mX9_feedCell [.ref 0] (mixW g S) (.int ((z_SV S) 1)) (mixW g S) := by
  refine ct_of hG [some (.ref 0)] rfl rfl rfl (Nat.le_of_ble_eq_true rfl) (fun h => ?_) rfl
  refine q_aload_n dX9_feedCell_0 rfl ?_
  refine q_get (j := 1) (v := .ref 3) dX9_feedCell_1 (Nat.le_of_ble_eq_true rfl) rfl rfl iuX9 (Nat.le_of_ble_eq_true rfl) uw_209 rfl rfl ?_
  refine q_callVv (ν := mX7_fedCell) dX9_feedCell_4 uw_288 vX7_fedCell (c_X7_fedCell_3 hG S ) (Nat.le_of_ble_eq_true rfl) rfl rfl rfl rfl (Nat.le_of_ble_eq_true rfl) (Nat.le_of_ble_eq_true rfl) (Nat.le_of_ble_eq_true rfl) 0 (Nat.le_of_ble_eq_true rfl) ?_
  exact q_iret dX9_feedCell_7 rfl ⟨rfl, rfl⟩
set_option maxRecDepth 100000 in
set_option maxHeartbeats 4000000 in
theorem c_X9_recovery {g : G0} (hG : Gd g) (S : SS) (c : Nat) (d : Nat) (N : Nat) (h1 : (z_SV S) 0 = nI N) (h2 : N ≤ 6) (h3 : c < N) (h4 : d < 2) : ctv g mX9_recovery [.ref 0, .int (nI c), .int (nI d)] (mixW g S) (.int ((z_SV S) (4 + 2 * c + d))) (mixW g S) := by
  refine ct_of hG [some (.ref 0), some (.int (nI c)), some (.int (nI d))] rfl rfl rfl (Nat.le_of_ble_eq_true rfl) (fun h => ?_) rfl
  refine q_aload_n dX9_recovery_0 rfl ?_
  refine q_iload_n dX9_recovery_1 rfl ?_
  refine q_callVx (ν := mX9_requireCell) dX9_recovery_2 uw_621 vX9_requireCell (c_X9_requireCell_x hG S ((nI c))) (Nat.le_of_ble_eq_true rfl) rfl rfl rfl rfl (Nat.le_of_ble_eq_true rfl) (Nat.le_of_ble_eq_true rfl) (Nat.le_of_ble_eq_true rfl) 1 (Nat.le_of_ble_eq_true rfl) rfl (fun z => (z (cel_ok h1 h2 (by omega))).elim) (fun c2 => ?_)
  refine wp_eq (st2 := []) rfl ?_
  refine q_iload_n dX9_recovery_5 rfl ?_
  refine q_callSx (ν := mX9_requireOneOfTwo) dX9_recovery_6 uw_642 vX9_requireOneOfTwo (c_X9_requireOneOfTwo_x hG S ((nI d))) rfl rfl (Nat.le_of_ble_eq_true rfl) (Nat.le_of_ble_eq_true rfl) (Nat.le_of_ble_eq_true rfl) 0 (Nat.le_of_ble_eq_true rfl) rfl (fun z => (z (two_ok (by omega))).elim) (fun c6 => ?_)
  refine wp_eq (st2 := []) rfl ?_
  refine q_aload_n dX9_recovery_9 rfl ?_
  refine q_get (j := 1) (v := .ref 3) dX9_recovery_10 (Nat.le_of_ble_eq_true rfl) rfl rfl iuX9 (Nat.le_of_ble_eq_true rfl) uw_209 rfl rfl ?_
  refine q_iload_n dX9_recovery_13 rfl ?_
  refine q_iload_n dX9_recovery_14 rfl ?_
  refine q_callVv (ν := mX7_percent) dX9_recovery_15 uw_452 vX7_percent (c_X7_percent_3 hG S (c) (d) (by omega)) (Nat.le_of_ble_eq_true rfl) rfl rfl rfl rfl (Nat.le_of_ble_eq_true rfl) (Nat.le_of_ble_eq_true rfl) (Nat.le_of_ble_eq_true rfl) 0 (Nat.le_of_ble_eq_true rfl) ?_
  exact q_iret dX9_recovery_18 rfl ⟨rfl, rfl⟩
set_option maxRecDepth 100000 in
set_option maxHeartbeats 4000000 in
theorem c_X9_recovery_x {g : G0} (hG : Gd g) (S : SS) (x : Int32) (y : Int32)  (h1 : ¬ ((0 ≤ x ∧ x < (z_SV S) 0) ∧ (y = 0 ∨ y = 1))) : ctt g mX9_recovery [.ref 0, .int x, .int y] (mixW g S) EIO (mixW g S) := by
  refine ct_of hG [some (.ref 0), some (.int (x)), some (.int (y))] rfl rfl rfl (Nat.le_of_ble_eq_true rfl) (fun h => ?_) rfl
  refine q_aload_n dX9_recovery_0 rfl ?_
  refine q_iload_n dX9_recovery_1 rfl ?_
  refine q_callVx (ν := mX9_requireCell) dX9_recovery_2 uw_621 vX9_requireCell (c_X9_requireCell_x hG S (x)) (Nat.le_of_ble_eq_true rfl) rfl rfl rfl rfl (Nat.le_of_ble_eq_true rfl) (Nat.le_of_ble_eq_true rfl) (Nat.le_of_ble_eq_true rfl) 1 (Nat.le_of_ble_eq_true rfl) rfl (fun z => ⟨rfl, rfl⟩) (fun c2 => ?_)
  refine wp_eq (st2 := []) rfl ?_
  refine q_iload_n dX9_recovery_5 rfl ?_
  refine q_callSx (ν := mX9_requireOneOfTwo) dX9_recovery_6 uw_642 vX9_requireOneOfTwo (c_X9_requireOneOfTwo_x hG S (y)) rfl rfl (Nat.le_of_ble_eq_true rfl) (Nat.le_of_ble_eq_true rfl) (Nat.le_of_ble_eq_true rfl) 0 (Nat.le_of_ble_eq_true rfl) rfl (fun z => ⟨rfl, rfl⟩) (fun c6 => ?_)
  refine wp_eq (st2 := []) rfl ?_
  exact absurd ⟨c2, c6⟩ h1
set_option maxRecDepth 100000 in
set_option maxHeartbeats 4000000 in
theorem c_X9_destination {g : G0} (hG : Gd g) (S : SS) (c : Nat) (d : Nat) (N : Nat) (h1 : (z_SV S) 0 = nI N) (h2 : N ≤ 6) (h3 : c < N) (h4 : d < 2) : ctv g mX9_destination [.ref 0, .int (nI c), .int (nI d)] (mixW g S) (.int ((z_SV S) (16 + 2 * c + d))) (mixW g S) := by
  refine ct_of hG [some (.ref 0), some (.int (nI c)), some (.int (nI d))] rfl rfl rfl (Nat.le_of_ble_eq_true rfl) (fun h => ?_) rfl
  refine q_aload_n dX9_destination_0 rfl ?_
  refine q_iload_n dX9_destination_1 rfl ?_
  refine q_callVx (ν := mX9_requireCell) dX9_destination_2 uw_621 vX9_requireCell (c_X9_requireCell_x hG S ((nI c))) (Nat.le_of_ble_eq_true rfl) rfl rfl rfl rfl (Nat.le_of_ble_eq_true rfl) (Nat.le_of_ble_eq_true rfl) (Nat.le_of_ble_eq_true rfl) 1 (Nat.le_of_ble_eq_true rfl) rfl (fun z => (z (cel_ok h1 h2 (by omega))).elim) (fun c2 => ?_)
  refine wp_eq (st2 := []) rfl ?_
  refine q_iload_n dX9_destination_5 rfl ?_
  refine q_callSx (ν := mX9_requireOneOfTwo) dX9_destination_6 uw_642 vX9_requireOneOfTwo (c_X9_requireOneOfTwo_x hG S ((nI d))) rfl rfl (Nat.le_of_ble_eq_true rfl) (Nat.le_of_ble_eq_true rfl) (Nat.le_of_ble_eq_true rfl) 0 (Nat.le_of_ble_eq_true rfl) rfl (fun z => (z (two_ok (by omega))).elim) (fun c6 => ?_)
  refine wp_eq (st2 := []) rfl ?_
  refine q_aload_n dX9_destination_9 rfl ?_
  refine q_get (j := 1) (v := .ref 3) dX9_destination_10 (Nat.le_of_ble_eq_true rfl) rfl rfl iuX9 (Nat.le_of_ble_eq_true rfl) uw_209 rfl rfl ?_
  refine q_iload_n dX9_destination_13 rfl ?_
  refine q_iload_n dX9_destination_14 rfl ?_
  refine q_callVv (ν := mX7_route) dX9_destination_15 uw_653 vX7_route (c_X7_route_3 hG S (c) (d) (by omega)) (Nat.le_of_ble_eq_true rfl) rfl rfl rfl rfl (Nat.le_of_ble_eq_true rfl) (Nat.le_of_ble_eq_true rfl) (Nat.le_of_ble_eq_true rfl) 0 (Nat.le_of_ble_eq_true rfl) ?_
  exact q_iret dX9_destination_18 rfl ⟨rfl, rfl⟩
set_option maxRecDepth 100000 in
set_option maxHeartbeats 4000000 in
theorem c_X9_destination_x {g : G0} (hG : Gd g) (S : SS) (x : Int32) (y : Int32)  (h1 : ¬ ((0 ≤ x ∧ x < (z_SV S) 0) ∧ (y = 0 ∨ y = 1))) : ctt g mX9_destination [.ref 0, .int x, .int y] (mixW g S) EIO (mixW g S) := by
  refine ct_of hG [some (.ref 0), some (.int (x)), some (.int (y))] rfl rfl rfl (Nat.le_of_ble_eq_true rfl) (fun h => ?_) rfl
  refine q_aload_n dX9_destination_0 rfl ?_
  refine q_iload_n dX9_destination_1 rfl ?_
  refine q_callVx (ν := mX9_requireCell) dX9_destination_2 uw_621 vX9_requireCell (c_X9_requireCell_x hG S (x)) (Nat.le_of_ble_eq_true rfl) rfl rfl rfl rfl (Nat.le_of_ble_eq_true rfl) (Nat.le_of_ble_eq_true rfl) (Nat.le_of_ble_eq_true rfl) 1 (Nat.le_of_ble_eq_true rfl) rfl (fun z => ⟨rfl, rfl⟩) (fun c2 => ?_)
  refine wp_eq (st2 := []) rfl ?_
  refine q_iload_n dX9_destination_5 rfl ?_
  refine q_callSx (ν := mX9_requireOneOfTwo) dX9_destination_6 uw_642 vX9_requireOneOfTwo (c_X9_requireOneOfTwo_x hG S (y)) rfl rfl (Nat.le_of_ble_eq_true rfl) (Nat.le_of_ble_eq_true rfl) (Nat.le_of_ble_eq_true rfl) 0 (Nat.le_of_ble_eq_true rfl) rfl (fun z => ⟨rfl, rfl⟩) (fun c6 => ?_)
  refine wp_eq (st2 := []) rfl ?_
  exact absurd ⟨c2, c6⟩ h1
set_option maxRecDepth 100000 in
set_option maxHeartbeats 4000000 in
theorem c_X9_content {g : G0} (hG : Gd g) (S : SS) (c : Nat) (d : Nat) (N : Nat) (h1 : (z_SV S) 0 = nI N) (h2 : N ≤ 6) (h3 : c < N) (h4 : d < 2) : ctv g mX9_content [.ref 0, .int (nI c), .int (nI d)] (mixW g S) (.int ((z_SV S) (28 + 2 * c + d))) (mixW g S) := by
  refine ct_of hG [some (.ref 0), some (.int (nI c)), some (.int (nI d))] rfl rfl rfl (Nat.le_of_ble_eq_true rfl) (fun h => ?_) rfl
  refine q_aload_n dX9_content_0 rfl ?_
  refine q_iload_n dX9_content_1 rfl ?_
  refine q_callVx (ν := mX9_requireCell) dX9_content_2 uw_621 vX9_requireCell (c_X9_requireCell_x hG S ((nI c))) (Nat.le_of_ble_eq_true rfl) rfl rfl rfl rfl (Nat.le_of_ble_eq_true rfl) (Nat.le_of_ble_eq_true rfl) (Nat.le_of_ble_eq_true rfl) 1 (Nat.le_of_ble_eq_true rfl) rfl (fun z => (z (cel_ok h1 h2 (by omega))).elim) (fun c2 => ?_)
  refine wp_eq (st2 := []) rfl ?_
  refine q_iload_n dX9_content_5 rfl ?_
  refine q_callSx (ν := mX9_requireOneOfTwo) dX9_content_6 uw_642 vX9_requireOneOfTwo (c_X9_requireOneOfTwo_x hG S ((nI d))) rfl rfl (Nat.le_of_ble_eq_true rfl) (Nat.le_of_ble_eq_true rfl) (Nat.le_of_ble_eq_true rfl) 0 (Nat.le_of_ble_eq_true rfl) rfl (fun z => (z (two_ok (by omega))).elim) (fun c6 => ?_)
  refine wp_eq (st2 := []) rfl ?_
  refine q_aload_n dX9_content_9 rfl ?_
  refine q_get (j := 1) (v := .ref 3) dX9_content_10 (Nat.le_of_ble_eq_true rfl) rfl rfl iuX9 (Nat.le_of_ble_eq_true rfl) uw_209 rfl rfl ?_
  refine q_iload_n dX9_content_13 rfl ?_
  refine q_iload_n dX9_content_14 rfl ?_
  refine q_callVv (ν := mX7_held) dX9_content_15 uw_770 vX7_held (c_X7_held_3 hG S (c) (d) (by omega)) (Nat.le_of_ble_eq_true rfl) rfl rfl rfl rfl (Nat.le_of_ble_eq_true rfl) (Nat.le_of_ble_eq_true rfl) (Nat.le_of_ble_eq_true rfl) 0 (Nat.le_of_ble_eq_true rfl) ?_
  exact q_iret dX9_content_18 rfl ⟨rfl, rfl⟩
set_option maxRecDepth 100000 in
set_option maxHeartbeats 4000000 in
theorem c_X9_content_x {g : G0} (hG : Gd g) (S : SS) (x : Int32) (y : Int32)  (h1 : ¬ ((0 ≤ x ∧ x < (z_SV S) 0) ∧ (y = 0 ∨ y = 1))) : ctt g mX9_content [.ref 0, .int x, .int y] (mixW g S) EIO (mixW g S) := by
  refine ct_of hG [some (.ref 0), some (.int (x)), some (.int (y))] rfl rfl rfl (Nat.le_of_ble_eq_true rfl) (fun h => ?_) rfl
  refine q_aload_n dX9_content_0 rfl ?_
  refine q_iload_n dX9_content_1 rfl ?_
  refine q_callVx (ν := mX9_requireCell) dX9_content_2 uw_621 vX9_requireCell (c_X9_requireCell_x hG S (x)) (Nat.le_of_ble_eq_true rfl) rfl rfl rfl rfl (Nat.le_of_ble_eq_true rfl) (Nat.le_of_ble_eq_true rfl) (Nat.le_of_ble_eq_true rfl) 1 (Nat.le_of_ble_eq_true rfl) rfl (fun z => ⟨rfl, rfl⟩) (fun c2 => ?_)
  refine wp_eq (st2 := []) rfl ?_
  refine q_iload_n dX9_content_5 rfl ?_
  refine q_callSx (ν := mX9_requireOneOfTwo) dX9_content_6 uw_642 vX9_requireOneOfTwo (c_X9_requireOneOfTwo_x hG S (y)) rfl rfl (Nat.le_of_ble_eq_true rfl) (Nat.le_of_ble_eq_true rfl) (Nat.le_of_ble_eq_true rfl) 0 (Nat.le_of_ble_eq_true rfl) rfl (fun z => ⟨rfl, rfl⟩) (fun c6 => ?_)
  refine wp_eq (st2 := []) rfl ?_
  exact absurd ⟨c2, c6⟩ h1
set_option maxRecDepth 100000 in
set_option maxHeartbeats 4000000 in
theorem c_X9_feedAmount {g : G0} (hG : Gd g) (S : SS) (d : Nat)  (h1 : d < 2) : ctv g mX9_feedAmount [.ref 0, .int (nI d)] (mixW g S) (.int ((z_SV S) (2 + d))) (mixW g S) := by
  refine ct_of hG [some (.ref 0), some (.int (nI d))] rfl rfl rfl (Nat.le_of_ble_eq_true rfl) (fun h => ?_) rfl
  refine q_iload_n dX9_feedAmount_0 rfl ?_
  refine q_callSx (ν := mX9_requireOneOfTwo) dX9_feedAmount_1 uw_642 vX9_requireOneOfTwo (c_X9_requireOneOfTwo_x hG S ((nI d))) rfl rfl (Nat.le_of_ble_eq_true rfl) (Nat.le_of_ble_eq_true rfl) (Nat.le_of_ble_eq_true rfl) 0 (Nat.le_of_ble_eq_true rfl) rfl (fun z => (z (two_ok (by omega))).elim) (fun c1 => ?_)
  refine wp_eq (st2 := []) rfl ?_
  refine q_aload_n dX9_feedAmount_4 rfl ?_
  refine q_get (j := 1) (v := .ref 3) dX9_feedAmount_5 (Nat.le_of_ble_eq_true rfl) rfl rfl iuX9 (Nat.le_of_ble_eq_true rfl) uw_209 rfl rfl ?_
  refine q_iload_n dX9_feedAmount_8 rfl ?_
  refine q_callVv (ν := mX7_feed) dX9_feedAmount_9 uw_661 vX7_feed (c_X7_feed_3 hG S (d) (by omega)) (Nat.le_of_ble_eq_true rfl) rfl rfl rfl rfl (Nat.le_of_ble_eq_true rfl) (Nat.le_of_ble_eq_true rfl) (Nat.le_of_ble_eq_true rfl) 0 (Nat.le_of_ble_eq_true rfl) ?_
  exact q_iret dX9_feedAmount_12 rfl ⟨rfl, rfl⟩
set_option maxRecDepth 100000 in
set_option maxHeartbeats 4000000 in
theorem c_X9_feedAmount_x {g : G0} (hG : Gd g) (S : SS) (y : Int32)  (h1 : ¬ (y = 0 ∨ y = 1)) : ctt g mX9_feedAmount [.ref 0, .int y] (mixW g S) EIO (mixW g S) := by
  refine ct_of hG [some (.ref 0), some (.int (y))] rfl rfl rfl (Nat.le_of_ble_eq_true rfl) (fun h => ?_) rfl
  refine q_iload_n dX9_feedAmount_0 rfl ?_
  refine q_callSx (ν := mX9_requireOneOfTwo) dX9_feedAmount_1 uw_642 vX9_requireOneOfTwo (c_X9_requireOneOfTwo_x hG S (y)) rfl rfl (Nat.le_of_ble_eq_true rfl) (Nat.le_of_ble_eq_true rfl) (Nat.le_of_ble_eq_true rfl) 0 (Nat.le_of_ble_eq_true rfl) rfl (fun z => ⟨rfl, rfl⟩) (fun c1 => ?_)
  refine wp_eq (st2 := []) rfl ?_
  exact absurd c1 h1
set_option maxRecDepth 100000 in
set_option maxHeartbeats 4000000 in
theorem c_X9_amount {g : G0} (hG : Gd g) (S : SS) (p : Nat) (d : Nat)  (h1 : p = 8 ∨ p = 9) (h2 : d < 2) : ctv g mX9_amount [.ref 0, .int (nI p), .int (nI d)] (mixW g S) (.int ((z_SV S) (40 + 2 * (p - 8) + d))) (mixW g S) := by
  refine ct_of hG [some (.ref 0), some (.int (nI p)), some (.int (nI d))] rfl rfl rfl (Nat.le_of_ble_eq_true rfl) (fun h => ?_) rfl
  refine q_iload_n dX9_amount_0 rfl ?_
  refine q_callSv (ν := mX9_isProduct) dX9_amount_1 uw_672 vX9_isProduct (c_X9_isProduct hG S (p) (by omega)) rfl rfl (Nat.le_of_ble_eq_true rfl) (Nat.le_of_ble_eq_true rfl) (Nat.le_of_ble_eq_true rfl) 2 (Nat.le_of_ble_eq_true rfl) ?_
  refine q_if_ne 17 dX9_amount_4 rfl (fun c4 => ?_) (fun c4 => ?_)
  · refine q_iload_n dX9_amount_17 rfl ?_
    refine q_callSx (ν := mX9_requireOneOfTwo) dX9_amount_18 uw_642 vX9_requireOneOfTwo (c_X9_requireOneOfTwo_x hG S ((nI d))) rfl rfl (Nat.le_of_ble_eq_true rfl) (Nat.le_of_ble_eq_true rfl) (Nat.le_of_ble_eq_true rfl) 1 (Nat.le_of_ble_eq_true rfl) rfl (fun z => (z (two_ok (by omega))).elim) (fun c18 => ?_)
    refine wp_eq (st2 := []) rfl ?_
    refine q_aload_n dX9_amount_21 rfl ?_
    refine q_get (j := 1) (v := .ref 3) dX9_amount_22 (Nat.le_of_ble_eq_true rfl) rfl rfl iuX9 (Nat.le_of_ble_eq_true rfl) uw_209 rfl rfl ?_
    refine q_iload_n dX9_amount_25 rfl ?_
    refine q_iload_n dX9_amount_26 rfl ?_
    refine q_callVv (ν := mX7_collected) dX9_amount_27 uw_739 vX7_collected (c_X7_collected_3 hG S (p) (d) (by omega) (by omega) (by omega)) (Nat.le_of_ble_eq_true rfl) rfl rfl rfl rfl (Nat.le_of_ble_eq_true rfl) (Nat.le_of_ble_eq_true rfl) (Nat.le_of_ble_eq_true rfl) 1 (Nat.le_of_ble_eq_true rfl) ?_
    exact q_iret dX9_amount_30 rfl ⟨rfl, rfl⟩
  · exact absurd h1 (pI_0 c4)
set_option maxRecDepth 100000 in
set_option maxHeartbeats 4000000 in
theorem c_X9_amount_x {g : G0} (hG : Gd g) (S : SS) (x : Int32) (y : Int32)  (h1 : ¬ ((x = 8 ∨ x = 9) ∧ (y = 0 ∨ y = 1))) : ctt g mX9_amount [.ref 0, .int x, .int y] (mixW g S) EIO (mixW g S) := by
  refine ct_of hG [some (.ref 0), some (.int (x)), some (.int (y))] rfl rfl rfl (Nat.le_of_ble_eq_true rfl) (fun h => ?_) rfl
  refine q_iload_n dX9_amount_0 rfl ?_
  refine q_callSv (ν := mX9_isProduct) dX9_amount_1 uw_672 vX9_isProduct (c_X9_isProductI hG S (x)) rfl rfl (Nat.le_of_ble_eq_true rfl) (Nat.le_of_ble_eq_true rfl) (Nat.le_of_ble_eq_true rfl) 2 (Nat.le_of_ble_eq_true rfl) ?_
  refine q_if_ne 17 dX9_amount_4 rfl (fun c4 => ?_) (fun c4 => ?_)
  · refine q_iload_n dX9_amount_17 rfl ?_
    refine q_callSx (ν := mX9_requireOneOfTwo) dX9_amount_18 uw_642 vX9_requireOneOfTwo (c_X9_requireOneOfTwo_x hG S (y)) rfl rfl (Nat.le_of_ble_eq_true rfl) (Nat.le_of_ble_eq_true rfl) (Nat.le_of_ble_eq_true rfl) 1 (Nat.le_of_ble_eq_true rfl) rfl (fun z => ⟨rfl, rfl⟩) (fun c18 => ?_)
    refine wp_eq (st2 := []) rfl ?_
    exact absurd ⟨pI_1 c4, c18⟩ h1
  · exact q_throw dX9_amount_7 dX9_amount_10 dX9_amount_11 dX9_amount_13 dX9_amount_16 uw_626 uw_55 (List.mem_of_getElem? (i := 9) rfl) okT_IO rfl rfl (Nat.le_of_ble_eq_true rfl) (Nat.le_of_ble_eq_true rfl) (Nat.le_of_ble_eq_true rfl) (Nat.le_of_ble_eq_true rfl) ⟨rfl, rfl⟩
set_option maxRecDepth 100000 in
set_option maxHeartbeats 4000000 in
theorem c_X9_addCell {g : G0} (hG : Gd g) (S : SS) (a : Nat) (b : Nat) (x : Nat) (y : Nat) (N : Nat) (p : Nat) (q : Nat) (h1 : (z_SV S) 0 = nI N) (h2 : N ≤ 6) (h3 : (z_HN S) = nI p) (h4 : p < 14) (h5 : (z_HK S) = nI q) (h6 : q ≤ 14) (h7 : a ≤ 100) (h8 : b ≤ 100) (h9 : desOk x) (h10 : desOk y) (h11 : N < 6) : ctv g mX9_addCell [.ref 0, .int (nI a), .int (nI b), .int (nI x), .int (nI y)] (mixW g S) (.int (nI N)) (mixW g (s_SV (s_HN (s_HK (s_HR S (va_cpy (z_SV S) (z_HR S) 0 (p * 44) 44)) (nI (min (q + 1) 14))) (nI ((p + 1) % 14))) (pushF (z_SV S) N (nI a) (nI b) (nI x) (nI y)))) := by
  refine ct_of hG [some (.ref 0), some (.int (nI a)), some (.int (nI b)), some (.int (nI x)), some (.int (nI y))] rfl rfl rfl (Nat.le_of_ble_eq_true rfl) (fun h => ?_) rfl
  refine q_iload_n dX9_addCell_0 rfl ?_
  refine q_iconst (v := 0) dX9_addCell_1 rfl ?_
  refine q_bipush (v := 100) dX9_addCell_2 rfl ?_
  refine q_callSx (ν := mX9_requireRange) dX9_addCell_4 uw_476 vX9_requireRange (c_X9_requireRange_x hG S ((nI a)) (0) (100)) rfl rfl (Nat.le_of_ble_eq_true rfl) (Nat.le_of_ble_eq_true rfl) (Nat.le_of_ble_eq_true rfl) 4 (Nat.le_of_ble_eq_true rfl) rfl (fun z => (z (rng_ok (lo := 0) (hi := 100) (by omega) (by omega) (by omega))).elim) (fun c4 => ?_)
  refine wp_eq (st2 := []) rfl ?_
  refine q_iload_n dX9_addCell_7 rfl ?_
  refine q_iconst (v := 0) dX9_addCell_8 rfl ?_
  refine q_bipush (v := 100) dX9_addCell_9 rfl ?_
  refine q_callSx (ν := mX9_requireRange) dX9_addCell_11 uw_476 vX9_requireRange (c_X9_requireRange_x hG S ((nI b)) (0) (100)) rfl rfl (Nat.le_of_ble_eq_true rfl) (Nat.le_of_ble_eq_true rfl) (Nat.le_of_ble_eq_true rfl) 3 (Nat.le_of_ble_eq_true rfl) rfl (fun z => (z (rng_ok (lo := 0) (hi := 100) (by omega) (by omega) (by omega))).elim) (fun c11 => ?_)
  refine wp_eq (st2 := []) rfl ?_
  refine q_iload_n dX9_addCell_14 rfl ?_
  refine q_callSx (ν := mX9_requireDestination) dX9_addCell_15 uw_669 vX9_requireDestination (c_X9_requireDestination_x hG S ((nI x))) rfl rfl (Nat.le_of_ble_eq_true rfl) (Nat.le_of_ble_eq_true rfl) (Nat.le_of_ble_eq_true rfl) 2 (Nat.le_of_ble_eq_true rfl) rfl (fun z => (z (des_ok h9)).elim) (fun c15 => ?_)
  refine wp_eq (st2 := []) rfl ?_
  refine q_iload dX9_addCell_18 rfl ?_
  refine q_callSx (ν := mX9_requireDestination) dX9_addCell_20 uw_669 vX9_requireDestination (c_X9_requireDestination_x hG S ((nI y))) rfl rfl (Nat.le_of_ble_eq_true rfl) (Nat.le_of_ble_eq_true rfl) (Nat.le_of_ble_eq_true rfl) 1 (Nat.le_of_ble_eq_true rfl) rfl (fun z => (z (des_ok h10)).elim) (fun c20 => ?_)
  refine wp_eq (st2 := []) rfl ?_
  refine q_aload_n dX9_addCell_23 rfl ?_
  refine q_get (j := 1) (v := .ref 3) dX9_addCell_24 (Nat.le_of_ble_eq_true rfl) rfl rfl iuX9 (Nat.le_of_ble_eq_true rfl) uw_209 rfl rfl ?_
  refine q_callVv (ν := mX7_count) dX9_addCell_27 uw_280 vX7_count (c_X7_count_3 hG S ) (Nat.le_of_ble_eq_true rfl) rfl rfl rfl rfl (Nat.le_of_ble_eq_true rfl) (Nat.le_of_ble_eq_true rfl) (Nat.le_of_ble_eq_true rfl) 1 (Nat.le_of_ble_eq_true rfl) ?_
  refine wp_top (y := nI N) h1 ?_
  refine q_bipush (v := 6) dX9_addCell_30 rfl ?_
  refine q_icmp_lt 45 dX9_addCell_32 rfl (fun c32 => ?_) (fun c32 => ?_)
  · have n32 := (nI_ltI (a := N) (b := 6) (by omega) (by omega)).mp c32
    refine q_aload_n dX9_addCell_45 rfl ?_
    refine q_get (j := 3) (v := .ref 7) dX9_addCell_46 (Nat.le_of_ble_eq_true rfl) rfl rfl iuX9 (Nat.le_of_ble_eq_true rfl) uw_211 rfl rfl ?_
    refine q_aload_n dX9_addCell_49 rfl ?_
    refine q_get (j := 1) (v := .ref 3) dX9_addCell_50 (Nat.le_of_ble_eq_true rfl) rfl rfl iuX9 (Nat.le_of_ble_eq_true rfl) uw_209 rfl rfl ?_
    refine q_callVu (ν := mX2_remember) dX9_addCell_53 uw_296 vX2_remember (c_X2_remember hG S (p) (q) h3 h4 h5 h6) (Nat.le_of_ble_eq_true rfl) rfl rfl rfl rfl (Nat.le_of_ble_eq_true rfl) (Nat.le_of_ble_eq_true rfl) (Nat.le_of_ble_eq_true rfl) 1 (Nat.le_of_ble_eq_true rfl) ?_
    refine wp_w (w2 := mixW g (s_HN (s_HK (s_HR S (va_cpy (z_SV S) (z_HR S) 0 (p * 44) 44)) (nI (min (q + 1) 14))) (nI ((p + 1) % 14)))) rfl ?_
    refine q_aload_n dX9_addCell_56 rfl ?_
    refine q_get (j := 1) (v := .ref 3) dX9_addCell_57 (Nat.le_of_ble_eq_true rfl) rfl rfl iuX9 (Nat.le_of_ble_eq_true rfl) uw_209 rfl rfl ?_
    refine q_iload_n dX9_addCell_60 rfl ?_
    refine q_iload_n dX9_addCell_61 rfl ?_
    refine q_iload_n dX9_addCell_62 rfl ?_
    refine q_iload dX9_addCell_63 rfl ?_
    refine q_callVu (ν := mX7_pushCell) dX9_addCell_65 uw_675 vX7_pushCell (c_X7_pushCell_3 hG (s_HN (s_HK (s_HR S (va_cpy (z_SV S) (z_HR S) 0 (p * 44) 44)) (nI (min (q + 1) 14))) (nI ((p + 1) % 14))) ((nI a)) ((nI b)) ((nI x)) ((nI y)) (N) h1 h11) (Nat.le_of_ble_eq_true rfl) rfl rfl rfl rfl (Nat.le_of_ble_eq_true rfl) (Nat.le_of_ble_eq_true rfl) (Nat.le_of_ble_eq_true rfl) 1 (Nat.le_of_ble_eq_true rfl) ?_
    refine wp_w (w2 := mixW g (s_SV (s_HN (s_HK (s_HR S (va_cpy (z_SV S) (z_HR S) 0 (p * 44) 44)) (nI (min (q + 1) 14))) (nI ((p + 1) % 14))) (pushF (z_SV S) N (nI a) (nI b) (nI x) (nI y)))) rfl ?_
    refine q_aload_n dX9_addCell_68 rfl ?_
    refine q_get (j := 1) (v := .ref 3) dX9_addCell_69 (Nat.le_of_ble_eq_true rfl) rfl rfl iuX9 (Nat.le_of_ble_eq_true rfl) uw_209 rfl rfl ?_
    refine q_callVv (ν := mX7_count) dX9_addCell_72 uw_280 vX7_count (c_X7_count_3 hG (s_SV (s_HN (s_HK (s_HR S (va_cpy (z_SV S) (z_HR S) 0 (p * 44) 44)) (nI (min (q + 1) 14))) (nI ((p + 1) % 14))) (pushF (z_SV S) N (nI a) (nI b) (nI x) (nI y))) ) (Nat.le_of_ble_eq_true rfl) rfl rfl rfl rfl (Nat.le_of_ble_eq_true rfl) (Nat.le_of_ble_eq_true rfl) (Nat.le_of_ble_eq_true rfl) 1 (Nat.le_of_ble_eq_true rfl) ?_
    refine wp_eq (st2 := .int (((pushF (z_SV S) N (nI a) (nI b) (nI x) (nI y)) 0)) :: _) rfl ?_
    refine wp_top (y := nI N + 1) (by simp only [pushF, upd, if_true]) ?_
    refine q_iconst (v := 1) dX9_addCell_75 rfl ?_
    refine q_isub dX9_addCell_76 ?_
    refine wp_top (y := nI N) (by rw [nI_1]; exact nI_pred N) ?_
    exact q_iret dX9_addCell_77 rfl ⟨rfl, rfl⟩
  · have n32 := mt (nI_ltI (a := N) (b := 6) (by omega) (by omega)).mpr c32
    omega
set_option maxRecDepth 100000 in
set_option maxHeartbeats 4000000 in
theorem c_X9_addCell_x1 {g : G0} (hG : Gd g) (S : SS) (a : Int32) (b : Int32) (x : Int32) (y : Int32)  (h1 : ¬ ((0 ≤ a ∧ a ≤ 100) ∧ (0 ≤ b ∧ b ≤ 100) ∧ ((x = 8 ∨ x = 9) ∨ (0 ≤ x ∧ x < 6)) ∧ ((y = 8 ∨ y = 9) ∨ (0 ≤ y ∧ y < 6)))) : ctt g mX9_addCell [.ref 0, .int a, .int b, .int x, .int y] (mixW g S) EIA (mixW g S) := by
  refine ct_of hG [some (.ref 0), some (.int (a)), some (.int (b)), some (.int (x)), some (.int (y))] rfl rfl rfl (Nat.le_of_ble_eq_true rfl) (fun h => ?_) rfl
  refine q_iload_n dX9_addCell_0 rfl ?_
  refine q_iconst (v := 0) dX9_addCell_1 rfl ?_
  refine q_bipush (v := 100) dX9_addCell_2 rfl ?_
  refine q_callSx (ν := mX9_requireRange) dX9_addCell_4 uw_476 vX9_requireRange (c_X9_requireRange_x hG S (a) (0) (100)) rfl rfl (Nat.le_of_ble_eq_true rfl) (Nat.le_of_ble_eq_true rfl) (Nat.le_of_ble_eq_true rfl) 4 (Nat.le_of_ble_eq_true rfl) rfl (fun z => ⟨rfl, rfl⟩) (fun c4 => ?_)
  refine wp_eq (st2 := []) rfl ?_
  refine q_iload_n dX9_addCell_7 rfl ?_
  refine q_iconst (v := 0) dX9_addCell_8 rfl ?_
  refine q_bipush (v := 100) dX9_addCell_9 rfl ?_
  refine q_callSx (ν := mX9_requireRange) dX9_addCell_11 uw_476 vX9_requireRange (c_X9_requireRange_x hG S (b) (0) (100)) rfl rfl (Nat.le_of_ble_eq_true rfl) (Nat.le_of_ble_eq_true rfl) (Nat.le_of_ble_eq_true rfl) 3 (Nat.le_of_ble_eq_true rfl) rfl (fun z => ⟨rfl, rfl⟩) (fun c11 => ?_)
  refine wp_eq (st2 := []) rfl ?_
  refine q_iload_n dX9_addCell_14 rfl ?_
  refine q_callSx (ν := mX9_requireDestination) dX9_addCell_15 uw_669 vX9_requireDestination (c_X9_requireDestination_x hG S (x)) rfl rfl (Nat.le_of_ble_eq_true rfl) (Nat.le_of_ble_eq_true rfl) (Nat.le_of_ble_eq_true rfl) 2 (Nat.le_of_ble_eq_true rfl) rfl (fun z => ⟨rfl, rfl⟩) (fun c15 => ?_)
  refine wp_eq (st2 := []) rfl ?_
  refine q_iload dX9_addCell_18 rfl ?_
  refine q_callSx (ν := mX9_requireDestination) dX9_addCell_20 uw_669 vX9_requireDestination (c_X9_requireDestination_x hG S (y)) rfl rfl (Nat.le_of_ble_eq_true rfl) (Nat.le_of_ble_eq_true rfl) (Nat.le_of_ble_eq_true rfl) 1 (Nat.le_of_ble_eq_true rfl) rfl (fun z => ⟨rfl, rfl⟩) (fun c20 => ?_)
  refine wp_eq (st2 := []) rfl ?_
  exact absurd ⟨c4, c11, c15, c20⟩ h1
set_option maxRecDepth 100000 in
set_option maxHeartbeats 4000000 in
theorem c_X9_addCell_x2 {g : G0} (hG : Gd g) (S : SS) (a : Nat) (b : Nat) (x : Nat) (y : Nat)  (h1 : (z_SV S) 0 = nI 6) (h2 : a ≤ 100) (h3 : b ≤ 100) (h4 : desOk x) (h5 : desOk y) : ctt g mX9_addCell [.ref 0, .int (nI a), .int (nI b), .int (nI x), .int (nI y)] (mixW g S) EIS (mixW g S) := by
  refine ct_of hG [some (.ref 0), some (.int (nI a)), some (.int (nI b)), some (.int (nI x)), some (.int (nI y))] rfl rfl rfl (Nat.le_of_ble_eq_true rfl) (fun h => ?_) rfl
  refine q_iload_n dX9_addCell_0 rfl ?_
  refine q_iconst (v := 0) dX9_addCell_1 rfl ?_
  refine q_bipush (v := 100) dX9_addCell_2 rfl ?_
  refine q_callSx (ν := mX9_requireRange) dX9_addCell_4 uw_476 vX9_requireRange (c_X9_requireRange_x hG S ((nI a)) (0) (100)) rfl rfl (Nat.le_of_ble_eq_true rfl) (Nat.le_of_ble_eq_true rfl) (Nat.le_of_ble_eq_true rfl) 4 (Nat.le_of_ble_eq_true rfl) rfl (fun z => (z (rng_ok (lo := 0) (hi := 100) (by omega) (by omega) (by omega))).elim) (fun c4 => ?_)
  refine wp_eq (st2 := []) rfl ?_
  refine q_iload_n dX9_addCell_7 rfl ?_
  refine q_iconst (v := 0) dX9_addCell_8 rfl ?_
  refine q_bipush (v := 100) dX9_addCell_9 rfl ?_
  refine q_callSx (ν := mX9_requireRange) dX9_addCell_11 uw_476 vX9_requireRange (c_X9_requireRange_x hG S ((nI b)) (0) (100)) rfl rfl (Nat.le_of_ble_eq_true rfl) (Nat.le_of_ble_eq_true rfl) (Nat.le_of_ble_eq_true rfl) 3 (Nat.le_of_ble_eq_true rfl) rfl (fun z => (z (rng_ok (lo := 0) (hi := 100) (by omega) (by omega) (by omega))).elim) (fun c11 => ?_)
  refine wp_eq (st2 := []) rfl ?_
  refine q_iload_n dX9_addCell_14 rfl ?_
  refine q_callSx (ν := mX9_requireDestination) dX9_addCell_15 uw_669 vX9_requireDestination (c_X9_requireDestination_x hG S ((nI x))) rfl rfl (Nat.le_of_ble_eq_true rfl) (Nat.le_of_ble_eq_true rfl) (Nat.le_of_ble_eq_true rfl) 2 (Nat.le_of_ble_eq_true rfl) rfl (fun z => (z (des_ok h4)).elim) (fun c15 => ?_)
  refine wp_eq (st2 := []) rfl ?_
  refine q_iload dX9_addCell_18 rfl ?_
  refine q_callSx (ν := mX9_requireDestination) dX9_addCell_20 uw_669 vX9_requireDestination (c_X9_requireDestination_x hG S ((nI y))) rfl rfl (Nat.le_of_ble_eq_true rfl) (Nat.le_of_ble_eq_true rfl) (Nat.le_of_ble_eq_true rfl) 1 (Nat.le_of_ble_eq_true rfl) rfl (fun z => (z (des_ok h5)).elim) (fun c20 => ?_)
  refine wp_eq (st2 := []) rfl ?_
  refine q_aload_n dX9_addCell_23 rfl ?_
  refine q_get (j := 1) (v := .ref 3) dX9_addCell_24 (Nat.le_of_ble_eq_true rfl) rfl rfl iuX9 (Nat.le_of_ble_eq_true rfl) uw_209 rfl rfl ?_
  refine q_callVv (ν := mX7_count) dX9_addCell_27 uw_280 vX7_count (c_X7_count_3 hG S ) (Nat.le_of_ble_eq_true rfl) rfl rfl rfl rfl (Nat.le_of_ble_eq_true rfl) (Nat.le_of_ble_eq_true rfl) (Nat.le_of_ble_eq_true rfl) 1 (Nat.le_of_ble_eq_true rfl) ?_
  refine wp_top (y := nI 6) h1 ?_
  refine q_bipush (v := 6) dX9_addCell_30 rfl ?_
  refine q_icmp_lt 45 dX9_addCell_32 rfl (fun c32 => ?_) (fun c32 => ?_)
  · have n32 := (nI_ltI (a := 6) (b := 6) (by omega) (by omega)).mp c32
    omega
  · have n32 := mt (nI_ltI (a := 6) (b := 6) (by omega) (by omega)).mpr c32
    exact q_throw dX9_addCell_35 dX9_addCell_38 dX9_addCell_39 dX9_addCell_41 dX9_addCell_44 uw_551 uw_54 (List.mem_of_getElem? (i := 6) rfl) okT_IS rfl rfl (Nat.le_of_ble_eq_true rfl) (Nat.le_of_ble_eq_true rfl) (Nat.le_of_ble_eq_true rfl) (Nat.le_of_ble_eq_true rfl) ⟨rfl, rfl⟩
set_option maxRecDepth 100000 in
set_option maxHeartbeats 4000000 in
theorem c_X9_removeLastCell {g : G0} (hG : Gd g) (S : SS)  (N : Nat) (p : Nat) (q : Nat) (h1 : (z_SV S) 0 = nI N) (h2 : N ≤ 6) (h3 : (z_HN S) = nI p) (h4 : p < 14) (h5 : (z_HK S) = nI q) (h6 : q ≤ 14) (h7 : 0 < N) : ctv g mX9_removeLastCell [.ref 0] (mixW g S) (.int (nI (N - 1))) (mixW g (s_SV (s_HN (s_HK (s_HR S (va_cpy (z_SV S) (z_HR S) 0 (p * 44) 44)) (nI (min (q + 1) 14))) (nI ((p + 1) % 14))) (upd (z_SV S) 0 (nI N - 1)))) := by
  refine ct_of hG [some (.ref 0)] rfl rfl rfl (Nat.le_of_ble_eq_true rfl) (fun h => ?_) rfl
  refine q_aload_n dX9_removeLastCell_0 rfl ?_
  refine q_get (j := 1) (v := .ref 3) dX9_removeLastCell_1 (Nat.le_of_ble_eq_true rfl) rfl rfl iuX9 (Nat.le_of_ble_eq_true rfl) uw_209 rfl rfl ?_
  refine q_callVv (ν := mX7_count) dX9_removeLastCell_4 uw_280 vX7_count (c_X7_count_3 hG S ) (Nat.le_of_ble_eq_true rfl) rfl rfl rfl rfl (Nat.le_of_ble_eq_true rfl) (Nat.le_of_ble_eq_true rfl) (Nat.le_of_ble_eq_true rfl) 1 (Nat.le_of_ble_eq_true rfl) ?_
  refine wp_top (y := nI N) h1 ?_
  refine q_if_gt 20 dX9_removeLastCell_7 rfl (fun c7 => ?_) (fun c7 => ?_)
  · have n7 := (nI_ltI (a := 0) (b := N) (by omega) (by omega)).mp c7
    refine q_aload_n dX9_removeLastCell_20 rfl ?_
    refine q_get (j := 3) (v := .ref 7) dX9_removeLastCell_21 (Nat.le_of_ble_eq_true rfl) rfl rfl iuX9 (Nat.le_of_ble_eq_true rfl) uw_211 rfl rfl ?_
    refine q_aload_n dX9_removeLastCell_24 rfl ?_
    refine q_get (j := 1) (v := .ref 3) dX9_removeLastCell_25 (Nat.le_of_ble_eq_true rfl) rfl rfl iuX9 (Nat.le_of_ble_eq_true rfl) uw_209 rfl rfl ?_
    refine q_callVu (ν := mX2_remember) dX9_removeLastCell_28 uw_296 vX2_remember (c_X2_remember hG S (p) (q) h3 h4 h5 h6) (Nat.le_of_ble_eq_true rfl) rfl rfl rfl rfl (Nat.le_of_ble_eq_true rfl) (Nat.le_of_ble_eq_true rfl) (Nat.le_of_ble_eq_true rfl) 1 (Nat.le_of_ble_eq_true rfl) ?_
    refine wp_w (w2 := mixW g (s_HN (s_HK (s_HR S (va_cpy (z_SV S) (z_HR S) 0 (p * 44) 44)) (nI (min (q + 1) 14))) (nI ((p + 1) % 14)))) rfl ?_
    refine q_aload_n dX9_removeLastCell_31 rfl ?_
    refine q_get (j := 1) (v := .ref 3) dX9_removeLastCell_32 (Nat.le_of_ble_eq_true rfl) rfl rfl iuX9 (Nat.le_of_ble_eq_true rfl) uw_209 rfl rfl ?_
    refine q_callVu (ν := mX7_popCell) dX9_removeLastCell_35 uw_684 vX7_popCell (c_X7_popCell_3 hG (s_HN (s_HK (s_HR S (va_cpy (z_SV S) (z_HR S) 0 (p * 44) 44)) (nI (min (q + 1) 14))) (nI ((p + 1) % 14))) (N) h1 (by omega) (by omega)) (Nat.le_of_ble_eq_true rfl) rfl rfl rfl rfl (Nat.le_of_ble_eq_true rfl) (Nat.le_of_ble_eq_true rfl) (Nat.le_of_ble_eq_true rfl) 1 (Nat.le_of_ble_eq_true rfl) ?_
    refine wp_w (w2 := mixW g (s_SV (s_HN (s_HK (s_HR S (va_cpy (z_SV S) (z_HR S) 0 (p * 44) 44)) (nI (min (q + 1) 14))) (nI ((p + 1) % 14))) (upd (z_SV S) 0 (nI N - 1)))) rfl ?_
    refine q_aload_n dX9_removeLastCell_38 rfl ?_
    refine q_get (j := 1) (v := .ref 3) dX9_removeLastCell_39 (Nat.le_of_ble_eq_true rfl) rfl rfl iuX9 (Nat.le_of_ble_eq_true rfl) uw_209 rfl rfl ?_
    refine q_callVv (ν := mX7_count) dX9_removeLastCell_42 uw_280 vX7_count (c_X7_count_3 hG (s_SV (s_HN (s_HK (s_HR S (va_cpy (z_SV S) (z_HR S) 0 (p * 44) 44)) (nI (min (q + 1) 14))) (nI ((p + 1) % 14))) (upd (z_SV S) 0 (nI N - 1))) ) (Nat.le_of_ble_eq_true rfl) rfl rfl rfl rfl (Nat.le_of_ble_eq_true rfl) (Nat.le_of_ble_eq_true rfl) (Nat.le_of_ble_eq_true rfl) 1 (Nat.le_of_ble_eq_true rfl) ?_
    refine wp_eq (st2 := .int (((upd (z_SV S) 0 (nI N - 1)) 0)) :: _) rfl ?_
    refine wp_top (y := nI (N - 1)) (by simp only [upd, if_true]; exact pk_sub (b := 1) (by omega)) ?_
    exact q_iret dX9_removeLastCell_45 rfl ⟨rfl, rfl⟩
  · have n7 := mt (nI_ltI (a := 0) (b := N) (by omega) (by omega)).mpr c7
    omega
set_option maxRecDepth 100000 in
set_option maxHeartbeats 4000000 in
theorem c_X9_removeLastCell_x {g : G0} (hG : Gd g) (S : SS)   (h1 : (z_SV S) 0 = nI 0) : ctt g mX9_removeLastCell [.ref 0] (mixW g S) EIS (mixW g S) := by
  refine ct_of hG [some (.ref 0)] rfl rfl rfl (Nat.le_of_ble_eq_true rfl) (fun h => ?_) rfl
  refine q_aload_n dX9_removeLastCell_0 rfl ?_
  refine q_get (j := 1) (v := .ref 3) dX9_removeLastCell_1 (Nat.le_of_ble_eq_true rfl) rfl rfl iuX9 (Nat.le_of_ble_eq_true rfl) uw_209 rfl rfl ?_
  refine q_callVv (ν := mX7_count) dX9_removeLastCell_4 uw_280 vX7_count (c_X7_count_3 hG S ) (Nat.le_of_ble_eq_true rfl) rfl rfl rfl rfl (Nat.le_of_ble_eq_true rfl) (Nat.le_of_ble_eq_true rfl) (Nat.le_of_ble_eq_true rfl) 1 (Nat.le_of_ble_eq_true rfl) ?_
  refine wp_top (y := nI 0) h1 ?_
  refine q_if_gt 20 dX9_removeLastCell_7 rfl (fun c7 => ?_) (fun c7 => ?_)
  · have n7 := (nI_ltI (a := 0) (b := 0) (by omega) (by omega)).mp c7
    omega
  · have n7 := mt (nI_ltI (a := 0) (b := 0) (by omega) (by omega)).mpr c7
    exact q_throw dX9_removeLastCell_10 dX9_removeLastCell_13 dX9_removeLastCell_14 dX9_removeLastCell_16 dX9_removeLastCell_19 uw_551 uw_54 (List.mem_of_getElem? (i := 7) rfl) okT_IS rfl rfl (Nat.le_of_ble_eq_true rfl) (Nat.le_of_ble_eq_true rfl) (Nat.le_of_ble_eq_true rfl) (Nat.le_of_ble_eq_true rfl) ⟨rfl, rfl⟩
set_option maxRecDepth 100000 in
set_option maxHeartbeats 4000000 in
theorem c_X9_setRecovery {g : G0} (hG : Gd g) (S : SS) (c : Nat) (d : Nat) (r : Nat) (N : Nat) (p : Nat) (q : Nat) (h1 : (z_SV S) 0 = nI N) (h2 : N ≤ 6) (h3 : (z_HN S) = nI p) (h4 : p < 14) (h5 : (z_HK S) = nI q) (h6 : q ≤ 14) (h7 : c < N) (h8 : d < 2) (h9 : r ≤ 100) : ctv g mX9_setRecovery [.ref 0, .int (nI c), .int (nI d), .int (nI r)] (mixW g S) (.int ((z_SV S) (4 + 2 * c + d))) (mixW g (s_SV (s_HN (s_HK (s_HR S (va_cpy (z_SV S) (z_HR S) 0 (p * 44) 44)) (nI (min (q + 1) 14))) (nI ((p + 1) % 14))) (upd (z_SV S) (4 + 2 * c + d) (nI r)))) := by
  refine ct_of hG [some (.ref 0), some (.int (nI c)), some (.int (nI d)), some (.int (nI r)), none] rfl rfl rfl (Nat.le_of_ble_eq_true rfl) (fun h => ?_) rfl
  refine q_aload_n dX9_setRecovery_0 rfl ?_
  refine q_iload_n dX9_setRecovery_1 rfl ?_
  refine q_callVx (ν := mX9_requireCell) dX9_setRecovery_2 uw_621 vX9_requireCell (c_X9_requireCell_x hG S ((nI c))) (Nat.le_of_ble_eq_true rfl) rfl rfl rfl rfl (Nat.le_of_ble_eq_true rfl) (Nat.le_of_ble_eq_true rfl) (Nat.le_of_ble_eq_true rfl) 2 (Nat.le_of_ble_eq_true rfl) rfl (fun z => (z (cel_ok h1 h2 (by omega))).elim) (fun c2 => ?_)
  refine wp_eq (st2 := []) rfl ?_
  refine q_iload_n dX9_setRecovery_5 rfl ?_
  refine q_callSx (ν := mX9_requireOneOfTwo) dX9_setRecovery_6 uw_642 vX9_requireOneOfTwo (c_X9_requireOneOfTwo_x hG S ((nI d))) rfl rfl (Nat.le_of_ble_eq_true rfl) (Nat.le_of_ble_eq_true rfl) (Nat.le_of_ble_eq_true rfl) 1 (Nat.le_of_ble_eq_true rfl) rfl (fun z => (z (two_ok (by omega))).elim) (fun c6 => ?_)
  refine wp_eq (st2 := []) rfl ?_
  refine q_iload_n dX9_setRecovery_9 rfl ?_
  refine q_iconst (v := 0) dX9_setRecovery_10 rfl ?_
  refine q_bipush (v := 100) dX9_setRecovery_11 rfl ?_
  refine q_callSx (ν := mX9_requireRange) dX9_setRecovery_13 uw_476 vX9_requireRange (c_X9_requireRange_x hG S ((nI r)) (0) (100)) rfl rfl (Nat.le_of_ble_eq_true rfl) (Nat.le_of_ble_eq_true rfl) (Nat.le_of_ble_eq_true rfl) 0 (Nat.le_of_ble_eq_true rfl) rfl (fun z => (z (rng_ok (lo := 0) (hi := 100) (by omega) (by omega) (by omega))).elim) (fun c13 => ?_)
  refine wp_eq (st2 := []) rfl ?_
  refine q_aload_n dX9_setRecovery_16 rfl ?_
  refine q_get (j := 3) (v := .ref 7) dX9_setRecovery_17 (Nat.le_of_ble_eq_true rfl) rfl rfl iuX9 (Nat.le_of_ble_eq_true rfl) uw_211 rfl rfl ?_
  refine q_aload_n dX9_setRecovery_20 rfl ?_
  refine q_get (j := 1) (v := .ref 3) dX9_setRecovery_21 (Nat.le_of_ble_eq_true rfl) rfl rfl iuX9 (Nat.le_of_ble_eq_true rfl) uw_209 rfl rfl ?_
  refine q_callVu (ν := mX2_remember) dX9_setRecovery_24 uw_296 vX2_remember (c_X2_remember hG S (p) (q) h3 h4 h5 h6) (Nat.le_of_ble_eq_true rfl) rfl rfl rfl rfl (Nat.le_of_ble_eq_true rfl) (Nat.le_of_ble_eq_true rfl) (Nat.le_of_ble_eq_true rfl) 0 (Nat.le_of_ble_eq_true rfl) ?_
  refine wp_w (w2 := mixW g (s_HN (s_HK (s_HR S (va_cpy (z_SV S) (z_HR S) 0 (p * 44) 44)) (nI (min (q + 1) 14))) (nI ((p + 1) % 14)))) rfl ?_
  refine q_aload_n dX9_setRecovery_27 rfl ?_
  refine q_get (j := 1) (v := .ref 3) dX9_setRecovery_28 (Nat.le_of_ble_eq_true rfl) rfl rfl iuX9 (Nat.le_of_ble_eq_true rfl) uw_209 rfl rfl ?_
  refine q_iload_n dX9_setRecovery_31 rfl ?_
  refine q_iload_n dX9_setRecovery_32 rfl ?_
  refine q_callVv (ν := mX7_percent) dX9_setRecovery_33 uw_452 vX7_percent (c_X7_percent_3 hG (s_HN (s_HK (s_HR S (va_cpy (z_SV S) (z_HR S) 0 (p * 44) 44)) (nI (min (q + 1) 14))) (nI ((p + 1) % 14))) (c) (d) (by omega)) (Nat.le_of_ble_eq_true rfl) rfl rfl rfl rfl (Nat.le_of_ble_eq_true rfl) (Nat.le_of_ble_eq_true rfl) (Nat.le_of_ble_eq_true rfl) 0 (Nat.le_of_ble_eq_true rfl) ?_
  refine wp_eq (st2 := .int (((z_SV S) (4 + 2 * c + d))) :: _) rfl ?_
  refine q_ist4 dX9_setRecovery_36 (Nat.le_of_ble_eq_true rfl) rfl ?_
  refine q_aload_n dX9_setRecovery_38 rfl ?_
  refine q_get (j := 1) (v := .ref 3) dX9_setRecovery_39 (Nat.le_of_ble_eq_true rfl) rfl rfl iuX9 (Nat.le_of_ble_eq_true rfl) uw_209 rfl rfl ?_
  refine q_iload_n dX9_setRecovery_42 rfl ?_
  refine q_iload_n dX9_setRecovery_43 rfl ?_
  refine q_iload_n dX9_setRecovery_44 rfl ?_
  refine q_callVu (ν := mX7_putPercent) dX9_setRecovery_45 uw_448 vX7_putPercent (c_X7_putPercent_3 hG (s_HN (s_HK (s_HR S (va_cpy (z_SV S) (z_HR S) 0 (p * 44) 44)) (nI (min (q + 1) 14))) (nI ((p + 1) % 14))) (c) (d) ((nI r)) (by omega)) (Nat.le_of_ble_eq_true rfl) rfl rfl rfl rfl (Nat.le_of_ble_eq_true rfl) (Nat.le_of_ble_eq_true rfl) (Nat.le_of_ble_eq_true rfl) 0 (Nat.le_of_ble_eq_true rfl) ?_
  refine wp_w (w2 := mixW g (s_SV (s_HN (s_HK (s_HR S (va_cpy (z_SV S) (z_HR S) 0 (p * 44) 44)) (nI (min (q + 1) 14))) (nI ((p + 1) % 14))) (upd (z_SV S) (4 + 2 * c + d) (nI r)))) rfl ?_
  refine q_iload dX9_setRecovery_48 rfl ?_
  exact q_iret dX9_setRecovery_50 rfl ⟨rfl, rfl⟩
set_option maxRecDepth 100000 in
set_option maxHeartbeats 4000000 in
theorem c_X9_setRecovery_x1 {g : G0} (hG : Gd g) (S : SS) (x : Int32) (y : Int32) (r : Int32)  (h1 : ¬ ((0 ≤ x ∧ x < (z_SV S) 0) ∧ (y = 0 ∨ y = 1))) : ctt g mX9_setRecovery [.ref 0, .int x, .int y, .int r] (mixW g S) EIO (mixW g S) := by
  refine ct_of hG [some (.ref 0), some (.int (x)), some (.int (y)), some (.int (r)), none] rfl rfl rfl (Nat.le_of_ble_eq_true rfl) (fun h => ?_) rfl
  refine q_aload_n dX9_setRecovery_0 rfl ?_
  refine q_iload_n dX9_setRecovery_1 rfl ?_
  refine q_callVx (ν := mX9_requireCell) dX9_setRecovery_2 uw_621 vX9_requireCell (c_X9_requireCell_x hG S (x)) (Nat.le_of_ble_eq_true rfl) rfl rfl rfl rfl (Nat.le_of_ble_eq_true rfl) (Nat.le_of_ble_eq_true rfl) (Nat.le_of_ble_eq_true rfl) 2 (Nat.le_of_ble_eq_true rfl) rfl (fun z => ⟨rfl, rfl⟩) (fun c2 => ?_)
  refine wp_eq (st2 := []) rfl ?_
  refine q_iload_n dX9_setRecovery_5 rfl ?_
  refine q_callSx (ν := mX9_requireOneOfTwo) dX9_setRecovery_6 uw_642 vX9_requireOneOfTwo (c_X9_requireOneOfTwo_x hG S (y)) rfl rfl (Nat.le_of_ble_eq_true rfl) (Nat.le_of_ble_eq_true rfl) (Nat.le_of_ble_eq_true rfl) 1 (Nat.le_of_ble_eq_true rfl) rfl (fun z => ⟨rfl, rfl⟩) (fun c6 => ?_)
  refine wp_eq (st2 := []) rfl ?_
  exact absurd ⟨c2, c6⟩ h1
set_option maxRecDepth 100000 in
set_option maxHeartbeats 4000000 in
theorem c_X9_setRecovery_x2 {g : G0} (hG : Gd g) (S : SS) (c : Nat) (d : Nat) (r : Int32) (N : Nat) (h1 : (z_SV S) 0 = nI N) (h2 : N ≤ 6) (h3 : c < N) (h4 : d < 2) (h5 : ¬ (0 ≤ r ∧ r ≤ 100)) : ctt g mX9_setRecovery [.ref 0, .int (nI c), .int (nI d), .int r] (mixW g S) EIA (mixW g S) := by
  refine ct_of hG [some (.ref 0), some (.int (nI c)), some (.int (nI d)), some (.int (r)), none] rfl rfl rfl (Nat.le_of_ble_eq_true rfl) (fun h => ?_) rfl
  refine q_aload_n dX9_setRecovery_0 rfl ?_
  refine q_iload_n dX9_setRecovery_1 rfl ?_
  refine q_callVx (ν := mX9_requireCell) dX9_setRecovery_2 uw_621 vX9_requireCell (c_X9_requireCell_x hG S ((nI c))) (Nat.le_of_ble_eq_true rfl) rfl rfl rfl rfl (Nat.le_of_ble_eq_true rfl) (Nat.le_of_ble_eq_true rfl) (Nat.le_of_ble_eq_true rfl) 2 (Nat.le_of_ble_eq_true rfl) rfl (fun z => (z (cel_ok h1 h2 (by omega))).elim) (fun c2 => ?_)
  refine wp_eq (st2 := []) rfl ?_
  refine q_iload_n dX9_setRecovery_5 rfl ?_
  refine q_callSx (ν := mX9_requireOneOfTwo) dX9_setRecovery_6 uw_642 vX9_requireOneOfTwo (c_X9_requireOneOfTwo_x hG S ((nI d))) rfl rfl (Nat.le_of_ble_eq_true rfl) (Nat.le_of_ble_eq_true rfl) (Nat.le_of_ble_eq_true rfl) 1 (Nat.le_of_ble_eq_true rfl) rfl (fun z => (z (two_ok (by omega))).elim) (fun c6 => ?_)
  refine wp_eq (st2 := []) rfl ?_
  refine q_iload_n dX9_setRecovery_9 rfl ?_
  refine q_iconst (v := 0) dX9_setRecovery_10 rfl ?_
  refine q_bipush (v := 100) dX9_setRecovery_11 rfl ?_
  refine q_callSx (ν := mX9_requireRange) dX9_setRecovery_13 uw_476 vX9_requireRange (c_X9_requireRange_x hG S (r) (0) (100)) rfl rfl (Nat.le_of_ble_eq_true rfl) (Nat.le_of_ble_eq_true rfl) (Nat.le_of_ble_eq_true rfl) 0 (Nat.le_of_ble_eq_true rfl) rfl (fun z => ⟨rfl, rfl⟩) (fun c13 => ?_)
  refine wp_eq (st2 := []) rfl ?_
  exact absurd c13 h5
set_option maxRecDepth 100000 in
set_option maxHeartbeats 4000000 in
theorem c_X9_setDestination {g : G0} (hG : Gd g) (S : SS) (c : Nat) (d : Nat) (r : Nat) (N : Nat) (p : Nat) (q : Nat) (h1 : (z_SV S) 0 = nI N) (h2 : N ≤ 6) (h3 : (z_HN S) = nI p) (h4 : p < 14) (h5 : (z_HK S) = nI q) (h6 : q ≤ 14) (h7 : c < N) (h8 : d < 2) (h9 : desOk r) : ctv g mX9_setDestination [.ref 0, .int (nI c), .int (nI d), .int (nI r)] (mixW g S) (.int ((z_SV S) (16 + 2 * c + d))) (mixW g (s_SV (s_HN (s_HK (s_HR S (va_cpy (z_SV S) (z_HR S) 0 (p * 44) 44)) (nI (min (q + 1) 14))) (nI ((p + 1) % 14))) (upd (z_SV S) (16 + 2 * c + d) (nI r)))) := by
  refine ct_of hG [some (.ref 0), some (.int (nI c)), some (.int (nI d)), some (.int (nI r)), none] rfl rfl rfl (Nat.le_of_ble_eq_true rfl) (fun h => ?_) rfl
  refine q_aload_n dX9_setDestination_0 rfl ?_
  refine q_iload_n dX9_setDestination_1 rfl ?_
  refine q_callVx (ν := mX9_requireCell) dX9_setDestination_2 uw_621 vX9_requireCell (c_X9_requireCell_x hG S ((nI c))) (Nat.le_of_ble_eq_true rfl) rfl rfl rfl rfl (Nat.le_of_ble_eq_true rfl) (Nat.le_of_ble_eq_true rfl) (Nat.le_of_ble_eq_true rfl) 2 (Nat.le_of_ble_eq_true rfl) rfl (fun z => (z (cel_ok h1 h2 (by omega))).elim) (fun c2 => ?_)
  refine wp_eq (st2 := []) rfl ?_
  refine q_iload_n dX9_setDestination_5 rfl ?_
  refine q_callSx (ν := mX9_requireOneOfTwo) dX9_setDestination_6 uw_642 vX9_requireOneOfTwo (c_X9_requireOneOfTwo_x hG S ((nI d))) rfl rfl (Nat.le_of_ble_eq_true rfl) (Nat.le_of_ble_eq_true rfl) (Nat.le_of_ble_eq_true rfl) 1 (Nat.le_of_ble_eq_true rfl) rfl (fun z => (z (two_ok (by omega))).elim) (fun c6 => ?_)
  refine wp_eq (st2 := []) rfl ?_
  refine q_iload_n dX9_setDestination_9 rfl ?_
  refine q_callSx (ν := mX9_requireDestination) dX9_setDestination_10 uw_669 vX9_requireDestination (c_X9_requireDestination_x hG S ((nI r))) rfl rfl (Nat.le_of_ble_eq_true rfl) (Nat.le_of_ble_eq_true rfl) (Nat.le_of_ble_eq_true rfl) 0 (Nat.le_of_ble_eq_true rfl) rfl (fun z => (z (des_ok h9)).elim) (fun c10 => ?_)
  refine wp_eq (st2 := []) rfl ?_
  refine q_aload_n dX9_setDestination_13 rfl ?_
  refine q_get (j := 3) (v := .ref 7) dX9_setDestination_14 (Nat.le_of_ble_eq_true rfl) rfl rfl iuX9 (Nat.le_of_ble_eq_true rfl) uw_211 rfl rfl ?_
  refine q_aload_n dX9_setDestination_17 rfl ?_
  refine q_get (j := 1) (v := .ref 3) dX9_setDestination_18 (Nat.le_of_ble_eq_true rfl) rfl rfl iuX9 (Nat.le_of_ble_eq_true rfl) uw_209 rfl rfl ?_
  refine q_callVu (ν := mX2_remember) dX9_setDestination_21 uw_296 vX2_remember (c_X2_remember hG S (p) (q) h3 h4 h5 h6) (Nat.le_of_ble_eq_true rfl) rfl rfl rfl rfl (Nat.le_of_ble_eq_true rfl) (Nat.le_of_ble_eq_true rfl) (Nat.le_of_ble_eq_true rfl) 0 (Nat.le_of_ble_eq_true rfl) ?_
  refine wp_w (w2 := mixW g (s_HN (s_HK (s_HR S (va_cpy (z_SV S) (z_HR S) 0 (p * 44) 44)) (nI (min (q + 1) 14))) (nI ((p + 1) % 14)))) rfl ?_
  refine q_aload_n dX9_setDestination_24 rfl ?_
  refine q_get (j := 1) (v := .ref 3) dX9_setDestination_25 (Nat.le_of_ble_eq_true rfl) rfl rfl iuX9 (Nat.le_of_ble_eq_true rfl) uw_209 rfl rfl ?_
  refine q_iload_n dX9_setDestination_28 rfl ?_
  refine q_iload_n dX9_setDestination_29 rfl ?_
  refine q_callVv (ν := mX7_route) dX9_setDestination_30 uw_653 vX7_route (c_X7_route_3 hG (s_HN (s_HK (s_HR S (va_cpy (z_SV S) (z_HR S) 0 (p * 44) 44)) (nI (min (q + 1) 14))) (nI ((p + 1) % 14))) (c) (d) (by omega)) (Nat.le_of_ble_eq_true rfl) rfl rfl rfl rfl (Nat.le_of_ble_eq_true rfl) (Nat.le_of_ble_eq_true rfl) (Nat.le_of_ble_eq_true rfl) 0 (Nat.le_of_ble_eq_true rfl) ?_
  refine wp_eq (st2 := .int (((z_SV S) (16 + 2 * c + d))) :: _) rfl ?_
  refine q_ist4 dX9_setDestination_33 (Nat.le_of_ble_eq_true rfl) rfl ?_
  refine q_aload_n dX9_setDestination_35 rfl ?_
  refine q_get (j := 1) (v := .ref 3) dX9_setDestination_36 (Nat.le_of_ble_eq_true rfl) rfl rfl iuX9 (Nat.le_of_ble_eq_true rfl) uw_209 rfl rfl ?_
  refine q_iload_n dX9_setDestination_39 rfl ?_
  refine q_iload_n dX9_setDestination_40 rfl ?_
  refine q_iload_n dX9_setDestination_41 rfl ?_
  refine q_callVu (ν := mX7_putRoute) dX9_setDestination_42 uw_702 vX7_putRoute (c_X7_putRoute_3 hG (s_HN (s_HK (s_HR S (va_cpy (z_SV S) (z_HR S) 0 (p * 44) 44)) (nI (min (q + 1) 14))) (nI ((p + 1) % 14))) (c) (d) ((nI r)) (by omega)) (Nat.le_of_ble_eq_true rfl) rfl rfl rfl rfl (Nat.le_of_ble_eq_true rfl) (Nat.le_of_ble_eq_true rfl) (Nat.le_of_ble_eq_true rfl) 0 (Nat.le_of_ble_eq_true rfl) ?_
  refine wp_w (w2 := mixW g (s_SV (s_HN (s_HK (s_HR S (va_cpy (z_SV S) (z_HR S) 0 (p * 44) 44)) (nI (min (q + 1) 14))) (nI ((p + 1) % 14))) (upd (z_SV S) (16 + 2 * c + d) (nI r)))) rfl ?_
  refine q_iload dX9_setDestination_45 rfl ?_
  exact q_iret dX9_setDestination_47 rfl ⟨rfl, rfl⟩
set_option maxRecDepth 100000 in
set_option maxHeartbeats 4000000 in
theorem c_X9_setDestination_x1 {g : G0} (hG : Gd g) (S : SS) (x : Int32) (y : Int32) (r : Int32)  (h1 : ¬ ((0 ≤ x ∧ x < (z_SV S) 0) ∧ (y = 0 ∨ y = 1))) : ctt g mX9_setDestination [.ref 0, .int x, .int y, .int r] (mixW g S) EIO (mixW g S) := by
  refine ct_of hG [some (.ref 0), some (.int (x)), some (.int (y)), some (.int (r)), none] rfl rfl rfl (Nat.le_of_ble_eq_true rfl) (fun h => ?_) rfl
  refine q_aload_n dX9_setDestination_0 rfl ?_
  refine q_iload_n dX9_setDestination_1 rfl ?_
  refine q_callVx (ν := mX9_requireCell) dX9_setDestination_2 uw_621 vX9_requireCell (c_X9_requireCell_x hG S (x)) (Nat.le_of_ble_eq_true rfl) rfl rfl rfl rfl (Nat.le_of_ble_eq_true rfl) (Nat.le_of_ble_eq_true rfl) (Nat.le_of_ble_eq_true rfl) 2 (Nat.le_of_ble_eq_true rfl) rfl (fun z => ⟨rfl, rfl⟩) (fun c2 => ?_)
  refine wp_eq (st2 := []) rfl ?_
  refine q_iload_n dX9_setDestination_5 rfl ?_
  refine q_callSx (ν := mX9_requireOneOfTwo) dX9_setDestination_6 uw_642 vX9_requireOneOfTwo (c_X9_requireOneOfTwo_x hG S (y)) rfl rfl (Nat.le_of_ble_eq_true rfl) (Nat.le_of_ble_eq_true rfl) (Nat.le_of_ble_eq_true rfl) 1 (Nat.le_of_ble_eq_true rfl) rfl (fun z => ⟨rfl, rfl⟩) (fun c6 => ?_)
  refine wp_eq (st2 := []) rfl ?_
  exact absurd ⟨c2, c6⟩ h1
set_option maxRecDepth 100000 in
set_option maxHeartbeats 4000000 in
theorem c_X9_setDestination_x2 {g : G0} (hG : Gd g) (S : SS) (c : Nat) (d : Nat) (r : Int32) (N : Nat) (h1 : (z_SV S) 0 = nI N) (h2 : N ≤ 6) (h3 : c < N) (h4 : d < 2) (h5 : ¬ ((r = 8 ∨ r = 9) ∨ (0 ≤ r ∧ r < 6))) : ctt g mX9_setDestination [.ref 0, .int (nI c), .int (nI d), .int r] (mixW g S) EIA (mixW g S) := by
  refine ct_of hG [some (.ref 0), some (.int (nI c)), some (.int (nI d)), some (.int (r)), none] rfl rfl rfl (Nat.le_of_ble_eq_true rfl) (fun h => ?_) rfl
  refine q_aload_n dX9_setDestination_0 rfl ?_
  refine q_iload_n dX9_setDestination_1 rfl ?_
  refine q_callVx (ν := mX9_requireCell) dX9_setDestination_2 uw_621 vX9_requireCell (c_X9_requireCell_x hG S ((nI c))) (Nat.le_of_ble_eq_true rfl) rfl rfl rfl rfl (Nat.le_of_ble_eq_true rfl) (Nat.le_of_ble_eq_true rfl) (Nat.le_of_ble_eq_true rfl) 2 (Nat.le_of_ble_eq_true rfl) rfl (fun z => (z (cel_ok h1 h2 (by omega))).elim) (fun c2 => ?_)
  refine wp_eq (st2 := []) rfl ?_
  refine q_iload_n dX9_setDestination_5 rfl ?_
  refine q_callSx (ν := mX9_requireOneOfTwo) dX9_setDestination_6 uw_642 vX9_requireOneOfTwo (c_X9_requireOneOfTwo_x hG S ((nI d))) rfl rfl (Nat.le_of_ble_eq_true rfl) (Nat.le_of_ble_eq_true rfl) (Nat.le_of_ble_eq_true rfl) 1 (Nat.le_of_ble_eq_true rfl) rfl (fun z => (z (two_ok (by omega))).elim) (fun c6 => ?_)
  refine wp_eq (st2 := []) rfl ?_
  refine q_iload_n dX9_setDestination_9 rfl ?_
  refine q_callSx (ν := mX9_requireDestination) dX9_setDestination_10 uw_669 vX9_requireDestination (c_X9_requireDestination_x hG S (r)) rfl rfl (Nat.le_of_ble_eq_true rfl) (Nat.le_of_ble_eq_true rfl) (Nat.le_of_ble_eq_true rfl) 0 (Nat.le_of_ble_eq_true rfl) rfl (fun z => ⟨rfl, rfl⟩) (fun c10 => ?_)
  refine wp_eq (st2 := []) rfl ?_
  exact absurd c10 h5
set_option maxRecDepth 100000 in
set_option maxHeartbeats 4000000 in
theorem c_X9_setFeed {g : G0} (hG : Gd g) (S : SS) (c : Nat) (a : Nat) (b : Nat) (N : Nat) (p : Nat) (q : Nat) (h1 : (z_SV S) 0 = nI N) (h2 : N ≤ 6) (h3 : (z_HN S) = nI p) (h4 : p < 14) (h5 : (z_HK S) = nI q) (h6 : q ≤ 14) (h7 : c ≤ 5) (h8 : a ≤ 999) (h9 : b ≤ 999) : ctv g mX9_setFeed [.ref 0, .int (nI c), .int (nI a), .int (nI b)] (mixW g S) (.int ((z_SV S) 1)) (mixW g (s_SV (s_HN (s_HK (s_HR S (va_cpy (z_SV S) (z_HR S) 0 (p * 44) 44)) (nI (min (q + 1) 14))) (nI ((p + 1) % 14))) (upd (upd (upd (z_SV S) 1 (nI c)) 2 (nI a)) 3 (nI b)))) := by
  refine ct_of hG [some (.ref 0), some (.int (nI c)), some (.int (nI a)), some (.int (nI b)), none] rfl rfl rfl (Nat.le_of_ble_eq_true rfl) (fun h => ?_) rfl
  refine q_iload_n dX9_setFeed_0 rfl ?_
  refine q_iconst (v := 0) dX9_setFeed_1 rfl ?_
  refine q_iconst (v := 5) dX9_setFeed_2 rfl ?_
  refine q_callSx (ν := mX9_requireRange) dX9_setFeed_3 uw_476 vX9_requireRange (c_X9_requireRange_x hG S ((nI c)) (0) (5)) rfl rfl (Nat.le_of_ble_eq_true rfl) (Nat.le_of_ble_eq_true rfl) (Nat.le_of_ble_eq_true rfl) 2 (Nat.le_of_ble_eq_true rfl) rfl (fun z => (z (rng_ok (lo := 0) (hi := 5) (by omega) (by omega) (by omega))).elim) (fun c3 => ?_)
  refine wp_eq (st2 := []) rfl ?_
  refine q_iload_n dX9_setFeed_6 rfl ?_
  refine q_iconst (v := 0) dX9_setFeed_7 rfl ?_
  refine q_sipush (v := 999) dX9_setFeed_8 rfl ?_
  refine q_callSx (ν := mX9_requireRange) dX9_setFeed_11 uw_476 vX9_requireRange (c_X9_requireRange_x hG S ((nI a)) (0) (999)) rfl rfl (Nat.le_of_ble_eq_true rfl) (Nat.le_of_ble_eq_true rfl) (Nat.le_of_ble_eq_true rfl) 1 (Nat.le_of_ble_eq_true rfl) rfl (fun z => (z (rng_ok (lo := 0) (hi := 999) (by omega) (by omega) (by omega))).elim) (fun c11 => ?_)
  refine wp_eq (st2 := []) rfl ?_
  refine q_iload_n dX9_setFeed_14 rfl ?_
  refine q_iconst (v := 0) dX9_setFeed_15 rfl ?_
  refine q_sipush (v := 999) dX9_setFeed_16 rfl ?_
  refine q_callSx (ν := mX9_requireRange) dX9_setFeed_19 uw_476 vX9_requireRange (c_X9_requireRange_x hG S ((nI b)) (0) (999)) rfl rfl (Nat.le_of_ble_eq_true rfl) (Nat.le_of_ble_eq_true rfl) (Nat.le_of_ble_eq_true rfl) 0 (Nat.le_of_ble_eq_true rfl) rfl (fun z => (z (rng_ok (lo := 0) (hi := 999) (by omega) (by omega) (by omega))).elim) (fun c19 => ?_)
  refine wp_eq (st2 := []) rfl ?_
  refine q_aload_n dX9_setFeed_22 rfl ?_
  refine q_get (j := 3) (v := .ref 7) dX9_setFeed_23 (Nat.le_of_ble_eq_true rfl) rfl rfl iuX9 (Nat.le_of_ble_eq_true rfl) uw_211 rfl rfl ?_
  refine q_aload_n dX9_setFeed_26 rfl ?_
  refine q_get (j := 1) (v := .ref 3) dX9_setFeed_27 (Nat.le_of_ble_eq_true rfl) rfl rfl iuX9 (Nat.le_of_ble_eq_true rfl) uw_209 rfl rfl ?_
  refine q_callVu (ν := mX2_remember) dX9_setFeed_30 uw_296 vX2_remember (c_X2_remember hG S (p) (q) h3 h4 h5 h6) (Nat.le_of_ble_eq_true rfl) rfl rfl rfl rfl (Nat.le_of_ble_eq_true rfl) (Nat.le_of_ble_eq_true rfl) (Nat.le_of_ble_eq_true rfl) 0 (Nat.le_of_ble_eq_true rfl) ?_
  refine wp_w (w2 := mixW g (s_HN (s_HK (s_HR S (va_cpy (z_SV S) (z_HR S) 0 (p * 44) 44)) (nI (min (q + 1) 14))) (nI ((p + 1) % 14)))) rfl ?_
  refine q_aload_n dX9_setFeed_33 rfl ?_
  refine q_get (j := 1) (v := .ref 3) dX9_setFeed_34 (Nat.le_of_ble_eq_true rfl) rfl rfl iuX9 (Nat.le_of_ble_eq_true rfl) uw_209 rfl rfl ?_
  refine q_callVv (ν := mX7_fedCell) dX9_setFeed_37 uw_288 vX7_fedCell (c_X7_fedCell_3 hG (s_HN (s_HK (s_HR S (va_cpy (z_SV S) (z_HR S) 0 (p * 44) 44)) (nI (min (q + 1) 14))) (nI ((p + 1) % 14))) ) (Nat.le_of_ble_eq_true rfl) rfl rfl rfl rfl (Nat.le_of_ble_eq_true rfl) (Nat.le_of_ble_eq_true rfl) (Nat.le_of_ble_eq_true rfl) 0 (Nat.le_of_ble_eq_true rfl) ?_
  refine wp_eq (st2 := .int (((z_SV S) 1)) :: _) rfl ?_
  refine q_ist4 dX9_setFeed_40 (Nat.le_of_ble_eq_true rfl) rfl ?_
  refine q_aload_n dX9_setFeed_42 rfl ?_
  refine q_get (j := 1) (v := .ref 3) dX9_setFeed_43 (Nat.le_of_ble_eq_true rfl) rfl rfl iuX9 (Nat.le_of_ble_eq_true rfl) uw_209 rfl rfl ?_
  refine q_iload_n dX9_setFeed_46 rfl ?_
  refine q_iload_n dX9_setFeed_47 rfl ?_
  refine q_iload_n dX9_setFeed_48 rfl ?_
  refine q_callVu (ν := mX7_putFeed) dX9_setFeed_49 uw_710 vX7_putFeed (c_X7_putFeed_3 hG (s_HN (s_HK (s_HR S (va_cpy (z_SV S) (z_HR S) 0 (p * 44) 44)) (nI (min (q + 1) 14))) (nI ((p + 1) % 14))) ((nI c)) ((nI a)) ((nI b))) (Nat.le_of_ble_eq_true rfl) rfl rfl rfl rfl (Nat.le_of_ble_eq_true rfl) (Nat.le_of_ble_eq_true rfl) (Nat.le_of_ble_eq_true rfl) 0 (Nat.le_of_ble_eq_true rfl) ?_
  refine wp_w (w2 := mixW g (s_SV (s_HN (s_HK (s_HR S (va_cpy (z_SV S) (z_HR S) 0 (p * 44) 44)) (nI (min (q + 1) 14))) (nI ((p + 1) % 14))) (upd (upd (upd (z_SV S) 1 (nI c)) 2 (nI a)) 3 (nI b)))) rfl ?_
  refine q_iload dX9_setFeed_52 rfl ?_
  exact q_iret dX9_setFeed_54 rfl ⟨rfl, rfl⟩
set_option maxRecDepth 100000 in
set_option maxHeartbeats 4000000 in
theorem c_X9_setFeed_x {g : G0} (hG : Gd g) (S : SS) (c : Int32) (a : Int32) (b : Int32)  (h1 : ¬ ((0 ≤ c ∧ c ≤ 5) ∧ (0 ≤ a ∧ a ≤ 999) ∧ (0 ≤ b ∧ b ≤ 999))) : ctt g mX9_setFeed [.ref 0, .int c, .int a, .int b] (mixW g S) EIA (mixW g S) := by
  refine ct_of hG [some (.ref 0), some (.int (c)), some (.int (a)), some (.int (b)), none] rfl rfl rfl (Nat.le_of_ble_eq_true rfl) (fun h => ?_) rfl
  refine q_iload_n dX9_setFeed_0 rfl ?_
  refine q_iconst (v := 0) dX9_setFeed_1 rfl ?_
  refine q_iconst (v := 5) dX9_setFeed_2 rfl ?_
  refine q_callSx (ν := mX9_requireRange) dX9_setFeed_3 uw_476 vX9_requireRange (c_X9_requireRange_x hG S (c) (0) (5)) rfl rfl (Nat.le_of_ble_eq_true rfl) (Nat.le_of_ble_eq_true rfl) (Nat.le_of_ble_eq_true rfl) 2 (Nat.le_of_ble_eq_true rfl) rfl (fun z => ⟨rfl, rfl⟩) (fun c3 => ?_)
  refine wp_eq (st2 := []) rfl ?_
  refine q_iload_n dX9_setFeed_6 rfl ?_
  refine q_iconst (v := 0) dX9_setFeed_7 rfl ?_
  refine q_sipush (v := 999) dX9_setFeed_8 rfl ?_
  refine q_callSx (ν := mX9_requireRange) dX9_setFeed_11 uw_476 vX9_requireRange (c_X9_requireRange_x hG S (a) (0) (999)) rfl rfl (Nat.le_of_ble_eq_true rfl) (Nat.le_of_ble_eq_true rfl) (Nat.le_of_ble_eq_true rfl) 1 (Nat.le_of_ble_eq_true rfl) rfl (fun z => ⟨rfl, rfl⟩) (fun c11 => ?_)
  refine wp_eq (st2 := []) rfl ?_
  refine q_iload_n dX9_setFeed_14 rfl ?_
  refine q_iconst (v := 0) dX9_setFeed_15 rfl ?_
  refine q_sipush (v := 999) dX9_setFeed_16 rfl ?_
  refine q_callSx (ν := mX9_requireRange) dX9_setFeed_19 uw_476 vX9_requireRange (c_X9_requireRange_x hG S (b) (0) (999)) rfl rfl (Nat.le_of_ble_eq_true rfl) (Nat.le_of_ble_eq_true rfl) (Nat.le_of_ble_eq_true rfl) 0 (Nat.le_of_ble_eq_true rfl) rfl (fun z => ⟨rfl, rfl⟩) (fun c19 => ?_)
  refine wp_eq (st2 := []) rfl ?_
  exact absurd ⟨c3, c11, c19⟩ h1
set_option maxRecDepth 100000 in
set_option maxHeartbeats 4000000 in
theorem c_X9_drain {g : G0} (hG : Gd g) (S : SS)  (N : Nat) (p : Nat) (q : Nat) (h1 : (z_SV S) 0 = nI N) (h2 : N ≤ 6) (h3 : (z_HN S) = nI p) (h4 : p < 14) (h5 : (z_HK S) = nI q) (h6 : q ≤ 14) : ctv g mX9_drain [.ref 0] (mixW g S) (.int (sumC (z_SV S) N)) (mixW g (s_SV (s_HN (s_HK (s_HR S (va_cpy (z_SV S) (z_HR S) 0 (p * 44) 44)) (nI (min (q + 1) 14))) (nI ((p + 1) % 14))) (zerF (z_SV S) 44))) := by
  refine ct_of hG [some (.ref 0), none] rfl rfl rfl (Nat.le_of_ble_eq_true rfl) (fun h => ?_) rfl
  refine q_aload_n dX9_drain_0 rfl ?_
  refine q_get (j := 3) (v := .ref 7) dX9_drain_1 (Nat.le_of_ble_eq_true rfl) rfl rfl iuX9 (Nat.le_of_ble_eq_true rfl) uw_211 rfl rfl ?_
  refine q_aload_n dX9_drain_4 rfl ?_
  refine q_get (j := 1) (v := .ref 3) dX9_drain_5 (Nat.le_of_ble_eq_true rfl) rfl rfl iuX9 (Nat.le_of_ble_eq_true rfl) uw_209 rfl rfl ?_
  refine q_callVu (ν := mX2_remember) dX9_drain_8 uw_296 vX2_remember (c_X2_remember hG S (p) (q) h3 h4 h5 h6) (Nat.le_of_ble_eq_true rfl) rfl rfl rfl rfl (Nat.le_of_ble_eq_true rfl) (Nat.le_of_ble_eq_true rfl) (Nat.le_of_ble_eq_true rfl) 0 (Nat.le_of_ble_eq_true rfl) ?_
  refine wp_w (w2 := mixW g (s_HN (s_HK (s_HR S (va_cpy (z_SV S) (z_HR S) 0 (p * 44) 44)) (nI (min (q + 1) 14))) (nI ((p + 1) % 14)))) rfl ?_
  refine q_aload_n dX9_drain_11 rfl ?_
  refine q_get (j := 1) (v := .ref 3) dX9_drain_12 (Nat.le_of_ble_eq_true rfl) rfl rfl iuX9 (Nat.le_of_ble_eq_true rfl) uw_209 rfl rfl ?_
  refine q_callVv (ν := mX7_sumOfContents) dX9_drain_15 uw_310 vX7_sumOfContents (c_X7_sumOfContents_3 hG (s_HN (s_HK (s_HR S (va_cpy (z_SV S) (z_HR S) 0 (p * 44) 44)) (nI (min (q + 1) 14))) (nI ((p + 1) % 14))) (N) h1 h2) (Nat.le_of_ble_eq_true rfl) rfl rfl rfl rfl (Nat.le_of_ble_eq_true rfl) (Nat.le_of_ble_eq_true rfl) (Nat.le_of_ble_eq_true rfl) 0 (Nat.le_of_ble_eq_true rfl) ?_
  refine wp_eq (st2 := .int ((sumC (z_SV S) N)) :: _) rfl ?_
  refine q_ist1 dX9_drain_18 (Nat.le_of_ble_eq_true rfl) rfl ?_
  refine q_aload_n dX9_drain_19 rfl ?_
  refine q_get (j := 1) (v := .ref 3) dX9_drain_20 (Nat.le_of_ble_eq_true rfl) rfl rfl iuX9 (Nat.le_of_ble_eq_true rfl) uw_209 rfl rfl ?_
  refine q_callVu (ν := mX7_emptyAll) dX9_drain_23 uw_318 vX7_emptyAll (c_X7_emptyAll_3 hG (s_HN (s_HK (s_HR S (va_cpy (z_SV S) (z_HR S) 0 (p * 44) 44)) (nI (min (q + 1) 14))) (nI ((p + 1) % 14))) ) (Nat.le_of_ble_eq_true rfl) rfl rfl rfl rfl (Nat.le_of_ble_eq_true rfl) (Nat.le_of_ble_eq_true rfl) (Nat.le_of_ble_eq_true rfl) 0 (Nat.le_of_ble_eq_true rfl) ?_
  refine wp_w (w2 := mixW g (s_SV (s_HN (s_HK (s_HR S (va_cpy (z_SV S) (z_HR S) 0 (p * 44) 44)) (nI (min (q + 1) 14))) (nI ((p + 1) % 14))) (zerF (z_SV S) 44))) rfl ?_
  refine q_iload_n dX9_drain_26 rfl ?_
  exact q_iret dX9_drain_27 rfl ⟨rfl, rfl⟩
set_option maxRecDepth 100000 in
set_option maxHeartbeats 4000000 in
theorem c_X9_undo {g : G0} (hG : Gd g) (S : SS)  (p : Nat) (q : Nat) (h1 : (z_HN S) = nI p) (h2 : p < 14) (h3 : (z_HK S) = nI q) (h4 : 0 < q) (h5 : q ≤ 14) : ctv g mX9_undo [.ref 0] (mixW g S) (.int (nI (q - 1))) (mixW g (s_SV (s_HN (s_HK S (nI (q - 1))) (nI ((p + 13) % 14))) (va_cpy (z_HR S) (z_SV S) (((p + 13) % 14) * 44) 0 44))) := by
  refine ct_of hG [some (.ref 0)] rfl rfl rfl (Nat.le_of_ble_eq_true rfl) (fun h => ?_) rfl
  refine q_aload_n dX9_undo_0 rfl ?_
  refine q_get (j := 3) (v := .ref 7) dX9_undo_1 (Nat.le_of_ble_eq_true rfl) rfl rfl iuX9 (Nat.le_of_ble_eq_true rfl) uw_211 rfl rfl ?_
  refine q_callVv (ν := mX2_size) dX9_undo_4 uw_750 vX2_size (c_X2_size hG S ) (Nat.le_of_ble_eq_true rfl) rfl rfl rfl rfl (Nat.le_of_ble_eq_true rfl) (Nat.le_of_ble_eq_true rfl) (Nat.le_of_ble_eq_true rfl) 1 (Nat.le_of_ble_eq_true rfl) ?_
  refine wp_top (y := nI q) h3 ?_
  refine q_if_gt 20 dX9_undo_7 rfl (fun c7 => ?_) (fun c7 => ?_)
  · have n7 := (nI_ltI (a := 0) (b := q) (by omega) (by omega)).mp c7
    refine q_aload_n dX9_undo_20 rfl ?_
    refine q_get (j := 3) (v := .ref 7) dX9_undo_21 (Nat.le_of_ble_eq_true rfl) rfl rfl iuX9 (Nat.le_of_ble_eq_true rfl) uw_211 rfl rfl ?_
    refine q_aload_n dX9_undo_24 rfl ?_
    refine q_get (j := 1) (v := .ref 3) dX9_undo_25 (Nat.le_of_ble_eq_true rfl) rfl rfl iuX9 (Nat.le_of_ble_eq_true rfl) uw_209 rfl rfl ?_
    refine q_callVu (ν := mX2_takeBack) dX9_undo_28 uw_755 vX2_takeBack (c_X2_takeBack hG S (p) (q) h1 h2 h3 h4 h5) (Nat.le_of_ble_eq_true rfl) rfl rfl rfl rfl (Nat.le_of_ble_eq_true rfl) (Nat.le_of_ble_eq_true rfl) (Nat.le_of_ble_eq_true rfl) 1 (Nat.le_of_ble_eq_true rfl) ?_
    refine wp_w (w2 := mixW g (s_SV (s_HN (s_HK S (nI (q - 1))) (nI ((p + 13) % 14))) (va_cpy (z_HR S) (z_SV S) (((p + 13) % 14) * 44) 0 44))) rfl ?_
    refine q_aload_n dX9_undo_31 rfl ?_
    refine q_get (j := 3) (v := .ref 7) dX9_undo_32 (Nat.le_of_ble_eq_true rfl) rfl rfl iuX9 (Nat.le_of_ble_eq_true rfl) uw_211 rfl rfl ?_
    refine q_callVv (ν := mX2_size) dX9_undo_35 uw_750 vX2_size (c_X2_size hG (s_SV (s_HN (s_HK S (nI (q - 1))) (nI ((p + 13) % 14))) (va_cpy (z_HR S) (z_SV S) (((p + 13) % 14) * 44) 0 44)) ) (Nat.le_of_ble_eq_true rfl) rfl rfl rfl rfl (Nat.le_of_ble_eq_true rfl) (Nat.le_of_ble_eq_true rfl) (Nat.le_of_ble_eq_true rfl) 1 (Nat.le_of_ble_eq_true rfl) ?_
    refine wp_eq (st2 := .int (((nI (q - 1)))) :: _) rfl ?_
    exact q_iret dX9_undo_38 rfl ⟨rfl, rfl⟩
  · have n7 := mt (nI_ltI (a := 0) (b := q) (by omega) (by omega)).mpr c7
    omega
set_option maxRecDepth 100000 in
set_option maxHeartbeats 4000000 in
theorem c_X9_undo_x {g : G0} (hG : Gd g) (S : SS)   (h1 : (z_HK S) = nI 0) : ctt g mX9_undo [.ref 0] (mixW g S) EIS (mixW g S) := by
  refine ct_of hG [some (.ref 0)] rfl rfl rfl (Nat.le_of_ble_eq_true rfl) (fun h => ?_) rfl
  refine q_aload_n dX9_undo_0 rfl ?_
  refine q_get (j := 3) (v := .ref 7) dX9_undo_1 (Nat.le_of_ble_eq_true rfl) rfl rfl iuX9 (Nat.le_of_ble_eq_true rfl) uw_211 rfl rfl ?_
  refine q_callVv (ν := mX2_size) dX9_undo_4 uw_750 vX2_size (c_X2_size hG S ) (Nat.le_of_ble_eq_true rfl) rfl rfl rfl rfl (Nat.le_of_ble_eq_true rfl) (Nat.le_of_ble_eq_true rfl) (Nat.le_of_ble_eq_true rfl) 1 (Nat.le_of_ble_eq_true rfl) ?_
  refine wp_top (y := nI 0) h1 ?_
  refine q_if_gt 20 dX9_undo_7 rfl (fun c7 => ?_) (fun c7 => ?_)
  · have n7 := (nI_ltI (a := 0) (b := 0) (by omega) (by omega)).mp c7
    omega
  · have n7 := mt (nI_ltI (a := 0) (b := 0) (by omega) (by omega)).mpr c7
    exact q_throw dX9_undo_10 dX9_undo_13 dX9_undo_14 dX9_undo_16 dX9_undo_19 uw_551 uw_54 (List.mem_of_getElem? (i := 8) rfl) okT_IS rfl rfl (Nat.le_of_ble_eq_true rfl) (Nat.le_of_ble_eq_true rfl) (Nat.le_of_ble_eq_true rfl) (Nat.le_of_ble_eq_true rfl) ⟨rfl, rfl⟩
set_option maxRecDepth 100000 in
set_option maxHeartbeats 4000000 in
theorem c_X9_save {g : G0} (hG : Gd g) (S : SS) (s : Nat)  (h1 : s < 2) : ctv g mX9_save [.ref 0, .int (nI s)] (mixW g S) (.int ((z_SV S) 0)) (mixW g (s_SL (s_SF S (upd (z_SF S) s 1)) (va_cpy (z_SV S) (z_SL S) 0 (s * 44) 44))) := by
  refine ct_of hG [some (.ref 0), some (.int (nI s))] rfl rfl rfl (Nat.le_of_ble_eq_true rfl) (fun h => ?_) rfl
  refine q_iload_n dX9_save_0 rfl ?_
  refine q_callSx (ν := mX9_requireOneOfTwo) dX9_save_1 uw_642 vX9_requireOneOfTwo (c_X9_requireOneOfTwo_x hG S ((nI s))) rfl rfl (Nat.le_of_ble_eq_true rfl) (Nat.le_of_ble_eq_true rfl) (Nat.le_of_ble_eq_true rfl) 0 (Nat.le_of_ble_eq_true rfl) rfl (fun z => (z (two_ok (by omega))).elim) (fun c1 => ?_)
  refine wp_eq (st2 := []) rfl ?_
  refine q_aload_n dX9_save_4 rfl ?_
  refine q_get (j := 4) (v := .ref 10) dX9_save_5 (Nat.le_of_ble_eq_true rfl) rfl rfl iuX9 (Nat.le_of_ble_eq_true rfl) uw_212 rfl rfl ?_
  refine q_iload_n dX9_save_8 rfl ?_
  refine q_aload_n dX9_save_9 rfl ?_
  refine q_get (j := 1) (v := .ref 3) dX9_save_10 (Nat.le_of_ble_eq_true rfl) rfl rfl iuX9 (Nat.le_of_ble_eq_true rfl) uw_209 rfl rfl ?_
  refine q_callVu (ν := mX8_put) dX9_save_13 uw_908 vX8_put (c_X8_put_10 hG S (s) (by omega)) (Nat.le_of_ble_eq_true rfl) rfl rfl rfl rfl (Nat.le_of_ble_eq_true rfl) (Nat.le_of_ble_eq_true rfl) (Nat.le_of_ble_eq_true rfl) 0 (Nat.le_of_ble_eq_true rfl) ?_
  refine wp_w (w2 := mixW g (s_SL S (va_cpy (z_SV S) (z_SL S) 0 (s * 44) 44))) rfl ?_
  refine q_aload_n dX9_save_16 rfl ?_
  refine q_get (j := 5) (v := .ref 12) dX9_save_17 (Nat.le_of_ble_eq_true rfl) rfl rfl iuX9 (Nat.le_of_ble_eq_true rfl) uw_213 rfl rfl ?_
  refine q_iload_n dX9_save_20 rfl ?_
  refine q_iconst (v := 1) dX9_save_21 rfl ?_
  refine q_zast (f := (z_SF S)) (y := 1) dX9_save_22 (Nat.le_of_ble_eq_true rfl) rfl (s) rfl (by omega) (Nat.le_of_ble_eq_true rfl) rfl ?_
  refine wp_w (u_SF g _ _) ?_
  rw [sc_SF_SL]
  refine q_aload_n dX9_save_23 rfl ?_
  refine q_get (j := 1) (v := .ref 3) dX9_save_24 (Nat.le_of_ble_eq_true rfl) rfl rfl iuX9 (Nat.le_of_ble_eq_true rfl) uw_209 rfl rfl ?_
  refine q_callVv (ν := mX7_count) dX9_save_27 uw_280 vX7_count (c_X7_count_3 hG (s_SL (s_SF S (upd (z_SF S) (s) (1))) (va_cpy (z_SV S) (z_SL S) 0 (s * 44) 44)) ) (Nat.le_of_ble_eq_true rfl) rfl rfl rfl rfl (Nat.le_of_ble_eq_true rfl) (Nat.le_of_ble_eq_true rfl) (Nat.le_of_ble_eq_true rfl) 0 (Nat.le_of_ble_eq_true rfl) ?_
  refine wp_eq (st2 := .int (((z_SV S) 0)) :: _) rfl ?_
  exact q_iret dX9_save_30 rfl ⟨rfl, rfl⟩
set_option maxRecDepth 100000 in
set_option maxHeartbeats 4000000 in
theorem c_X9_save_x {g : G0} (hG : Gd g) (S : SS) (y : Int32)  (h1 : ¬ (y = 0 ∨ y = 1)) : ctt g mX9_save [.ref 0, .int y] (mixW g S) EIO (mixW g S) := by
  refine ct_of hG [some (.ref 0), some (.int (y))] rfl rfl rfl (Nat.le_of_ble_eq_true rfl) (fun h => ?_) rfl
  refine q_iload_n dX9_save_0 rfl ?_
  refine q_callSx (ν := mX9_requireOneOfTwo) dX9_save_1 uw_642 vX9_requireOneOfTwo (c_X9_requireOneOfTwo_x hG S (y)) rfl rfl (Nat.le_of_ble_eq_true rfl) (Nat.le_of_ble_eq_true rfl) (Nat.le_of_ble_eq_true rfl) 0 (Nat.le_of_ble_eq_true rfl) rfl (fun z => ⟨rfl, rfl⟩) (fun c1 => ?_)
  refine wp_eq (st2 := []) rfl ?_
  exact absurd c1 h1
set_option maxRecDepth 100000 in
set_option maxHeartbeats 4000000 in
theorem c_X9_restore {g : G0} (hG : Gd g) (S : SS) (s : Nat)  (h1 : s < 2) (h2 : ¬ (z_SF S) s = 0) : ctv g mX9_restore [.ref 0, .int (nI s)] (mixW g S) (.int (va_cpy (z_SL S) (z_SV S) (s * 44) 0 44 0)) (mixW g (s_SV (s_HK S (0)) (va_cpy (z_SL S) (z_SV S) (s * 44) 0 44))) := by
  refine ct_of hG [some (.ref 0), some (.int (nI s))] rfl rfl rfl (Nat.le_of_ble_eq_true rfl) (fun h => ?_) rfl
  refine q_iload_n dX9_restore_0 rfl ?_
  refine q_callSx (ν := mX9_requireOneOfTwo) dX9_restore_1 uw_642 vX9_requireOneOfTwo (c_X9_requireOneOfTwo_x hG S ((nI s))) rfl rfl (Nat.le_of_ble_eq_true rfl) (Nat.le_of_ble_eq_true rfl) (Nat.le_of_ble_eq_true rfl) 1 (Nat.le_of_ble_eq_true rfl) rfl (fun z => (z (two_ok (by omega))).elim) (fun c1 => ?_)
  refine wp_eq (st2 := []) rfl ?_
  refine q_aload_n dX9_restore_4 rfl ?_
  refine q_get (j := 5) (v := .ref 12) dX9_restore_5 (Nat.le_of_ble_eq_true rfl) rfl rfl iuX9 (Nat.le_of_ble_eq_true rfl) uw_213 rfl rfl ?_
  refine q_iload_n dX9_restore_8 rfl ?_
  refine q_zald (f := (z_SF S)) dX9_restore_9 (Nat.le_of_ble_eq_true rfl) rfl (s) rfl (by omega) (Nat.le_of_ble_eq_true rfl) ?_
  refine q_if_ne 24 dX9_restore_10 rfl (fun c10 => ?_) (fun c10 => ?_)
  · refine q_aload_n dX9_restore_24 rfl ?_
    refine q_get (j := 4) (v := .ref 10) dX9_restore_25 (Nat.le_of_ble_eq_true rfl) rfl rfl iuX9 (Nat.le_of_ble_eq_true rfl) uw_212 rfl rfl ?_
    refine q_iload_n dX9_restore_28 rfl ?_
    refine q_aload_n dX9_restore_29 rfl ?_
    refine q_get (j := 1) (v := .ref 3) dX9_restore_30 (Nat.le_of_ble_eq_true rfl) rfl rfl iuX9 (Nat.le_of_ble_eq_true rfl) uw_209 rfl rfl ?_
    refine q_callVu (ν := mX8_fetch) dX9_restore_33 uw_917 vX8_fetch (c_X8_fetch_10 hG S (s) (by omega)) (Nat.le_of_ble_eq_true rfl) rfl rfl rfl rfl (Nat.le_of_ble_eq_true rfl) (Nat.le_of_ble_eq_true rfl) (Nat.le_of_ble_eq_true rfl) 1 (Nat.le_of_ble_eq_true rfl) ?_
    refine wp_w (w2 := mixW g (s_SV S (va_cpy (z_SL S) (z_SV S) (s * 44) 0 44))) rfl ?_
    refine q_aload_n dX9_restore_36 rfl ?_
    refine q_get (j := 3) (v := .ref 7) dX9_restore_37 (Nat.le_of_ble_eq_true rfl) rfl rfl iuX9 (Nat.le_of_ble_eq_true rfl) uw_211 rfl rfl ?_
    refine q_callVu (ν := mX2_forget) dX9_restore_40 uw_609 vX2_forget (c_X2_forget hG (s_SV S (va_cpy (z_SL S) (z_SV S) (s * 44) 0 44)) ) (Nat.le_of_ble_eq_true rfl) rfl rfl rfl rfl (Nat.le_of_ble_eq_true rfl) (Nat.le_of_ble_eq_true rfl) (Nat.le_of_ble_eq_true rfl) 1 (Nat.le_of_ble_eq_true rfl) ?_
    rw [sc_HK_SV]
    refine wp_w (w2 := mixW g (s_SV (s_HK S (0)) (va_cpy (z_SL S) (z_SV S) (s * 44) 0 44))) rfl ?_
    refine q_aload_n dX9_restore_43 rfl ?_
    refine q_get (j := 1) (v := .ref 3) dX9_restore_44 (Nat.le_of_ble_eq_true rfl) rfl rfl iuX9 (Nat.le_of_ble_eq_true rfl) uw_209 rfl rfl ?_
    refine q_callVv (ν := mX7_count) dX9_restore_47 uw_280 vX7_count (c_X7_count_3 hG (s_SV (s_HK S (0)) (va_cpy (z_SL S) (z_SV S) (s * 44) 0 44)) ) (Nat.le_of_ble_eq_true rfl) rfl rfl rfl rfl (Nat.le_of_ble_eq_true rfl) (Nat.le_of_ble_eq_true rfl) (Nat.le_of_ble_eq_true rfl) 1 (Nat.le_of_ble_eq_true rfl) ?_
    refine wp_eq (st2 := .int (((va_cpy (z_SL S) (z_SV S) (s * 44) 0 44) 0)) :: _) rfl ?_
    exact q_iret dX9_restore_50 rfl ⟨rfl, rfl⟩
  · exact absurd c10 h2
set_option maxRecDepth 100000 in
set_option maxHeartbeats 4000000 in
theorem c_X9_restore_x1 {g : G0} (hG : Gd g) (S : SS) (y : Int32)  (h1 : ¬ (y = 0 ∨ y = 1)) : ctt g mX9_restore [.ref 0, .int y] (mixW g S) EIO (mixW g S) := by
  refine ct_of hG [some (.ref 0), some (.int (y))] rfl rfl rfl (Nat.le_of_ble_eq_true rfl) (fun h => ?_) rfl
  refine q_iload_n dX9_restore_0 rfl ?_
  refine q_callSx (ν := mX9_requireOneOfTwo) dX9_restore_1 uw_642 vX9_requireOneOfTwo (c_X9_requireOneOfTwo_x hG S (y)) rfl rfl (Nat.le_of_ble_eq_true rfl) (Nat.le_of_ble_eq_true rfl) (Nat.le_of_ble_eq_true rfl) 1 (Nat.le_of_ble_eq_true rfl) rfl (fun z => ⟨rfl, rfl⟩) (fun c1 => ?_)
  refine wp_eq (st2 := []) rfl ?_
  exact absurd c1 h1
set_option maxRecDepth 100000 in
set_option maxHeartbeats 4000000 in
theorem c_X9_restore_x2 {g : G0} (hG : Gd g) (S : SS) (s : Nat)  (h1 : s < 2) (h2 : (z_SF S) s = 0) : ctt g mX9_restore [.ref 0, .int (nI s)] (mixW g S) EIS (mixW g S) := by
  refine ct_of hG [some (.ref 0), some (.int (nI s))] rfl rfl rfl (Nat.le_of_ble_eq_true rfl) (fun h => ?_) rfl
  refine q_iload_n dX9_restore_0 rfl ?_
  refine q_callSx (ν := mX9_requireOneOfTwo) dX9_restore_1 uw_642 vX9_requireOneOfTwo (c_X9_requireOneOfTwo_x hG S ((nI s))) rfl rfl (Nat.le_of_ble_eq_true rfl) (Nat.le_of_ble_eq_true rfl) (Nat.le_of_ble_eq_true rfl) 1 (Nat.le_of_ble_eq_true rfl) rfl (fun z => (z (two_ok (by omega))).elim) (fun c1 => ?_)
  refine wp_eq (st2 := []) rfl ?_
  refine q_aload_n dX9_restore_4 rfl ?_
  refine q_get (j := 5) (v := .ref 12) dX9_restore_5 (Nat.le_of_ble_eq_true rfl) rfl rfl iuX9 (Nat.le_of_ble_eq_true rfl) uw_213 rfl rfl ?_
  refine q_iload_n dX9_restore_8 rfl ?_
  refine q_zald (f := (z_SF S)) dX9_restore_9 (Nat.le_of_ble_eq_true rfl) rfl (s) rfl (by omega) (Nat.le_of_ble_eq_true rfl) ?_
  refine q_if_ne 24 dX9_restore_10 rfl (fun c10 => ?_) (fun c10 => ?_)
  · exact absurd h2 c10
  · exact q_throwW dX9_restore_13 dX9_restore_16 dX9_restore_17 dX9_restore_20 dX9_restore_23 uw_551 uw_54 (List.mem_of_getElem? (i := 13) rfl) okT_IS rfl rfl (Nat.le_of_ble_eq_true rfl) (Nat.le_of_ble_eq_true rfl) (Nat.le_of_ble_eq_true rfl) (Nat.le_of_ble_eq_true rfl) ⟨rfl, rfl⟩
set_option maxRecDepth 100000 in
set_option maxHeartbeats 4000000 in
theorem c_X9_hasSteadyState {g : G0} (hG : Gd g) (S : SS)  (ft : Nat) (N : Nat) (tg : Nat → Nat) (h1 : tgts (z_SV S) N ft tg) : ctv g mX9_hasSteadyState [.ref 0] (mixW g S) (.int (pI (0 < svD (z_SV S) 0 N tg (z_EQ S) (z_MI S) ∧ 0 < svD (z_SV S) 1 N tg (svE (z_SV S) 0 8 ft N tg (z_EQ S)) (svM (z_SV S) 0 8 ft N tg (z_EQ S) (z_MI S))))) (mixW g (s_BN (s_BD (s_EQ (s_MI (s_A0 (s_A1 (s_A2 (s_A3 S (svD (z_SV S) 1 N tg (svE (z_SV S) 0 8 ft N tg (z_EQ S)) (svM (z_SV S) 0 8 ft N tg (z_EQ S) (z_MI S)))) (svN (z_SV S) 1 8 ft N tg (svE (z_SV S) 0 8 ft N tg (z_EQ S)) (svM (z_SV S) 0 8 ft N tg (z_EQ S) (z_MI S)))) (svD (z_SV S) 0 N tg (z_EQ S) (z_MI S))) (svN (z_SV S) 0 8 ft N tg (z_EQ S) (z_MI S))) (svM (z_SV S) 1 8 ft N tg (svE (z_SV S) 0 8 ft N tg (z_EQ S)) (svM (z_SV S) 0 8 ft N tg (z_EQ S) (z_MI S)))) (svE (z_SV S) 1 8 ft N tg (svE (z_SV S) 0 8 ft N tg (z_EQ S)))) (svD (z_SV S) 1 N tg (svE (z_SV S) 0 8 ft N tg (z_EQ S)) (svM (z_SV S) 0 8 ft N tg (z_EQ S) (z_MI S)))) (svN (z_SV S) 1 8 ft N tg (svE (z_SV S) 0 8 ft N tg (z_EQ S)) (svM (z_SV S) 0 8 ft N tg (z_EQ S) (z_MI S))))) := by
  refine ct_of hG [some (.ref 0)] rfl rfl rfl (Nat.le_of_ble_eq_true rfl) (fun h => ?_) rfl
  refine q_aload_n dX9_hasSteadyState_0 rfl ?_
  refine q_get (j := 10) (v := .ref 23) dX9_hasSteadyState_1 (Nat.le_of_ble_eq_true rfl) rfl rfl iuX9 (Nat.le_of_ble_eq_true rfl) uw_218 rfl rfl ?_
  refine q_aload_n dX9_hasSteadyState_4 rfl ?_
  refine q_get (j := 1) (v := .ref 3) dX9_hasSteadyState_5 (Nat.le_of_ble_eq_true rfl) rfl rfl iuX9 (Nat.le_of_ble_eq_true rfl) uw_209 rfl rfl ?_
  refine q_aload_n dX9_hasSteadyState_8 rfl ?_
  refine q_get (j := 7) (v := .ref 15) dX9_hasSteadyState_9 (Nat.le_of_ble_eq_true rfl) rfl rfl iuX9 (Nat.le_of_ble_eq_true rfl) uw_215 rfl rfl ?_
  refine q_callVu (ν := mX5_compute) dX9_hasSteadyState_12 uw_326 vX5_compute (c_X5_compute_23_3 hG S (ft) (N) (tg) h1) (Nat.le_of_ble_eq_true rfl) rfl rfl rfl rfl (Nat.le_of_ble_eq_true rfl) (Nat.le_of_ble_eq_true rfl) (Nat.le_of_ble_eq_true rfl) 0 (Nat.le_of_ble_eq_true rfl) ?_
  refine wp_w (w2 := mixW g (s_BN (s_BD (s_EQ (s_MI (s_A0 (s_A1 (s_A2 (s_A3 S (svD (z_SV S) 1 N tg (svE (z_SV S) 0 8 ft N tg (z_EQ S)) (svM (z_SV S) 0 8 ft N tg (z_EQ S) (z_MI S)))) (svN (z_SV S) 1 8 ft N tg (svE (z_SV S) 0 8 ft N tg (z_EQ S)) (svM (z_SV S) 0 8 ft N tg (z_EQ S) (z_MI S)))) (svD (z_SV S) 0 N tg (z_EQ S) (z_MI S))) (svN (z_SV S) 0 8 ft N tg (z_EQ S) (z_MI S))) (svM (z_SV S) 1 8 ft N tg (svE (z_SV S) 0 8 ft N tg (z_EQ S)) (svM (z_SV S) 0 8 ft N tg (z_EQ S) (z_MI S)))) (svE (z_SV S) 1 8 ft N tg (svE (z_SV S) 0 8 ft N tg (z_EQ S)))) (svD (z_SV S) 1 N tg (svE (z_SV S) 0 8 ft N tg (z_EQ S)) (svM (z_SV S) 0 8 ft N tg (z_EQ S) (z_MI S)))) (svN (z_SV S) 1 8 ft N tg (svE (z_SV S) 0 8 ft N tg (z_EQ S)) (svM (z_SV S) 0 8 ft N tg (z_EQ S) (z_MI S))))) rfl ?_
  refine q_aload_n dX9_hasSteadyState_15 rfl ?_
  refine q_get (j := 10) (v := .ref 23) dX9_hasSteadyState_16 (Nat.le_of_ble_eq_true rfl) rfl rfl iuX9 (Nat.le_of_ble_eq_true rfl) uw_218 rfl rfl ?_
  refine q_callVv (ν := mX5_exist) dX9_hasSteadyState_19 uw_393 vX5_exist (c_X5_exist hG (s_BN (s_BD (s_EQ (s_MI (s_A0 (s_A1 (s_A2 (s_A3 S (svD (z_SV S) 1 N tg (svE (z_SV S) 0 8 ft N tg (z_EQ S)) (svM (z_SV S) 0 8 ft N tg (z_EQ S) (z_MI S)))) (svN (z_SV S) 1 8 ft N tg (svE (z_SV S) 0 8 ft N tg (z_EQ S)) (svM (z_SV S) 0 8 ft N tg (z_EQ S) (z_MI S)))) (svD (z_SV S) 0 N tg (z_EQ S) (z_MI S))) (svN (z_SV S) 0 8 ft N tg (z_EQ S) (z_MI S))) (svM (z_SV S) 1 8 ft N tg (svE (z_SV S) 0 8 ft N tg (z_EQ S)) (svM (z_SV S) 0 8 ft N tg (z_EQ S) (z_MI S)))) (svE (z_SV S) 1 8 ft N tg (svE (z_SV S) 0 8 ft N tg (z_EQ S)))) (svD (z_SV S) 1 N tg (svE (z_SV S) 0 8 ft N tg (z_EQ S)) (svM (z_SV S) 0 8 ft N tg (z_EQ S) (z_MI S)))) (svN (z_SV S) 1 8 ft N tg (svE (z_SV S) 0 8 ft N tg (z_EQ S)) (svM (z_SV S) 0 8 ft N tg (z_EQ S) (z_MI S)))) ) (Nat.le_of_ble_eq_true rfl) rfl rfl rfl rfl (Nat.le_of_ble_eq_true rfl) (Nat.le_of_ble_eq_true rfl) (Nat.le_of_ble_eq_true rfl) 0 (Nat.le_of_ble_eq_true rfl) ?_
  refine wp_eq (st2 := .int ((pI (0 < (svD (z_SV S) 0 N tg (z_EQ S) (z_MI S)) ∧ 0 < (svD (z_SV S) 1 N tg (svE (z_SV S) 0 8 ft N tg (z_EQ S)) (svM (z_SV S) 0 8 ft N tg (z_EQ S) (z_MI S)))))) :: _) rfl ?_
  exact q_zret dX9_hasSteadyState_22 rfl pI_z ⟨rfl, rfl⟩
set_option maxRecDepth 100000 in
set_option maxHeartbeats 4000000 in
theorem c_X9_requireSteadyState_ok {g : G0} (hG : Gd g) (S : SS)  (ft : Nat) (N : Nat) (tg : Nat → Nat) (h1 : tgts (z_SV S) N ft tg) (h2 : 0 < svD (z_SV S) 0 N tg (z_EQ S) (z_MI S) ∧ 0 < svD (z_SV S) 1 N tg (svE (z_SV S) 0 8 ft N tg (z_EQ S)) (svM (z_SV S) 0 8 ft N tg (z_EQ S) (z_MI S))) : ctu g mX9_requireSteadyState [.ref 0] (mixW g S) (mixW g (s_BN (s_BD (s_EQ (s_MI (s_A0 (s_A1 (s_A2 (s_A3 S (svD (z_SV S) 1 N tg (svE (z_SV S) 0 8 ft N tg (z_EQ S)) (svM (z_SV S) 0 8 ft N tg (z_EQ S) (z_MI S)))) (svN (z_SV S) 1 8 ft N tg (svE (z_SV S) 0 8 ft N tg (z_EQ S)) (svM (z_SV S) 0 8 ft N tg (z_EQ S) (z_MI S)))) (svD (z_SV S) 0 N tg (z_EQ S) (z_MI S))) (svN (z_SV S) 0 8 ft N tg (z_EQ S) (z_MI S))) (svM (z_SV S) 1 8 ft N tg (svE (z_SV S) 0 8 ft N tg (z_EQ S)) (svM (z_SV S) 0 8 ft N tg (z_EQ S) (z_MI S)))) (svE (z_SV S) 1 8 ft N tg (svE (z_SV S) 0 8 ft N tg (z_EQ S)))) (svD (z_SV S) 1 N tg (svE (z_SV S) 0 8 ft N tg (z_EQ S)) (svM (z_SV S) 0 8 ft N tg (z_EQ S) (z_MI S)))) (svN (z_SV S) 1 8 ft N tg (svE (z_SV S) 0 8 ft N tg (z_EQ S)) (svM (z_SV S) 0 8 ft N tg (z_EQ S) (z_MI S))))) := by
  refine ct_of hG [some (.ref 0)] rfl rfl rfl (Nat.le_of_ble_eq_true rfl) (fun h => ?_) rfl
  refine q_aload_n dX9_requireSteadyState_0 rfl ?_
  refine q_get (j := 10) (v := .ref 23) dX9_requireSteadyState_1 (Nat.le_of_ble_eq_true rfl) rfl rfl iuX9 (Nat.le_of_ble_eq_true rfl) uw_218 rfl rfl ?_
  refine q_aload_n dX9_requireSteadyState_4 rfl ?_
  refine q_get (j := 1) (v := .ref 3) dX9_requireSteadyState_5 (Nat.le_of_ble_eq_true rfl) rfl rfl iuX9 (Nat.le_of_ble_eq_true rfl) uw_209 rfl rfl ?_
  refine q_aload_n dX9_requireSteadyState_8 rfl ?_
  refine q_get (j := 7) (v := .ref 15) dX9_requireSteadyState_9 (Nat.le_of_ble_eq_true rfl) rfl rfl iuX9 (Nat.le_of_ble_eq_true rfl) uw_215 rfl rfl ?_
  refine q_callVu (ν := mX5_compute) dX9_requireSteadyState_12 uw_326 vX5_compute (c_X5_compute_23_3 hG S (ft) (N) (tg) h1) (Nat.le_of_ble_eq_true rfl) rfl rfl rfl rfl (Nat.le_of_ble_eq_true rfl) (Nat.le_of_ble_eq_true rfl) (Nat.le_of_ble_eq_true rfl) 1 (Nat.le_of_ble_eq_true rfl) ?_
  refine wp_w (w2 := mixW g (s_BN (s_BD (s_EQ (s_MI (s_A0 (s_A1 (s_A2 (s_A3 S (svD (z_SV S) 1 N tg (svE (z_SV S) 0 8 ft N tg (z_EQ S)) (svM (z_SV S) 0 8 ft N tg (z_EQ S) (z_MI S)))) (svN (z_SV S) 1 8 ft N tg (svE (z_SV S) 0 8 ft N tg (z_EQ S)) (svM (z_SV S) 0 8 ft N tg (z_EQ S) (z_MI S)))) (svD (z_SV S) 0 N tg (z_EQ S) (z_MI S))) (svN (z_SV S) 0 8 ft N tg (z_EQ S) (z_MI S))) (svM (z_SV S) 1 8 ft N tg (svE (z_SV S) 0 8 ft N tg (z_EQ S)) (svM (z_SV S) 0 8 ft N tg (z_EQ S) (z_MI S)))) (svE (z_SV S) 1 8 ft N tg (svE (z_SV S) 0 8 ft N tg (z_EQ S)))) (svD (z_SV S) 1 N tg (svE (z_SV S) 0 8 ft N tg (z_EQ S)) (svM (z_SV S) 0 8 ft N tg (z_EQ S) (z_MI S)))) (svN (z_SV S) 1 8 ft N tg (svE (z_SV S) 0 8 ft N tg (z_EQ S)) (svM (z_SV S) 0 8 ft N tg (z_EQ S) (z_MI S))))) rfl ?_
  refine q_aload_n dX9_requireSteadyState_15 rfl ?_
  refine q_get (j := 10) (v := .ref 23) dX9_requireSteadyState_16 (Nat.le_of_ble_eq_true rfl) rfl rfl iuX9 (Nat.le_of_ble_eq_true rfl) uw_218 rfl rfl ?_
  refine q_callVv (ν := mX5_exist) dX9_requireSteadyState_19 uw_393 vX5_exist (c_X5_exist hG (s_BN (s_BD (s_EQ (s_MI (s_A0 (s_A1 (s_A2 (s_A3 S (svD (z_SV S) 1 N tg (svE (z_SV S) 0 8 ft N tg (z_EQ S)) (svM (z_SV S) 0 8 ft N tg (z_EQ S) (z_MI S)))) (svN (z_SV S) 1 8 ft N tg (svE (z_SV S) 0 8 ft N tg (z_EQ S)) (svM (z_SV S) 0 8 ft N tg (z_EQ S) (z_MI S)))) (svD (z_SV S) 0 N tg (z_EQ S) (z_MI S))) (svN (z_SV S) 0 8 ft N tg (z_EQ S) (z_MI S))) (svM (z_SV S) 1 8 ft N tg (svE (z_SV S) 0 8 ft N tg (z_EQ S)) (svM (z_SV S) 0 8 ft N tg (z_EQ S) (z_MI S)))) (svE (z_SV S) 1 8 ft N tg (svE (z_SV S) 0 8 ft N tg (z_EQ S)))) (svD (z_SV S) 1 N tg (svE (z_SV S) 0 8 ft N tg (z_EQ S)) (svM (z_SV S) 0 8 ft N tg (z_EQ S) (z_MI S)))) (svN (z_SV S) 1 8 ft N tg (svE (z_SV S) 0 8 ft N tg (z_EQ S)) (svM (z_SV S) 0 8 ft N tg (z_EQ S) (z_MI S)))) ) (Nat.le_of_ble_eq_true rfl) rfl rfl rfl rfl (Nat.le_of_ble_eq_true rfl) (Nat.le_of_ble_eq_true rfl) (Nat.le_of_ble_eq_true rfl) 1 (Nat.le_of_ble_eq_true rfl) ?_
  refine wp_eq (st2 := .int ((pI (0 < (svD (z_SV S) 0 N tg (z_EQ S) (z_MI S)) ∧ 0 < (svD (z_SV S) 1 N tg (svE (z_SV S) 0 8 ft N tg (z_EQ S)) (svM (z_SV S) 0 8 ft N tg (z_EQ S) (z_MI S)))))) :: _) rfl ?_
  refine q_if_ne 36 dX9_requireSteadyState_22 rfl (fun c22 => ?_) (fun c22 => ?_)
  · exact q_vret dX9_requireSteadyState_36 rfl ⟨rfl, rfl⟩
  · exact absurd h2 (pI_0 c22)
set_option maxRecDepth 100000 in
set_option maxHeartbeats 4000000 in
theorem c_X9_requireSteadyState_x {g : G0} (hG : Gd g) (S : SS)  (ft : Nat) (N : Nat) (tg : Nat → Nat) (h1 : tgts (z_SV S) N ft tg) (h2 : ¬ (0 < svD (z_SV S) 0 N tg (z_EQ S) (z_MI S) ∧ 0 < svD (z_SV S) 1 N tg (svE (z_SV S) 0 8 ft N tg (z_EQ S)) (svM (z_SV S) 0 8 ft N tg (z_EQ S) (z_MI S)))) : ctt g mX9_requireSteadyState [.ref 0] (mixW g S) EIS (mixW g (s_BN (s_BD (s_EQ (s_MI (s_A0 (s_A1 (s_A2 (s_A3 S (svD (z_SV S) 1 N tg (svE (z_SV S) 0 8 ft N tg (z_EQ S)) (svM (z_SV S) 0 8 ft N tg (z_EQ S) (z_MI S)))) (svN (z_SV S) 1 8 ft N tg (svE (z_SV S) 0 8 ft N tg (z_EQ S)) (svM (z_SV S) 0 8 ft N tg (z_EQ S) (z_MI S)))) (svD (z_SV S) 0 N tg (z_EQ S) (z_MI S))) (svN (z_SV S) 0 8 ft N tg (z_EQ S) (z_MI S))) (svM (z_SV S) 1 8 ft N tg (svE (z_SV S) 0 8 ft N tg (z_EQ S)) (svM (z_SV S) 0 8 ft N tg (z_EQ S) (z_MI S)))) (svE (z_SV S) 1 8 ft N tg (svE (z_SV S) 0 8 ft N tg (z_EQ S)))) (svD (z_SV S) 1 N tg (svE (z_SV S) 0 8 ft N tg (z_EQ S)) (svM (z_SV S) 0 8 ft N tg (z_EQ S) (z_MI S)))) (svN (z_SV S) 1 8 ft N tg (svE (z_SV S) 0 8 ft N tg (z_EQ S)) (svM (z_SV S) 0 8 ft N tg (z_EQ S) (z_MI S))))) := by
  refine ct_of hG [some (.ref 0)] rfl rfl rfl (Nat.le_of_ble_eq_true rfl) (fun h => ?_) rfl
  refine q_aload_n dX9_requireSteadyState_0 rfl ?_
  refine q_get (j := 10) (v := .ref 23) dX9_requireSteadyState_1 (Nat.le_of_ble_eq_true rfl) rfl rfl iuX9 (Nat.le_of_ble_eq_true rfl) uw_218 rfl rfl ?_
  refine q_aload_n dX9_requireSteadyState_4 rfl ?_
  refine q_get (j := 1) (v := .ref 3) dX9_requireSteadyState_5 (Nat.le_of_ble_eq_true rfl) rfl rfl iuX9 (Nat.le_of_ble_eq_true rfl) uw_209 rfl rfl ?_
  refine q_aload_n dX9_requireSteadyState_8 rfl ?_
  refine q_get (j := 7) (v := .ref 15) dX9_requireSteadyState_9 (Nat.le_of_ble_eq_true rfl) rfl rfl iuX9 (Nat.le_of_ble_eq_true rfl) uw_215 rfl rfl ?_
  refine q_callVu (ν := mX5_compute) dX9_requireSteadyState_12 uw_326 vX5_compute (c_X5_compute_23_3 hG S (ft) (N) (tg) h1) (Nat.le_of_ble_eq_true rfl) rfl rfl rfl rfl (Nat.le_of_ble_eq_true rfl) (Nat.le_of_ble_eq_true rfl) (Nat.le_of_ble_eq_true rfl) 1 (Nat.le_of_ble_eq_true rfl) ?_
  refine wp_w (w2 := mixW g (s_BN (s_BD (s_EQ (s_MI (s_A0 (s_A1 (s_A2 (s_A3 S (svD (z_SV S) 1 N tg (svE (z_SV S) 0 8 ft N tg (z_EQ S)) (svM (z_SV S) 0 8 ft N tg (z_EQ S) (z_MI S)))) (svN (z_SV S) 1 8 ft N tg (svE (z_SV S) 0 8 ft N tg (z_EQ S)) (svM (z_SV S) 0 8 ft N tg (z_EQ S) (z_MI S)))) (svD (z_SV S) 0 N tg (z_EQ S) (z_MI S))) (svN (z_SV S) 0 8 ft N tg (z_EQ S) (z_MI S))) (svM (z_SV S) 1 8 ft N tg (svE (z_SV S) 0 8 ft N tg (z_EQ S)) (svM (z_SV S) 0 8 ft N tg (z_EQ S) (z_MI S)))) (svE (z_SV S) 1 8 ft N tg (svE (z_SV S) 0 8 ft N tg (z_EQ S)))) (svD (z_SV S) 1 N tg (svE (z_SV S) 0 8 ft N tg (z_EQ S)) (svM (z_SV S) 0 8 ft N tg (z_EQ S) (z_MI S)))) (svN (z_SV S) 1 8 ft N tg (svE (z_SV S) 0 8 ft N tg (z_EQ S)) (svM (z_SV S) 0 8 ft N tg (z_EQ S) (z_MI S))))) rfl ?_
  refine q_aload_n dX9_requireSteadyState_15 rfl ?_
  refine q_get (j := 10) (v := .ref 23) dX9_requireSteadyState_16 (Nat.le_of_ble_eq_true rfl) rfl rfl iuX9 (Nat.le_of_ble_eq_true rfl) uw_218 rfl rfl ?_
  refine q_callVv (ν := mX5_exist) dX9_requireSteadyState_19 uw_393 vX5_exist (c_X5_exist hG (s_BN (s_BD (s_EQ (s_MI (s_A0 (s_A1 (s_A2 (s_A3 S (svD (z_SV S) 1 N tg (svE (z_SV S) 0 8 ft N tg (z_EQ S)) (svM (z_SV S) 0 8 ft N tg (z_EQ S) (z_MI S)))) (svN (z_SV S) 1 8 ft N tg (svE (z_SV S) 0 8 ft N tg (z_EQ S)) (svM (z_SV S) 0 8 ft N tg (z_EQ S) (z_MI S)))) (svD (z_SV S) 0 N tg (z_EQ S) (z_MI S))) (svN (z_SV S) 0 8 ft N tg (z_EQ S) (z_MI S))) (svM (z_SV S) 1 8 ft N tg (svE (z_SV S) 0 8 ft N tg (z_EQ S)) (svM (z_SV S) 0 8 ft N tg (z_EQ S) (z_MI S)))) (svE (z_SV S) 1 8 ft N tg (svE (z_SV S) 0 8 ft N tg (z_EQ S)))) (svD (z_SV S) 1 N tg (svE (z_SV S) 0 8 ft N tg (z_EQ S)) (svM (z_SV S) 0 8 ft N tg (z_EQ S) (z_MI S)))) (svN (z_SV S) 1 8 ft N tg (svE (z_SV S) 0 8 ft N tg (z_EQ S)) (svM (z_SV S) 0 8 ft N tg (z_EQ S) (z_MI S)))) ) (Nat.le_of_ble_eq_true rfl) rfl rfl rfl rfl (Nat.le_of_ble_eq_true rfl) (Nat.le_of_ble_eq_true rfl) (Nat.le_of_ble_eq_true rfl) 1 (Nat.le_of_ble_eq_true rfl) ?_
  refine wp_eq (st2 := .int ((pI (0 < (svD (z_SV S) 0 N tg (z_EQ S) (z_MI S)) ∧ 0 < (svD (z_SV S) 1 N tg (svE (z_SV S) 0 8 ft N tg (z_EQ S)) (svM (z_SV S) 0 8 ft N tg (z_EQ S) (z_MI S)))))) :: _) rfl ?_
  refine q_if_ne 36 dX9_requireSteadyState_22 rfl (fun c22 => ?_) (fun c22 => ?_)
  · exact absurd (pI_1 c22) h2
  · exact q_throwW dX9_requireSteadyState_25 dX9_requireSteadyState_28 dX9_requireSteadyState_29 dX9_requireSteadyState_32 dX9_requireSteadyState_35 uw_551 uw_54 (List.mem_of_getElem? (i := 12) rfl) okT_IS rfl rfl (Nat.le_of_ble_eq_true rfl) (Nat.le_of_ble_eq_true rfl) (Nat.le_of_ble_eq_true rfl) (Nat.le_of_ble_eq_true rfl) ⟨rfl, rfl⟩
set_option maxRecDepth 100000 in
set_option maxHeartbeats 4000000 in
theorem c_X9_totalRecovery {g : G0} (hG : Gd g) (S : SS)  (ft : Nat) (N : Nat) (tg : Nat → Nat) (h1 : tgts (z_SV S) N ft tg) (h2 : 0 < svD (z_SV S) 0 N tg (z_EQ S) (z_MI S) ∧ 0 < svD (z_SV S) 1 N tg (svE (z_SV S) 0 8 ft N tg (z_EQ S)) (svM (z_SV S) 0 8 ft N tg (z_EQ S) (z_MI S))) : ctv g mX9_totalRecovery [.ref 0] (mixW g S) (.int (recF ((z_SV S) (2 + 0)) (svN (z_SV S) 0 8 ft N tg (z_EQ S) (z_MI S)) (svD (z_SV S) 0 N tg (z_EQ S) (z_MI S)))) (mixW g (s_BN (s_BD (s_EQ (s_MI (s_A0 (s_A1 (s_A2 (s_A3 S (svD (z_SV S) 1 N tg (svE (z_SV S) 0 8 ft N tg (z_EQ S)) (svM (z_SV S) 0 8 ft N tg (z_EQ S) (z_MI S)))) (svN (z_SV S) 1 8 ft N tg (svE (z_SV S) 0 8 ft N tg (z_EQ S)) (svM (z_SV S) 0 8 ft N tg (z_EQ S) (z_MI S)))) (svD (z_SV S) 0 N tg (z_EQ S) (z_MI S))) (svN (z_SV S) 0 8 ft N tg (z_EQ S) (z_MI S))) (svM (z_SV S) 1 8 ft N tg (svE (z_SV S) 0 8 ft N tg (z_EQ S)) (svM (z_SV S) 0 8 ft N tg (z_EQ S) (z_MI S)))) (svE (z_SV S) 1 8 ft N tg (svE (z_SV S) 0 8 ft N tg (z_EQ S)))) (svD (z_SV S) 1 N tg (svE (z_SV S) 0 8 ft N tg (z_EQ S)) (svM (z_SV S) 0 8 ft N tg (z_EQ S) (z_MI S)))) (svN (z_SV S) 1 8 ft N tg (svE (z_SV S) 0 8 ft N tg (z_EQ S)) (svM (z_SV S) 0 8 ft N tg (z_EQ S) (z_MI S))))) := by
  refine ct_of hG [some (.ref 0)] rfl rfl rfl (Nat.le_of_ble_eq_true rfl) (fun h => ?_) rfl
  refine q_aload_n dX9_totalRecovery_0 rfl ?_
  refine q_callVu (ν := mX9_requireSteadyState) dX9_totalRecovery_1 uw_822 vX9_requireSteadyState (c_X9_requireSteadyState_ok hG S (ft) (N) (tg) h1 h2) (Nat.le_of_ble_eq_true rfl) rfl rfl rfl rfl (Nat.le_of_ble_eq_true rfl) (Nat.le_of_ble_eq_true rfl) (Nat.le_of_ble_eq_true rfl) 0 (Nat.le_of_ble_eq_true rfl) ?_
  refine wp_w (w2 := mixW g (s_BN (s_BD (s_EQ (s_MI (s_A0 (s_A1 (s_A2 (s_A3 S (svD (z_SV S) 1 N tg (svE (z_SV S) 0 8 ft N tg (z_EQ S)) (svM (z_SV S) 0 8 ft N tg (z_EQ S) (z_MI S)))) (svN (z_SV S) 1 8 ft N tg (svE (z_SV S) 0 8 ft N tg (z_EQ S)) (svM (z_SV S) 0 8 ft N tg (z_EQ S) (z_MI S)))) (svD (z_SV S) 0 N tg (z_EQ S) (z_MI S))) (svN (z_SV S) 0 8 ft N tg (z_EQ S) (z_MI S))) (svM (z_SV S) 1 8 ft N tg (svE (z_SV S) 0 8 ft N tg (z_EQ S)) (svM (z_SV S) 0 8 ft N tg (z_EQ S) (z_MI S)))) (svE (z_SV S) 1 8 ft N tg (svE (z_SV S) 0 8 ft N tg (z_EQ S)))) (svD (z_SV S) 1 N tg (svE (z_SV S) 0 8 ft N tg (z_EQ S)) (svM (z_SV S) 0 8 ft N tg (z_EQ S) (z_MI S)))) (svN (z_SV S) 1 8 ft N tg (svE (z_SV S) 0 8 ft N tg (z_EQ S)) (svM (z_SV S) 0 8 ft N tg (z_EQ S) (z_MI S))))) rfl ?_
  refine q_aload_n dX9_totalRecovery_4 rfl ?_
  refine q_get (j := 10) (v := .ref 23) dX9_totalRecovery_5 (Nat.le_of_ble_eq_true rfl) rfl rfl iuX9 (Nat.le_of_ble_eq_true rfl) uw_218 rfl rfl ?_
  refine q_aload_n dX9_totalRecovery_8 rfl ?_
  refine q_get (j := 1) (v := .ref 3) dX9_totalRecovery_9 (Nat.le_of_ble_eq_true rfl) rfl rfl iuX9 (Nat.le_of_ble_eq_true rfl) uw_209 rfl rfl ?_
  refine q_callVv (ν := mX5_recoveryPerMille) dX9_totalRecovery_12 uw_454 vX5_recoveryPerMille (c_X5_rec_3 hG (s_BN (s_BD (s_EQ (s_MI (s_A0 (s_A1 (s_A2 (s_A3 S (svD (z_SV S) 1 N tg (svE (z_SV S) 0 8 ft N tg (z_EQ S)) (svM (z_SV S) 0 8 ft N tg (z_EQ S) (z_MI S)))) (svN (z_SV S) 1 8 ft N tg (svE (z_SV S) 0 8 ft N tg (z_EQ S)) (svM (z_SV S) 0 8 ft N tg (z_EQ S) (z_MI S)))) (svD (z_SV S) 0 N tg (z_EQ S) (z_MI S))) (svN (z_SV S) 0 8 ft N tg (z_EQ S) (z_MI S))) (svM (z_SV S) 1 8 ft N tg (svE (z_SV S) 0 8 ft N tg (z_EQ S)) (svM (z_SV S) 0 8 ft N tg (z_EQ S) (z_MI S)))) (svE (z_SV S) 1 8 ft N tg (svE (z_SV S) 0 8 ft N tg (z_EQ S)))) (svD (z_SV S) 1 N tg (svE (z_SV S) 0 8 ft N tg (z_EQ S)) (svM (z_SV S) 0 8 ft N tg (z_EQ S) (z_MI S)))) (svN (z_SV S) 1 8 ft N tg (svE (z_SV S) 0 8 ft N tg (z_EQ S)) (svM (z_SV S) 0 8 ft N tg (z_EQ S) (z_MI S)))) ) (Nat.le_of_ble_eq_true rfl) rfl rfl rfl rfl (Nat.le_of_ble_eq_true rfl) (Nat.le_of_ble_eq_true rfl) (Nat.le_of_ble_eq_true rfl) 0 (Nat.le_of_ble_eq_true rfl) ?_
  refine wp_eq (st2 := .int ((recF ((z_SV S) (2 + 0)) (svN (z_SV S) 0 8 ft N tg (z_EQ S) (z_MI S)) (svD (z_SV S) 0 N tg (z_EQ S) (z_MI S)))) :: _) rfl ?_
  exact q_iret dX9_totalRecovery_15 rfl ⟨rfl, rfl⟩
set_option maxRecDepth 100000 in
set_option maxHeartbeats 4000000 in
theorem c_X9_totalRecovery_x {g : G0} (hG : Gd g) (S : SS)  (ft : Nat) (N : Nat) (tg : Nat → Nat) (h1 : tgts (z_SV S) N ft tg) (h2 : ¬ (0 < svD (z_SV S) 0 N tg (z_EQ S) (z_MI S) ∧ 0 < svD (z_SV S) 1 N tg (svE (z_SV S) 0 8 ft N tg (z_EQ S)) (svM (z_SV S) 0 8 ft N tg (z_EQ S) (z_MI S)))) : ctt g mX9_totalRecovery [.ref 0] (mixW g S) EIS (mixW g (s_BN (s_BD (s_EQ (s_MI (s_A0 (s_A1 (s_A2 (s_A3 S (svD (z_SV S) 1 N tg (svE (z_SV S) 0 8 ft N tg (z_EQ S)) (svM (z_SV S) 0 8 ft N tg (z_EQ S) (z_MI S)))) (svN (z_SV S) 1 8 ft N tg (svE (z_SV S) 0 8 ft N tg (z_EQ S)) (svM (z_SV S) 0 8 ft N tg (z_EQ S) (z_MI S)))) (svD (z_SV S) 0 N tg (z_EQ S) (z_MI S))) (svN (z_SV S) 0 8 ft N tg (z_EQ S) (z_MI S))) (svM (z_SV S) 1 8 ft N tg (svE (z_SV S) 0 8 ft N tg (z_EQ S)) (svM (z_SV S) 0 8 ft N tg (z_EQ S) (z_MI S)))) (svE (z_SV S) 1 8 ft N tg (svE (z_SV S) 0 8 ft N tg (z_EQ S)))) (svD (z_SV S) 1 N tg (svE (z_SV S) 0 8 ft N tg (z_EQ S)) (svM (z_SV S) 0 8 ft N tg (z_EQ S) (z_MI S)))) (svN (z_SV S) 1 8 ft N tg (svE (z_SV S) 0 8 ft N tg (z_EQ S)) (svM (z_SV S) 0 8 ft N tg (z_EQ S) (z_MI S))))) := by
  refine ct_of hG [some (.ref 0)] rfl rfl rfl (Nat.le_of_ble_eq_true rfl) (fun h => ?_) rfl
  refine q_aload_n dX9_totalRecovery_0 rfl ?_
  exact q_callVt (ν := mX9_requireSteadyState) dX9_totalRecovery_1 uw_822 vX9_requireSteadyState (c_X9_requireSteadyState_x hG S (ft) (N) (tg) h1 h2) (Nat.le_of_ble_eq_true rfl) rfl rfl rfl rfl (Nat.le_of_ble_eq_true rfl) (Nat.le_of_ble_eq_true rfl) (Nat.le_of_ble_eq_true rfl) 0 (Nat.le_of_ble_eq_true rfl) rfl ⟨rfl, rfl⟩
set_option maxRecDepth 100000 in
set_option maxHeartbeats 4000000 in
theorem c_X9_grade {g : G0} (hG : Gd g) (S : SS)  (ft : Nat) (N : Nat) (tg : Nat → Nat) (h1 : tgts (z_SV S) N ft tg) (h2 : 0 < svD (z_SV S) 0 N tg (z_EQ S) (z_MI S) ∧ 0 < svD (z_SV S) 1 N tg (svE (z_SV S) 0 8 ft N tg (z_EQ S)) (svM (z_SV S) 0 8 ft N tg (z_EQ S) (z_MI S))) : ctv g mX9_grade [.ref 0] (mixW g S) (.int (graF ((z_SV S) (2 + 0)) ((z_SV S) (2 + 1)) (svN (z_SV S) 0 8 ft N tg (z_EQ S) (z_MI S)) (svD (z_SV S) 0 N tg (z_EQ S) (z_MI S)) (svN (z_SV S) 1 8 ft N tg (svE (z_SV S) 0 8 ft N tg (z_EQ S)) (svM (z_SV S) 0 8 ft N tg (z_EQ S) (z_MI S))) (svD (z_SV S) 1 N tg (svE (z_SV S) 0 8 ft N tg (z_EQ S)) (svM (z_SV S) 0 8 ft N tg (z_EQ S) (z_MI S))))) (mixW g (s_BN (s_BD (s_EQ (s_MI (s_A0 (s_A1 (s_A2 (s_A3 S (svD (z_SV S) 1 N tg (svE (z_SV S) 0 8 ft N tg (z_EQ S)) (svM (z_SV S) 0 8 ft N tg (z_EQ S) (z_MI S)))) (svN (z_SV S) 1 8 ft N tg (svE (z_SV S) 0 8 ft N tg (z_EQ S)) (svM (z_SV S) 0 8 ft N tg (z_EQ S) (z_MI S)))) (svD (z_SV S) 0 N tg (z_EQ S) (z_MI S))) (svN (z_SV S) 0 8 ft N tg (z_EQ S) (z_MI S))) (svM (z_SV S) 1 8 ft N tg (svE (z_SV S) 0 8 ft N tg (z_EQ S)) (svM (z_SV S) 0 8 ft N tg (z_EQ S) (z_MI S)))) (svE (z_SV S) 1 8 ft N tg (svE (z_SV S) 0 8 ft N tg (z_EQ S)))) (svD (z_SV S) 1 N tg (svE (z_SV S) 0 8 ft N tg (z_EQ S)) (svM (z_SV S) 0 8 ft N tg (z_EQ S) (z_MI S)))) (svN (z_SV S) 1 8 ft N tg (svE (z_SV S) 0 8 ft N tg (z_EQ S)) (svM (z_SV S) 0 8 ft N tg (z_EQ S) (z_MI S))))) := by
  refine ct_of hG [some (.ref 0)] rfl rfl rfl (Nat.le_of_ble_eq_true rfl) (fun h => ?_) rfl
  refine q_aload_n dX9_grade_0 rfl ?_
  refine q_callVu (ν := mX9_requireSteadyState) dX9_grade_1 uw_822 vX9_requireSteadyState (c_X9_requireSteadyState_ok hG S (ft) (N) (tg) h1 h2) (Nat.le_of_ble_eq_true rfl) rfl rfl rfl rfl (Nat.le_of_ble_eq_true rfl) (Nat.le_of_ble_eq_true rfl) (Nat.le_of_ble_eq_true rfl) 0 (Nat.le_of_ble_eq_true rfl) ?_
  refine wp_w (w2 := mixW g (s_BN (s_BD (s_EQ (s_MI (s_A0 (s_A1 (s_A2 (s_A3 S (svD (z_SV S) 1 N tg (svE (z_SV S) 0 8 ft N tg (z_EQ S)) (svM (z_SV S) 0 8 ft N tg (z_EQ S) (z_MI S)))) (svN (z_SV S) 1 8 ft N tg (svE (z_SV S) 0 8 ft N tg (z_EQ S)) (svM (z_SV S) 0 8 ft N tg (z_EQ S) (z_MI S)))) (svD (z_SV S) 0 N tg (z_EQ S) (z_MI S))) (svN (z_SV S) 0 8 ft N tg (z_EQ S) (z_MI S))) (svM (z_SV S) 1 8 ft N tg (svE (z_SV S) 0 8 ft N tg (z_EQ S)) (svM (z_SV S) 0 8 ft N tg (z_EQ S) (z_MI S)))) (svE (z_SV S) 1 8 ft N tg (svE (z_SV S) 0 8 ft N tg (z_EQ S)))) (svD (z_SV S) 1 N tg (svE (z_SV S) 0 8 ft N tg (z_EQ S)) (svM (z_SV S) 0 8 ft N tg (z_EQ S) (z_MI S)))) (svN (z_SV S) 1 8 ft N tg (svE (z_SV S) 0 8 ft N tg (z_EQ S)) (svM (z_SV S) 0 8 ft N tg (z_EQ S) (z_MI S))))) rfl ?_
  refine q_aload_n dX9_grade_4 rfl ?_
  refine q_get (j := 10) (v := .ref 23) dX9_grade_5 (Nat.le_of_ble_eq_true rfl) rfl rfl iuX9 (Nat.le_of_ble_eq_true rfl) uw_218 rfl rfl ?_
  refine q_aload_n dX9_grade_8 rfl ?_
  refine q_get (j := 1) (v := .ref 3) dX9_grade_9 (Nat.le_of_ble_eq_true rfl) rfl rfl iuX9 (Nat.le_of_ble_eq_true rfl) uw_209 rfl rfl ?_
  refine q_callVv (ν := mX5_gradePerMille) dX9_grade_12 uw_834 vX5_gradePerMille (c_X5_gra hG (s_BN (s_BD (s_EQ (s_MI (s_A0 (s_A1 (s_A2 (s_A3 S (svD (z_SV S) 1 N tg (svE (z_SV S) 0 8 ft N tg (z_EQ S)) (svM (z_SV S) 0 8 ft N tg (z_EQ S) (z_MI S)))) (svN (z_SV S) 1 8 ft N tg (svE (z_SV S) 0 8 ft N tg (z_EQ S)) (svM (z_SV S) 0 8 ft N tg (z_EQ S) (z_MI S)))) (svD (z_SV S) 0 N tg (z_EQ S) (z_MI S))) (svN (z_SV S) 0 8 ft N tg (z_EQ S) (z_MI S))) (svM (z_SV S) 1 8 ft N tg (svE (z_SV S) 0 8 ft N tg (z_EQ S)) (svM (z_SV S) 0 8 ft N tg (z_EQ S) (z_MI S)))) (svE (z_SV S) 1 8 ft N tg (svE (z_SV S) 0 8 ft N tg (z_EQ S)))) (svD (z_SV S) 1 N tg (svE (z_SV S) 0 8 ft N tg (z_EQ S)) (svM (z_SV S) 0 8 ft N tg (z_EQ S) (z_MI S)))) (svN (z_SV S) 1 8 ft N tg (svE (z_SV S) 0 8 ft N tg (z_EQ S)) (svM (z_SV S) 0 8 ft N tg (z_EQ S) (z_MI S)))) ) (Nat.le_of_ble_eq_true rfl) rfl rfl rfl rfl (Nat.le_of_ble_eq_true rfl) (Nat.le_of_ble_eq_true rfl) (Nat.le_of_ble_eq_true rfl) 0 (Nat.le_of_ble_eq_true rfl) ?_
  refine wp_eq (st2 := .int ((graF ((z_SV S) (2 + 0)) ((z_SV S) (2 + 1)) (svN (z_SV S) 0 8 ft N tg (z_EQ S) (z_MI S)) (svD (z_SV S) 0 N tg (z_EQ S) (z_MI S)) (svN (z_SV S) 1 8 ft N tg (svE (z_SV S) 0 8 ft N tg (z_EQ S)) (svM (z_SV S) 0 8 ft N tg (z_EQ S) (z_MI S))) (svD (z_SV S) 1 N tg (svE (z_SV S) 0 8 ft N tg (z_EQ S)) (svM (z_SV S) 0 8 ft N tg (z_EQ S) (z_MI S))))) :: _) rfl ?_
  exact q_iret dX9_grade_15 rfl ⟨rfl, rfl⟩
set_option maxRecDepth 100000 in
set_option maxHeartbeats 4000000 in
theorem c_X9_grade_x {g : G0} (hG : Gd g) (S : SS)  (ft : Nat) (N : Nat) (tg : Nat → Nat) (h1 : tgts (z_SV S) N ft tg) (h2 : ¬ (0 < svD (z_SV S) 0 N tg (z_EQ S) (z_MI S) ∧ 0 < svD (z_SV S) 1 N tg (svE (z_SV S) 0 8 ft N tg (z_EQ S)) (svM (z_SV S) 0 8 ft N tg (z_EQ S) (z_MI S)))) : ctt g mX9_grade [.ref 0] (mixW g S) EIS (mixW g (s_BN (s_BD (s_EQ (s_MI (s_A0 (s_A1 (s_A2 (s_A3 S (svD (z_SV S) 1 N tg (svE (z_SV S) 0 8 ft N tg (z_EQ S)) (svM (z_SV S) 0 8 ft N tg (z_EQ S) (z_MI S)))) (svN (z_SV S) 1 8 ft N tg (svE (z_SV S) 0 8 ft N tg (z_EQ S)) (svM (z_SV S) 0 8 ft N tg (z_EQ S) (z_MI S)))) (svD (z_SV S) 0 N tg (z_EQ S) (z_MI S))) (svN (z_SV S) 0 8 ft N tg (z_EQ S) (z_MI S))) (svM (z_SV S) 1 8 ft N tg (svE (z_SV S) 0 8 ft N tg (z_EQ S)) (svM (z_SV S) 0 8 ft N tg (z_EQ S) (z_MI S)))) (svE (z_SV S) 1 8 ft N tg (svE (z_SV S) 0 8 ft N tg (z_EQ S)))) (svD (z_SV S) 1 N tg (svE (z_SV S) 0 8 ft N tg (z_EQ S)) (svM (z_SV S) 0 8 ft N tg (z_EQ S) (z_MI S)))) (svN (z_SV S) 1 8 ft N tg (svE (z_SV S) 0 8 ft N tg (z_EQ S)) (svM (z_SV S) 0 8 ft N tg (z_EQ S) (z_MI S))))) := by
  refine ct_of hG [some (.ref 0)] rfl rfl rfl (Nat.le_of_ble_eq_true rfl) (fun h => ?_) rfl
  refine q_aload_n dX9_grade_0 rfl ?_
  exact q_callVt (ν := mX9_requireSteadyState) dX9_grade_1 uw_822 vX9_requireSteadyState (c_X9_requireSteadyState_x hG S (ft) (N) (tg) h1 h2) (Nat.le_of_ble_eq_true rfl) rfl rfl rfl rfl (Nat.le_of_ble_eq_true rfl) (Nat.le_of_ble_eq_true rfl) (Nat.le_of_ble_eq_true rfl) 0 (Nat.le_of_ble_eq_true rfl) rfl ⟨rfl, rfl⟩
set_option maxRecDepth 100000 in
set_option maxHeartbeats 4000000 in
theorem c_X9_solveFlow_ok {g : G0} (hG : Gd g) (S : SS) (t : Nat) (d : Nat) (ft : Nat) (N : Nat) (tg : Nat → Nat) (h1 : tgts (z_SV S) N ft tg) (h2 : t < N ∨ t = 8 ∨ t = 9) (h3 : d < 2) (h4 : 0 < svD (z_SV S) d N tg (z_EQ S) (z_MI S)) : ctu g mX9_solveFlow [.ref 0, .int (nI t), .int (nI d)] (mixW g S) (mixW g (s_BN (s_BD (s_EQ (s_MI S (svM (z_SV S) d t ft N tg (z_EQ S) (z_MI S))) (svE (z_SV S) d t ft N tg (z_EQ S))) (svD (z_SV S) d N tg (z_EQ S) (z_MI S))) (svN (z_SV S) d t ft N tg (z_EQ S) (z_MI S)))) := by
  refine ct_of hG [some (.ref 0), some (.int (nI t)), some (.int (nI d))] rfl rfl rfl (Nat.le_of_ble_eq_true rfl) (fun h => ?_) rfl
  have t1 := h1.1
  have t2 := h1.2.1
  refine q_aload_n dX9_solveFlow_0 rfl ?_
  refine q_get (j := 1) (v := .ref 3) dX9_solveFlow_1 (Nat.le_of_ble_eq_true rfl) rfl rfl iuX9 (Nat.le_of_ble_eq_true rfl) uw_209 rfl rfl ?_
  refine q_iload_n dX9_solveFlow_4 rfl ?_
  refine q_callVv (ν := mX7_has) dX9_solveFlow_5 uw_625 vX7_has (c_X7_has_3 hG S ((nI t))) (Nat.le_of_ble_eq_true rfl) rfl rfl rfl rfl (Nat.le_of_ble_eq_true rfl) (Nat.le_of_ble_eq_true rfl) (Nat.le_of_ble_eq_true rfl) 3 (Nat.le_of_ble_eq_true rfl) ?_
  refine wp_top (y := pI (t < N)) (has_nI t1 (by omega) (by omega)) ?_
  refine q_if_ne 29 dX9_solveFlow_8 rfl (fun c8 => ?_) (fun c8 => ?_)
  · refine q_iload_n dX9_solveFlow_29 rfl ?_
    refine q_callSx (ν := mX9_requireOneOfTwo) dX9_solveFlow_30 uw_642 vX9_requireOneOfTwo (c_X9_requireOneOfTwo_x hG S ((nI d))) rfl rfl (Nat.le_of_ble_eq_true rfl) (Nat.le_of_ble_eq_true rfl) (Nat.le_of_ble_eq_true rfl) 2 (Nat.le_of_ble_eq_true rfl) rfl (fun z => (z (two_ok (by omega))).elim) (fun c30 => ?_)
    refine wp_eq (st2 := []) rfl ?_
    refine q_aload_n dX9_solveFlow_33 rfl ?_
    refine q_get (j := 7) (v := .ref 15) dX9_solveFlow_34 (Nat.le_of_ble_eq_true rfl) rfl rfl iuX9 (Nat.le_of_ble_eq_true rfl) uw_215 rfl rfl ?_
    refine q_aload_n dX9_solveFlow_37 rfl ?_
    refine q_get (j := 1) (v := .ref 3) dX9_solveFlow_38 (Nat.le_of_ble_eq_true rfl) rfl rfl iuX9 (Nat.le_of_ble_eq_true rfl) uw_209 rfl rfl ?_
    refine q_iload_n dX9_solveFlow_41 rfl ?_
    refine q_iload_n dX9_solveFlow_42 rfl ?_
    refine q_callVu (ν := mX0_solve) dX9_solveFlow_43 uw_791 vX0_solve (c_X0_solve_3 hG S (d) (t) (ft) (N) (tg) h3 (by omega) h1) (Nat.le_of_ble_eq_true rfl) rfl rfl rfl rfl (Nat.le_of_ble_eq_true rfl) (Nat.le_of_ble_eq_true rfl) (Nat.le_of_ble_eq_true rfl) 2 (Nat.le_of_ble_eq_true rfl) ?_
    refine wp_w (w2 := mixW g (s_BN (s_BD (s_EQ (s_MI S (svM (z_SV S) d t ft N tg (z_EQ S) (z_MI S))) (svE (z_SV S) d t ft N tg (z_EQ S))) (svD (z_SV S) d N tg (z_EQ S) (z_MI S))) (svN (z_SV S) d t ft N tg (z_EQ S) (z_MI S)))) rfl ?_
    refine q_aload_n dX9_solveFlow_46 rfl ?_
    refine q_get (j := 7) (v := .ref 15) dX9_solveFlow_47 (Nat.le_of_ble_eq_true rfl) rfl rfl iuX9 (Nat.le_of_ble_eq_true rfl) uw_215 rfl rfl ?_
    refine q_callVv (ν := mX0_isSolved) dX9_solveFlow_50 uw_792 vX0_isSolved (c_X0_isSolved hG (s_BN (s_BD (s_EQ (s_MI S (svM (z_SV S) d t ft N tg (z_EQ S) (z_MI S))) (svE (z_SV S) d t ft N tg (z_EQ S))) (svD (z_SV S) d N tg (z_EQ S) (z_MI S))) (svN (z_SV S) d t ft N tg (z_EQ S) (z_MI S))) ) (Nat.le_of_ble_eq_true rfl) rfl rfl rfl rfl (Nat.le_of_ble_eq_true rfl) (Nat.le_of_ble_eq_true rfl) (Nat.le_of_ble_eq_true rfl) 2 (Nat.le_of_ble_eq_true rfl) ?_
    refine wp_eq (st2 := .int ((pI (0 < (svD (z_SV S) d N tg (z_EQ S) (z_MI S))))) :: _) rfl ?_
    refine q_if_ne 67 dX9_solveFlow_53 rfl (fun c53 => ?_) (fun c53 => ?_)
    · exact q_vret dX9_solveFlow_67 rfl ⟨rfl, rfl⟩
    · exact absurd h4 (pI_0 c53)
  · refine q_iload_n dX9_solveFlow_11 rfl ?_
    refine q_callSv (ν := mX9_isProduct) dX9_solveFlow_12 uw_672 vX9_isProduct (c_X9_isProduct hG S (t) (by omega)) rfl rfl (Nat.le_of_ble_eq_true rfl) (Nat.le_of_ble_eq_true rfl) (Nat.le_of_ble_eq_true rfl) 3 (Nat.le_of_ble_eq_true rfl) ?_
    refine q_if_ne 29 dX9_solveFlow_15 rfl (fun c15 => ?_) (fun c15 => ?_)
    · refine q_iload_n dX9_solveFlow_29 rfl ?_
      refine q_callSx (ν := mX9_requireOneOfTwo) dX9_solveFlow_30 uw_642 vX9_requireOneOfTwo (c_X9_requireOneOfTwo_x hG S ((nI d))) rfl rfl (Nat.le_of_ble_eq_true rfl) (Nat.le_of_ble_eq_true rfl) (Nat.le_of_ble_eq_true rfl) 2 (Nat.le_of_ble_eq_true rfl) rfl (fun z => (z (two_ok (by omega))).elim) (fun c30 => ?_)
      refine wp_eq (st2 := []) rfl ?_
      refine q_aload_n dX9_solveFlow_33 rfl ?_
      refine q_get (j := 7) (v := .ref 15) dX9_solveFlow_34 (Nat.le_of_ble_eq_true rfl) rfl rfl iuX9 (Nat.le_of_ble_eq_true rfl) uw_215 rfl rfl ?_
      refine q_aload_n dX9_solveFlow_37 rfl ?_
      refine q_get (j := 1) (v := .ref 3) dX9_solveFlow_38 (Nat.le_of_ble_eq_true rfl) rfl rfl iuX9 (Nat.le_of_ble_eq_true rfl) uw_209 rfl rfl ?_
      refine q_iload_n dX9_solveFlow_41 rfl ?_
      refine q_iload_n dX9_solveFlow_42 rfl ?_
      refine q_callVu (ν := mX0_solve) dX9_solveFlow_43 uw_791 vX0_solve (c_X0_solve_3 hG S (d) (t) (ft) (N) (tg) h3 (by omega) h1) (Nat.le_of_ble_eq_true rfl) rfl rfl rfl rfl (Nat.le_of_ble_eq_true rfl) (Nat.le_of_ble_eq_true rfl) (Nat.le_of_ble_eq_true rfl) 2 (Nat.le_of_ble_eq_true rfl) ?_
      refine wp_w (w2 := mixW g (s_BN (s_BD (s_EQ (s_MI S (svM (z_SV S) d t ft N tg (z_EQ S) (z_MI S))) (svE (z_SV S) d t ft N tg (z_EQ S))) (svD (z_SV S) d N tg (z_EQ S) (z_MI S))) (svN (z_SV S) d t ft N tg (z_EQ S) (z_MI S)))) rfl ?_
      refine q_aload_n dX9_solveFlow_46 rfl ?_
      refine q_get (j := 7) (v := .ref 15) dX9_solveFlow_47 (Nat.le_of_ble_eq_true rfl) rfl rfl iuX9 (Nat.le_of_ble_eq_true rfl) uw_215 rfl rfl ?_
      refine q_callVv (ν := mX0_isSolved) dX9_solveFlow_50 uw_792 vX0_isSolved (c_X0_isSolved hG (s_BN (s_BD (s_EQ (s_MI S (svM (z_SV S) d t ft N tg (z_EQ S) (z_MI S))) (svE (z_SV S) d t ft N tg (z_EQ S))) (svD (z_SV S) d N tg (z_EQ S) (z_MI S))) (svN (z_SV S) d t ft N tg (z_EQ S) (z_MI S))) ) (Nat.le_of_ble_eq_true rfl) rfl rfl rfl rfl (Nat.le_of_ble_eq_true rfl) (Nat.le_of_ble_eq_true rfl) (Nat.le_of_ble_eq_true rfl) 2 (Nat.le_of_ble_eq_true rfl) ?_
      refine wp_eq (st2 := .int ((pI (0 < (svD (z_SV S) d N tg (z_EQ S) (z_MI S))))) :: _) rfl ?_
      refine q_if_ne 67 dX9_solveFlow_53 rfl (fun c53 => ?_) (fun c53 => ?_)
      · exact q_vret dX9_solveFlow_67 rfl ⟨rfl, rfl⟩
      · exact absurd h4 (pI_0 c53)
    · exact absurd (h2.resolve_left (pI_0 c8)) (pI_0 c15)
set_option maxRecDepth 100000 in
set_option maxHeartbeats 4000000 in
theorem c_X9_solveFlow_x2 {g : G0} (hG : Gd g) (S : SS) (t : Nat) (d : Nat) (ft : Nat) (N : Nat) (tg : Nat → Nat) (h1 : tgts (z_SV S) N ft tg) (h2 : t < N ∨ t = 8 ∨ t = 9) (h3 : d < 2) (h4 : ¬ 0 < svD (z_SV S) d N tg (z_EQ S) (z_MI S)) : ctt g mX9_solveFlow [.ref 0, .int (nI t), .int (nI d)] (mixW g S) EIS (mixW g (s_BN (s_BD (s_EQ (s_MI S (svM (z_SV S) d t ft N tg (z_EQ S) (z_MI S))) (svE (z_SV S) d t ft N tg (z_EQ S))) (svD (z_SV S) d N tg (z_EQ S) (z_MI S))) (svN (z_SV S) d t ft N tg (z_EQ S) (z_MI S)))) := by
  refine ct_of hG [some (.ref 0), some (.int (nI t)), some (.int (nI d))] rfl rfl rfl (Nat.le_of_ble_eq_true rfl) (fun h => ?_) rfl
  have t1 := h1.1
  have t2 := h1.2.1
  refine q_aload_n dX9_solveFlow_0 rfl ?_
  refine q_get (j := 1) (v := .ref 3) dX9_solveFlow_1 (Nat.le_of_ble_eq_true rfl) rfl rfl iuX9 (Nat.le_of_ble_eq_true rfl) uw_209 rfl rfl ?_
  refine q_iload_n dX9_solveFlow_4 rfl ?_
  refine q_callVv (ν := mX7_has) dX9_solveFlow_5 uw_625 vX7_has (c_X7_has_3 hG S ((nI t))) (Nat.le_of_ble_eq_true rfl) rfl rfl rfl rfl (Nat.le_of_ble_eq_true rfl) (Nat.le_of_ble_eq_true rfl) (Nat.le_of_ble_eq_true rfl) 3 (Nat.le_of_ble_eq_true rfl) ?_
  refine wp_top (y := pI (t < N)) (has_nI t1 (by omega) (by omega)) ?_
  refine q_if_ne 29 dX9_solveFlow_8 rfl (fun c8 => ?_) (fun c8 => ?_)
  · refine q_iload_n dX9_solveFlow_29 rfl ?_
    refine q_callSx (ν := mX9_requireOneOfTwo) dX9_solveFlow_30 uw_642 vX9_requireOneOfTwo (c_X9_requireOneOfTwo_x hG S ((nI d))) rfl rfl (Nat.le_of_ble_eq_true rfl) (Nat.le_of_ble_eq_true rfl) (Nat.le_of_ble_eq_true rfl) 2 (Nat.le_of_ble_eq_true rfl) rfl (fun z => (z (two_ok (by omega))).elim) (fun c30 => ?_)
    refine wp_eq (st2 := []) rfl ?_
    refine q_aload_n dX9_solveFlow_33 rfl ?_
    refine q_get (j := 7) (v := .ref 15) dX9_solveFlow_34 (Nat.le_of_ble_eq_true rfl) rfl rfl iuX9 (Nat.le_of_ble_eq_true rfl) uw_215 rfl rfl ?_
    refine q_aload_n dX9_solveFlow_37 rfl ?_
    refine q_get (j := 1) (v := .ref 3) dX9_solveFlow_38 (Nat.le_of_ble_eq_true rfl) rfl rfl iuX9 (Nat.le_of_ble_eq_true rfl) uw_209 rfl rfl ?_
    refine q_iload_n dX9_solveFlow_41 rfl ?_
    refine q_iload_n dX9_solveFlow_42 rfl ?_
    refine q_callVu (ν := mX0_solve) dX9_solveFlow_43 uw_791 vX0_solve (c_X0_solve_3 hG S (d) (t) (ft) (N) (tg) h3 (by omega) h1) (Nat.le_of_ble_eq_true rfl) rfl rfl rfl rfl (Nat.le_of_ble_eq_true rfl) (Nat.le_of_ble_eq_true rfl) (Nat.le_of_ble_eq_true rfl) 2 (Nat.le_of_ble_eq_true rfl) ?_
    refine wp_w (w2 := mixW g (s_BN (s_BD (s_EQ (s_MI S (svM (z_SV S) d t ft N tg (z_EQ S) (z_MI S))) (svE (z_SV S) d t ft N tg (z_EQ S))) (svD (z_SV S) d N tg (z_EQ S) (z_MI S))) (svN (z_SV S) d t ft N tg (z_EQ S) (z_MI S)))) rfl ?_
    refine q_aload_n dX9_solveFlow_46 rfl ?_
    refine q_get (j := 7) (v := .ref 15) dX9_solveFlow_47 (Nat.le_of_ble_eq_true rfl) rfl rfl iuX9 (Nat.le_of_ble_eq_true rfl) uw_215 rfl rfl ?_
    refine q_callVv (ν := mX0_isSolved) dX9_solveFlow_50 uw_792 vX0_isSolved (c_X0_isSolved hG (s_BN (s_BD (s_EQ (s_MI S (svM (z_SV S) d t ft N tg (z_EQ S) (z_MI S))) (svE (z_SV S) d t ft N tg (z_EQ S))) (svD (z_SV S) d N tg (z_EQ S) (z_MI S))) (svN (z_SV S) d t ft N tg (z_EQ S) (z_MI S))) ) (Nat.le_of_ble_eq_true rfl) rfl rfl rfl rfl (Nat.le_of_ble_eq_true rfl) (Nat.le_of_ble_eq_true rfl) (Nat.le_of_ble_eq_true rfl) 2 (Nat.le_of_ble_eq_true rfl) ?_
    refine wp_eq (st2 := .int ((pI (0 < (svD (z_SV S) d N tg (z_EQ S) (z_MI S))))) :: _) rfl ?_
    refine q_if_ne 67 dX9_solveFlow_53 rfl (fun c53 => ?_) (fun c53 => ?_)
    · exact absurd (pI_1 c53) h4
    · exact q_throwW dX9_solveFlow_56 dX9_solveFlow_59 dX9_solveFlow_60 dX9_solveFlow_63 dX9_solveFlow_66 uw_551 uw_54 (List.mem_of_getElem? (i := 11) rfl) okT_IS rfl rfl (Nat.le_of_ble_eq_true rfl) (Nat.le_of_ble_eq_true rfl) (Nat.le_of_ble_eq_true rfl) (Nat.le_of_ble_eq_true rfl) ⟨rfl, rfl⟩
  · refine q_iload_n dX9_solveFlow_11 rfl ?_
    refine q_callSv (ν := mX9_isProduct) dX9_solveFlow_12 uw_672 vX9_isProduct (c_X9_isProduct hG S (t) (by omega)) rfl rfl (Nat.le_of_ble_eq_true rfl) (Nat.le_of_ble_eq_true rfl) (Nat.le_of_ble_eq_true rfl) 3 (Nat.le_of_ble_eq_true rfl) ?_
    refine q_if_ne 29 dX9_solveFlow_15 rfl (fun c15 => ?_) (fun c15 => ?_)
    · refine q_iload_n dX9_solveFlow_29 rfl ?_
      refine q_callSx (ν := mX9_requireOneOfTwo) dX9_solveFlow_30 uw_642 vX9_requireOneOfTwo (c_X9_requireOneOfTwo_x hG S ((nI d))) rfl rfl (Nat.le_of_ble_eq_true rfl) (Nat.le_of_ble_eq_true rfl) (Nat.le_of_ble_eq_true rfl) 2 (Nat.le_of_ble_eq_true rfl) rfl (fun z => (z (two_ok (by omega))).elim) (fun c30 => ?_)
      refine wp_eq (st2 := []) rfl ?_
      refine q_aload_n dX9_solveFlow_33 rfl ?_
      refine q_get (j := 7) (v := .ref 15) dX9_solveFlow_34 (Nat.le_of_ble_eq_true rfl) rfl rfl iuX9 (Nat.le_of_ble_eq_true rfl) uw_215 rfl rfl ?_
      refine q_aload_n dX9_solveFlow_37 rfl ?_
      refine q_get (j := 1) (v := .ref 3) dX9_solveFlow_38 (Nat.le_of_ble_eq_true rfl) rfl rfl iuX9 (Nat.le_of_ble_eq_true rfl) uw_209 rfl rfl ?_
      refine q_iload_n dX9_solveFlow_41 rfl ?_
      refine q_iload_n dX9_solveFlow_42 rfl ?_
      refine q_callVu (ν := mX0_solve) dX9_solveFlow_43 uw_791 vX0_solve (c_X0_solve_3 hG S (d) (t) (ft) (N) (tg) h3 (by omega) h1) (Nat.le_of_ble_eq_true rfl) rfl rfl rfl rfl (Nat.le_of_ble_eq_true rfl) (Nat.le_of_ble_eq_true rfl) (Nat.le_of_ble_eq_true rfl) 2 (Nat.le_of_ble_eq_true rfl) ?_
      refine wp_w (w2 := mixW g (s_BN (s_BD (s_EQ (s_MI S (svM (z_SV S) d t ft N tg (z_EQ S) (z_MI S))) (svE (z_SV S) d t ft N tg (z_EQ S))) (svD (z_SV S) d N tg (z_EQ S) (z_MI S))) (svN (z_SV S) d t ft N tg (z_EQ S) (z_MI S)))) rfl ?_
      refine q_aload_n dX9_solveFlow_46 rfl ?_
      refine q_get (j := 7) (v := .ref 15) dX9_solveFlow_47 (Nat.le_of_ble_eq_true rfl) rfl rfl iuX9 (Nat.le_of_ble_eq_true rfl) uw_215 rfl rfl ?_
      refine q_callVv (ν := mX0_isSolved) dX9_solveFlow_50 uw_792 vX0_isSolved (c_X0_isSolved hG (s_BN (s_BD (s_EQ (s_MI S (svM (z_SV S) d t ft N tg (z_EQ S) (z_MI S))) (svE (z_SV S) d t ft N tg (z_EQ S))) (svD (z_SV S) d N tg (z_EQ S) (z_MI S))) (svN (z_SV S) d t ft N tg (z_EQ S) (z_MI S))) ) (Nat.le_of_ble_eq_true rfl) rfl rfl rfl rfl (Nat.le_of_ble_eq_true rfl) (Nat.le_of_ble_eq_true rfl) (Nat.le_of_ble_eq_true rfl) 2 (Nat.le_of_ble_eq_true rfl) ?_
      refine wp_eq (st2 := .int ((pI (0 < (svD (z_SV S) d N tg (z_EQ S) (z_MI S))))) :: _) rfl ?_
      refine q_if_ne 67 dX9_solveFlow_53 rfl (fun c53 => ?_) (fun c53 => ?_)
      · exact absurd (pI_1 c53) h4
      · exact q_throwW dX9_solveFlow_56 dX9_solveFlow_59 dX9_solveFlow_60 dX9_solveFlow_63 dX9_solveFlow_66 uw_551 uw_54 (List.mem_of_getElem? (i := 11) rfl) okT_IS rfl rfl (Nat.le_of_ble_eq_true rfl) (Nat.le_of_ble_eq_true rfl) (Nat.le_of_ble_eq_true rfl) (Nat.le_of_ble_eq_true rfl) ⟨rfl, rfl⟩
    · exact absurd (h2.resolve_left (pI_0 c8)) (pI_0 c15)
set_option maxRecDepth 100000 in
set_option maxHeartbeats 4000000 in
theorem c_X9_solveFlow_x1 {g : G0} (hG : Gd g) (S : SS) (x : Int32) (y : Int32)  (h1 : ¬ (((0 ≤ x ∧ x < (z_SV S) 0) ∨ (x = 8 ∨ x = 9)) ∧ (y = 0 ∨ y = 1))) : ctt g mX9_solveFlow [.ref 0, .int x, .int y] (mixW g S) EIO (mixW g S) := by
  refine ct_of hG [some (.ref 0), some (.int (x)), some (.int (y))] rfl rfl rfl (Nat.le_of_ble_eq_true rfl) (fun h => ?_) rfl
  refine q_aload_n dX9_solveFlow_0 rfl ?_
  refine q_get (j := 1) (v := .ref 3) dX9_solveFlow_1 (Nat.le_of_ble_eq_true rfl) rfl rfl iuX9 (Nat.le_of_ble_eq_true rfl) uw_209 rfl rfl ?_
  refine q_iload_n dX9_solveFlow_4 rfl ?_
  refine q_callVv (ν := mX7_has) dX9_solveFlow_5 uw_625 vX7_has (c_X7_has_3 hG S (x)) (Nat.le_of_ble_eq_true rfl) rfl rfl rfl rfl (Nat.le_of_ble_eq_true rfl) (Nat.le_of_ble_eq_true rfl) (Nat.le_of_ble_eq_true rfl) 3 (Nat.le_of_ble_eq_true rfl) ?_
  refine q_if_ne 29 dX9_solveFlow_8 rfl (fun c8 => ?_) (fun c8 => ?_)
  · refine q_iload_n dX9_solveFlow_29 rfl ?_
    refine q_callSx (ν := mX9_requireOneOfTwo) dX9_solveFlow_30 uw_642 vX9_requireOneOfTwo (c_X9_requireOneOfTwo_x hG S (y)) rfl rfl (Nat.le_of_ble_eq_true rfl) (Nat.le_of_ble_eq_true rfl) (Nat.le_of_ble_eq_true rfl) 2 (Nat.le_of_ble_eq_true rfl) rfl (fun z => ⟨rfl, rfl⟩) (fun c30 => ?_)
    refine wp_eq (st2 := []) rfl ?_
    exact absurd ⟨by first | exact Or.inl (bI_1 c8) | exact Or.inr (pI_1 c15), c30⟩ h1
  · refine q_iload_n dX9_solveFlow_11 rfl ?_
    refine q_callSv (ν := mX9_isProduct) dX9_solveFlow_12 uw_672 vX9_isProduct (c_X9_isProductI hG S (x)) rfl rfl (Nat.le_of_ble_eq_true rfl) (Nat.le_of_ble_eq_true rfl) (Nat.le_of_ble_eq_true rfl) 3 (Nat.le_of_ble_eq_true rfl) ?_
    refine q_if_ne 29 dX9_solveFlow_15 rfl (fun c15 => ?_) (fun c15 => ?_)
    · refine q_iload_n dX9_solveFlow_29 rfl ?_
      refine q_callSx (ν := mX9_requireOneOfTwo) dX9_solveFlow_30 uw_642 vX9_requireOneOfTwo (c_X9_requireOneOfTwo_x hG S (y)) rfl rfl (Nat.le_of_ble_eq_true rfl) (Nat.le_of_ble_eq_true rfl) (Nat.le_of_ble_eq_true rfl) 2 (Nat.le_of_ble_eq_true rfl) rfl (fun z => ⟨rfl, rfl⟩) (fun c30 => ?_)
      refine wp_eq (st2 := []) rfl ?_
      exact absurd ⟨by first | exact Or.inl (bI_1 c8) | exact Or.inr (pI_1 c15), c30⟩ h1
    · exact q_throwW dX9_solveFlow_18 dX9_solveFlow_21 dX9_solveFlow_22 dX9_solveFlow_25 dX9_solveFlow_28 uw_626 uw_55 (List.mem_of_getElem? (i := 10) rfl) okT_IO rfl rfl (Nat.le_of_ble_eq_true rfl) (Nat.le_of_ble_eq_true rfl) (Nat.le_of_ble_eq_true rfl) (Nat.le_of_ble_eq_true rfl) ⟨rfl, rfl⟩
set_option maxRecDepth 100000 in
set_option maxHeartbeats 4000000 in
theorem c_X9_flowNumerator {g : G0} (hG : Gd g) (S : SS) (t : Nat) (d : Nat) (ft : Nat) (N : Nat) (tg : Nat → Nat) (h1 : tgts (z_SV S) N ft tg) (h2 : t < N ∨ t = 8 ∨ t = 9) (h3 : d < 2) (h4 : 0 < svD (z_SV S) d N tg (z_EQ S) (z_MI S)) : ctv g mX9_flowNumerator [.ref 0, .int (nI t), .int (nI d)] (mixW g S) (.long (rnF ((z_SV S) (2 + d)).toInt64 (svN (z_SV S) d t ft N tg (z_EQ S) (z_MI S)) (svD (z_SV S) d N tg (z_EQ S) (z_MI S)))) (mixW g (s_BN (s_BD (s_EQ (s_MI S (svM (z_SV S) d t ft N tg (z_EQ S) (z_MI S))) (svE (z_SV S) d t ft N tg (z_EQ S))) (svD (z_SV S) d N tg (z_EQ S) (z_MI S))) (svN (z_SV S) d t ft N tg (z_EQ S) (z_MI S)))) := by
  refine ct_of hG [some (.ref 0), some (.int (nI t)), some (.int (nI d))] rfl rfl rfl (Nat.le_of_ble_eq_true rfl) (fun h => ?_) rfl
  refine q_aload_n dX9_flowNumerator_0 rfl ?_
  refine q_iload_n dX9_flowNumerator_1 rfl ?_
  refine q_iload_n dX9_flowNumerator_2 rfl ?_
  refine q_callVu (ν := mX9_solveFlow) dX9_flowNumerator_3 uw_786 vX9_solveFlow (c_X9_solveFlow_ok hG S (t) (d) (ft) (N) (tg) h1 h2 h3 h4) (Nat.le_of_ble_eq_true rfl) rfl rfl rfl rfl (Nat.le_of_ble_eq_true rfl) (Nat.le_of_ble_eq_true rfl) (Nat.le_of_ble_eq_true rfl) 0 (Nat.le_of_ble_eq_true rfl) ?_
  refine wp_w (w2 := mixW g (s_BN (s_BD (s_EQ (s_MI S (svM (z_SV S) d t ft N tg (z_EQ S) (z_MI S))) (svE (z_SV S) d t ft N tg (z_EQ S))) (svD (z_SV S) d N tg (z_EQ S) (z_MI S))) (svN (z_SV S) d t ft N tg (z_EQ S) (z_MI S)))) rfl ?_
  refine q_aload_n dX9_flowNumerator_6 rfl ?_
  refine q_get (j := 7) (v := .ref 15) dX9_flowNumerator_7 (Nat.le_of_ble_eq_true rfl) rfl rfl iuX9 (Nat.le_of_ble_eq_true rfl) uw_215 rfl rfl ?_
  refine q_aload_n dX9_flowNumerator_10 rfl ?_
  refine q_get (j := 1) (v := .ref 3) dX9_flowNumerator_11 (Nat.le_of_ble_eq_true rfl) rfl rfl iuX9 (Nat.le_of_ble_eq_true rfl) uw_209 rfl rfl ?_
  refine q_iload_n dX9_flowNumerator_14 rfl ?_
  refine q_callVv (ν := mX7_feed) dX9_flowNumerator_15 uw_661 vX7_feed (c_X7_feed_3 hG (s_BN (s_BD (s_EQ (s_MI S (svM (z_SV S) d t ft N tg (z_EQ S) (z_MI S))) (svE (z_SV S) d t ft N tg (z_EQ S))) (svD (z_SV S) d N tg (z_EQ S) (z_MI S))) (svN (z_SV S) d t ft N tg (z_EQ S) (z_MI S))) (d) (by omega)) (Nat.le_of_ble_eq_true rfl) rfl rfl rfl rfl (Nat.le_of_ble_eq_true rfl) (Nat.le_of_ble_eq_true rfl) (Nat.le_of_ble_eq_true rfl) 0 (Nat.le_of_ble_eq_true rfl) ?_
  refine wp_eq (st2 := .int (((z_SV S) (2 + d))) :: _) rfl ?_
  refine q_callVv (ν := mX0_reducedNumerator) dX9_flowNumerator_18 uw_797 vX0_reducedNumerator (c_X0_redN hG (s_BN (s_BD (s_EQ (s_MI S (svM (z_SV S) d t ft N tg (z_EQ S) (z_MI S))) (svE (z_SV S) d t ft N tg (z_EQ S))) (svD (z_SV S) d N tg (z_EQ S) (z_MI S))) (svN (z_SV S) d t ft N tg (z_EQ S) (z_MI S))) ((((z_SV S) (2 + d))))) (Nat.le_of_ble_eq_true rfl) rfl rfl rfl rfl (Nat.le_of_ble_eq_true rfl) (Nat.le_of_ble_eq_true rfl) (Nat.le_of_ble_eq_true rfl) 0 (Nat.le_of_ble_eq_true rfl) ?_
  refine wp_eq (st2 := .long ((rnF (((z_SV S) (2 + d))).toInt64 (svN (z_SV S) d t ft N tg (z_EQ S) (z_MI S)) (svD (z_SV S) d N tg (z_EQ S) (z_MI S)))) :: _) rfl ?_
  exact q_lret dX9_flowNumerator_21 rfl ⟨rfl, rfl⟩
set_option maxRecDepth 100000 in
set_option maxHeartbeats 4000000 in
theorem c_X9_flowNumerator_x2 {g : G0} (hG : Gd g) (S : SS) (t : Nat) (d : Nat) (ft : Nat) (N : Nat) (tg : Nat → Nat) (h1 : tgts (z_SV S) N ft tg) (h2 : t < N ∨ t = 8 ∨ t = 9) (h3 : d < 2) (h4 : ¬ 0 < svD (z_SV S) d N tg (z_EQ S) (z_MI S)) : ctt g mX9_flowNumerator [.ref 0, .int (nI t), .int (nI d)] (mixW g S) EIS (mixW g (s_BN (s_BD (s_EQ (s_MI S (svM (z_SV S) d t ft N tg (z_EQ S) (z_MI S))) (svE (z_SV S) d t ft N tg (z_EQ S))) (svD (z_SV S) d N tg (z_EQ S) (z_MI S))) (svN (z_SV S) d t ft N tg (z_EQ S) (z_MI S)))) := by
  refine ct_of hG [some (.ref 0), some (.int (nI t)), some (.int (nI d))] rfl rfl rfl (Nat.le_of_ble_eq_true rfl) (fun h => ?_) rfl
  refine q_aload_n dX9_flowNumerator_0 rfl ?_
  refine q_iload_n dX9_flowNumerator_1 rfl ?_
  refine q_iload_n dX9_flowNumerator_2 rfl ?_
  exact q_callVt (ν := mX9_solveFlow) dX9_flowNumerator_3 uw_786 vX9_solveFlow (c_X9_solveFlow_x2 hG S (t) (d) (ft) (N) (tg) h1 h2 h3 h4) (Nat.le_of_ble_eq_true rfl) rfl rfl rfl rfl (Nat.le_of_ble_eq_true rfl) (Nat.le_of_ble_eq_true rfl) (Nat.le_of_ble_eq_true rfl) 0 (Nat.le_of_ble_eq_true rfl) rfl ⟨rfl, rfl⟩
set_option maxRecDepth 100000 in
set_option maxHeartbeats 4000000 in
theorem c_X9_flowNumerator_x1 {g : G0} (hG : Gd g) (S : SS) (x : Int32) (y : Int32)  (h1 : ¬ (((0 ≤ x ∧ x < (z_SV S) 0) ∨ (x = 8 ∨ x = 9)) ∧ (y = 0 ∨ y = 1))) : ctt g mX9_flowNumerator [.ref 0, .int x, .int y] (mixW g S) EIO (mixW g S) := by
  refine ct_of hG [some (.ref 0), some (.int (x)), some (.int (y))] rfl rfl rfl (Nat.le_of_ble_eq_true rfl) (fun h => ?_) rfl
  refine q_aload_n dX9_flowNumerator_0 rfl ?_
  refine q_iload_n dX9_flowNumerator_1 rfl ?_
  refine q_iload_n dX9_flowNumerator_2 rfl ?_
  exact q_callVt (ν := mX9_solveFlow) dX9_flowNumerator_3 uw_786 vX9_solveFlow (c_X9_solveFlow_x1 hG S (x) (y) h1) (Nat.le_of_ble_eq_true rfl) rfl rfl rfl rfl (Nat.le_of_ble_eq_true rfl) (Nat.le_of_ble_eq_true rfl) (Nat.le_of_ble_eq_true rfl) 0 (Nat.le_of_ble_eq_true rfl) rfl ⟨rfl, rfl⟩
set_option maxRecDepth 100000 in
set_option maxHeartbeats 4000000 in
theorem c_X9_flowDenominator {g : G0} (hG : Gd g) (S : SS) (t : Nat) (d : Nat) (ft : Nat) (N : Nat) (tg : Nat → Nat) (h1 : tgts (z_SV S) N ft tg) (h2 : t < N ∨ t = 8 ∨ t = 9) (h3 : d < 2) (h4 : 0 < svD (z_SV S) d N tg (z_EQ S) (z_MI S)) : ctv g mX9_flowDenominator [.ref 0, .int (nI t), .int (nI d)] (mixW g S) (.long (rdenF ((z_SV S) (2 + d)).toInt64 (svN (z_SV S) d t ft N tg (z_EQ S) (z_MI S)) (svD (z_SV S) d N tg (z_EQ S) (z_MI S)))) (mixW g (s_BN (s_BD (s_EQ (s_MI S (svM (z_SV S) d t ft N tg (z_EQ S) (z_MI S))) (svE (z_SV S) d t ft N tg (z_EQ S))) (svD (z_SV S) d N tg (z_EQ S) (z_MI S))) (svN (z_SV S) d t ft N tg (z_EQ S) (z_MI S)))) := by
  refine ct_of hG [some (.ref 0), some (.int (nI t)), some (.int (nI d))] rfl rfl rfl (Nat.le_of_ble_eq_true rfl) (fun h => ?_) rfl
  refine q_aload_n dX9_flowDenominator_0 rfl ?_
  refine q_iload_n dX9_flowDenominator_1 rfl ?_
  refine q_iload_n dX9_flowDenominator_2 rfl ?_
  refine q_callVu (ν := mX9_solveFlow) dX9_flowDenominator_3 uw_786 vX9_solveFlow (c_X9_solveFlow_ok hG S (t) (d) (ft) (N) (tg) h1 h2 h3 h4) (Nat.le_of_ble_eq_true rfl) rfl rfl rfl rfl (Nat.le_of_ble_eq_true rfl) (Nat.le_of_ble_eq_true rfl) (Nat.le_of_ble_eq_true rfl) 0 (Nat.le_of_ble_eq_true rfl) ?_
  refine wp_w (w2 := mixW g (s_BN (s_BD (s_EQ (s_MI S (svM (z_SV S) d t ft N tg (z_EQ S) (z_MI S))) (svE (z_SV S) d t ft N tg (z_EQ S))) (svD (z_SV S) d N tg (z_EQ S) (z_MI S))) (svN (z_SV S) d t ft N tg (z_EQ S) (z_MI S)))) rfl ?_
  refine q_aload_n dX9_flowDenominator_6 rfl ?_
  refine q_get (j := 7) (v := .ref 15) dX9_flowDenominator_7 (Nat.le_of_ble_eq_true rfl) rfl rfl iuX9 (Nat.le_of_ble_eq_true rfl) uw_215 rfl rfl ?_
  refine q_aload_n dX9_flowDenominator_10 rfl ?_
  refine q_get (j := 1) (v := .ref 3) dX9_flowDenominator_11 (Nat.le_of_ble_eq_true rfl) rfl rfl iuX9 (Nat.le_of_ble_eq_true rfl) uw_209 rfl rfl ?_
  refine q_iload_n dX9_flowDenominator_14 rfl ?_
  refine q_callVv (ν := mX7_feed) dX9_flowDenominator_15 uw_661 vX7_feed (c_X7_feed_3 hG (s_BN (s_BD (s_EQ (s_MI S (svM (z_SV S) d t ft N tg (z_EQ S) (z_MI S))) (svE (z_SV S) d t ft N tg (z_EQ S))) (svD (z_SV S) d N tg (z_EQ S) (z_MI S))) (svN (z_SV S) d t ft N tg (z_EQ S) (z_MI S))) (d) (by omega)) (Nat.le_of_ble_eq_true rfl) rfl rfl rfl rfl (Nat.le_of_ble_eq_true rfl) (Nat.le_of_ble_eq_true rfl) (Nat.le_of_ble_eq_true rfl) 0 (Nat.le_of_ble_eq_true rfl) ?_
  refine wp_eq (st2 := .int (((z_SV S) (2 + d))) :: _) rfl ?_
  refine q_callVv (ν := mX0_reducedDenominator) dX9_flowDenominator_18 uw_811 vX0_reducedDenominator (c_X0_redD hG (s_BN (s_BD (s_EQ (s_MI S (svM (z_SV S) d t ft N tg (z_EQ S) (z_MI S))) (svE (z_SV S) d t ft N tg (z_EQ S))) (svD (z_SV S) d N tg (z_EQ S) (z_MI S))) (svN (z_SV S) d t ft N tg (z_EQ S) (z_MI S))) ((((z_SV S) (2 + d))))) (Nat.le_of_ble_eq_true rfl) rfl rfl rfl rfl (Nat.le_of_ble_eq_true rfl) (Nat.le_of_ble_eq_true rfl) (Nat.le_of_ble_eq_true rfl) 0 (Nat.le_of_ble_eq_true rfl) ?_
  refine wp_eq (st2 := .long ((rdenF (((z_SV S) (2 + d))).toInt64 (svN (z_SV S) d t ft N tg (z_EQ S) (z_MI S)) (svD (z_SV S) d N tg (z_EQ S) (z_MI S)))) :: _) rfl ?_
  exact q_lret dX9_flowDenominator_21 rfl ⟨rfl, rfl⟩
set_option maxRecDepth 100000 in
set_option maxHeartbeats 4000000 in
theorem c_X9_flowDenominator_x2 {g : G0} (hG : Gd g) (S : SS) (t : Nat) (d : Nat) (ft : Nat) (N : Nat) (tg : Nat → Nat) (h1 : tgts (z_SV S) N ft tg) (h2 : t < N ∨ t = 8 ∨ t = 9) (h3 : d < 2) (h4 : ¬ 0 < svD (z_SV S) d N tg (z_EQ S) (z_MI S)) : ctt g mX9_flowDenominator [.ref 0, .int (nI t), .int (nI d)] (mixW g S) EIS (mixW g (s_BN (s_BD (s_EQ (s_MI S (svM (z_SV S) d t ft N tg (z_EQ S) (z_MI S))) (svE (z_SV S) d t ft N tg (z_EQ S))) (svD (z_SV S) d N tg (z_EQ S) (z_MI S))) (svN (z_SV S) d t ft N tg (z_EQ S) (z_MI S)))) := by
  refine ct_of hG [some (.ref 0), some (.int (nI t)), some (.int (nI d))] rfl rfl rfl (Nat.le_of_ble_eq_true rfl) (fun h => ?_) rfl
  refine q_aload_n dX9_flowDenominator_0 rfl ?_
  refine q_iload_n dX9_flowDenominator_1 rfl ?_
  refine q_iload_n dX9_flowDenominator_2 rfl ?_
  exact q_callVt (ν := mX9_solveFlow) dX9_flowDenominator_3 uw_786 vX9_solveFlow (c_X9_solveFlow_x2 hG S (t) (d) (ft) (N) (tg) h1 h2 h3 h4) (Nat.le_of_ble_eq_true rfl) rfl rfl rfl rfl (Nat.le_of_ble_eq_true rfl) (Nat.le_of_ble_eq_true rfl) (Nat.le_of_ble_eq_true rfl) 0 (Nat.le_of_ble_eq_true rfl) rfl ⟨rfl, rfl⟩
set_option maxRecDepth 100000 in
set_option maxHeartbeats 4000000 in
theorem c_X9_flowDenominator_x1 {g : G0} (hG : Gd g) (S : SS) (x : Int32) (y : Int32)  (h1 : ¬ (((0 ≤ x ∧ x < (z_SV S) 0) ∨ (x = 8 ∨ x = 9)) ∧ (y = 0 ∨ y = 1))) : ctt g mX9_flowDenominator [.ref 0, .int x, .int y] (mixW g S) EIO (mixW g S) := by
  refine ct_of hG [some (.ref 0), some (.int (x)), some (.int (y))] rfl rfl rfl (Nat.le_of_ble_eq_true rfl) (fun h => ?_) rfl
  refine q_aload_n dX9_flowDenominator_0 rfl ?_
  refine q_iload_n dX9_flowDenominator_1 rfl ?_
  refine q_iload_n dX9_flowDenominator_2 rfl ?_
  exact q_callVt (ν := mX9_solveFlow) dX9_flowDenominator_3 uw_786 vX9_solveFlow (c_X9_solveFlow_x1 hG S (x) (y) h1) (Nat.le_of_ble_eq_true rfl) rfl rfl rfl rfl (Nat.le_of_ble_eq_true rfl) (Nat.le_of_ble_eq_true rfl) (Nat.le_of_ble_eq_true rfl) 0 (Nat.le_of_ble_eq_true rfl) rfl ⟨rfl, rfl⟩
set_option maxRecDepth 100000 in
set_option maxHeartbeats 4000000 in
theorem c_X9_isInLoop {g : G0} (hG : Gd g) (S : SS) (c : Nat) (N : Nat) (h1 : (z_SV S) 0 = nI N) (h2 : N ≤ 6) (h3 : c < N) : ctv g mX9_isInLoop [.ref 0, .int (nI c)] (mixW g S) (.int (pI (leads (wO (tr1 (z_SV S) (z_RE S) N) N N) c c))) (mixW g (s_RE S (wO (tr1 (z_SV S) (z_RE S) N) N N))) := by
  refine ct_of hG [some (.ref 0), some (.int (nI c))] rfl rfl rfl (Nat.le_of_ble_eq_true rfl) (fun h => ?_) rfl
  refine q_aload_n dX9_isInLoop_0 rfl ?_
  refine q_iload_n dX9_isInLoop_1 rfl ?_
  refine q_callVx (ν := mX9_requireCell) dX9_isInLoop_2 uw_621 vX9_requireCell (c_X9_requireCell_x hG S ((nI c))) (Nat.le_of_ble_eq_true rfl) rfl rfl rfl rfl (Nat.le_of_ble_eq_true rfl) (Nat.le_of_ble_eq_true rfl) (Nat.le_of_ble_eq_true rfl) 0 (Nat.le_of_ble_eq_true rfl) rfl (fun z => (z (cel_ok h1 h2 (by omega))).elim) (fun c2 => ?_)
  refine wp_eq (st2 := []) rfl ?_
  refine q_aload_n dX9_isInLoop_5 rfl ?_
  refine q_get (j := 8) (v := .ref 18) dX9_isInLoop_6 (Nat.le_of_ble_eq_true rfl) rfl rfl iuX9 (Nat.le_of_ble_eq_true rfl) uw_216 rfl rfl ?_
  refine q_aload_n dX9_isInLoop_9 rfl ?_
  refine q_get (j := 1) (v := .ref 3) dX9_isInLoop_10 (Nat.le_of_ble_eq_true rfl) rfl rfl iuX9 (Nat.le_of_ble_eq_true rfl) uw_209 rfl rfl ?_
  refine q_callVu (ν := mX3_trace) dX9_isInLoop_13 uw_401 vX3_trace (c_X3_trace hG S (N) h1 h2) (Nat.le_of_ble_eq_true rfl) rfl rfl rfl rfl (Nat.le_of_ble_eq_true rfl) (Nat.le_of_ble_eq_true rfl) (Nat.le_of_ble_eq_true rfl) 0 (Nat.le_of_ble_eq_true rfl) ?_
  refine wp_w (w2 := mixW g (s_RE S (wO (tr1 (z_SV S) (z_RE S) N) N N))) rfl ?_
  refine q_aload_n dX9_isInLoop_16 rfl ?_
  refine q_get (j := 8) (v := .ref 18) dX9_isInLoop_17 (Nat.le_of_ble_eq_true rfl) rfl rfl iuX9 (Nat.le_of_ble_eq_true rfl) uw_216 rfl rfl ?_
  refine q_iload_n dX9_isInLoop_20 rfl ?_
  refine q_callVv (ν := mX3_returnsTo) dX9_isInLoop_21 uw_849 vX3_returnsTo (c_X3_returnsTo hG (s_RE S (wO (tr1 (z_SV S) (z_RE S) N) N N)) (c) (by omega)) (Nat.le_of_ble_eq_true rfl) rfl rfl rfl rfl (Nat.le_of_ble_eq_true rfl) (Nat.le_of_ble_eq_true rfl) (Nat.le_of_ble_eq_true rfl) 0 (Nat.le_of_ble_eq_true rfl) ?_
  refine wp_eq (st2 := .int ((pI (leads (wO (tr1 (z_SV S) (z_RE S) N) N N) c c))) :: _) rfl ?_
  exact q_zret dX9_isInLoop_24 rfl pI_z ⟨rfl, rfl⟩
set_option maxRecDepth 100000 in
set_option maxHeartbeats 4000000 in
theorem c_X9_isInLoop_x {g : G0} (hG : Gd g) (S : SS) (x : Int32)  (h1 : ¬ (0 ≤ x ∧ x < (z_SV S) 0)) : ctt g mX9_isInLoop [.ref 0, .int x] (mixW g S) EIO (mixW g S) := by
  refine ct_of hG [some (.ref 0), some (.int (x))] rfl rfl rfl (Nat.le_of_ble_eq_true rfl) (fun h => ?_) rfl
  refine q_aload_n dX9_isInLoop_0 rfl ?_
  refine q_iload_n dX9_isInLoop_1 rfl ?_
  refine q_callVx (ν := mX9_requireCell) dX9_isInLoop_2 uw_621 vX9_requireCell (c_X9_requireCell_x hG S (x)) (Nat.le_of_ble_eq_true rfl) rfl rfl rfl rfl (Nat.le_of_ble_eq_true rfl) (Nat.le_of_ble_eq_true rfl) (Nat.le_of_ble_eq_true rfl) 0 (Nat.le_of_ble_eq_true rfl) rfl (fun z => ⟨rfl, rfl⟩) (fun c2 => ?_)
  refine wp_eq (st2 := []) rfl ?_
  exact absurd c2 h1
set_option maxRecDepth 100000 in
set_option maxHeartbeats 4000000 in
theorem c_X9_loopCount {g : G0} (hG : Gd g) (S : SS)  (N : Nat) (h1 : (z_SV S) 0 = nI N) (h2 : N ≤ 6) : ctv g mX9_loopCount [.ref 0] (mixW g S) (.int (nbF (wO (tr1 (z_SV S) (z_RE S) N) N N) N)) (mixW g (s_RE S (wO (tr1 (z_SV S) (z_RE S) N) N N))) := by
  refine ct_of hG [some (.ref 0)] rfl rfl rfl (Nat.le_of_ble_eq_true rfl) (fun h => ?_) rfl
  refine q_aload_n dX9_loopCount_0 rfl ?_
  refine q_get (j := 8) (v := .ref 18) dX9_loopCount_1 (Nat.le_of_ble_eq_true rfl) rfl rfl iuX9 (Nat.le_of_ble_eq_true rfl) uw_216 rfl rfl ?_
  refine q_aload_n dX9_loopCount_4 rfl ?_
  refine q_get (j := 1) (v := .ref 3) dX9_loopCount_5 (Nat.le_of_ble_eq_true rfl) rfl rfl iuX9 (Nat.le_of_ble_eq_true rfl) uw_209 rfl rfl ?_
  refine q_callVu (ν := mX3_trace) dX9_loopCount_8 uw_401 vX3_trace (c_X3_trace hG S (N) h1 h2) (Nat.le_of_ble_eq_true rfl) rfl rfl rfl rfl (Nat.le_of_ble_eq_true rfl) (Nat.le_of_ble_eq_true rfl) (Nat.le_of_ble_eq_true rfl) 0 (Nat.le_of_ble_eq_true rfl) ?_
  refine wp_w (w2 := mixW g (s_RE S (wO (tr1 (z_SV S) (z_RE S) N) N N))) rfl ?_
  refine q_aload_n dX9_loopCount_11 rfl ?_
  refine q_get (j := 8) (v := .ref 18) dX9_loopCount_12 (Nat.le_of_ble_eq_true rfl) rfl rfl iuX9 (Nat.le_of_ble_eq_true rfl) uw_216 rfl rfl ?_
  refine q_aload_n dX9_loopCount_15 rfl ?_
  refine q_get (j := 1) (v := .ref 3) dX9_loopCount_16 (Nat.le_of_ble_eq_true rfl) rfl rfl iuX9 (Nat.le_of_ble_eq_true rfl) uw_209 rfl rfl ?_
  refine q_callVv (ν := mX7_count) dX9_loopCount_19 uw_280 vX7_count (c_X7_count_3 hG (s_RE S (wO (tr1 (z_SV S) (z_RE S) N) N N)) ) (Nat.le_of_ble_eq_true rfl) rfl rfl rfl rfl (Nat.le_of_ble_eq_true rfl) (Nat.le_of_ble_eq_true rfl) (Nat.le_of_ble_eq_true rfl) 0 (Nat.le_of_ble_eq_true rfl) ?_
  refine wp_eq (st2 := .int (((z_SV S) 0)) :: _) rfl ?_
  refine wp_top (y := nI N) h1 ?_
  refine q_callVv (ν := mX3_number) dX9_loopCount_22 uw_419 vX3_number (c_X3_number hG (s_RE S (wO (tr1 (z_SV S) (z_RE S) N) N N)) (N) (by omega)) (Nat.le_of_ble_eq_true rfl) rfl rfl rfl rfl (Nat.le_of_ble_eq_true rfl) (Nat.le_of_ble_eq_true rfl) (Nat.le_of_ble_eq_true rfl) 0 (Nat.le_of_ble_eq_true rfl) ?_
  refine wp_eq (st2 := .int ((nbF (wO (tr1 (z_SV S) (z_RE S) N) N N) N)) :: _) rfl ?_
  exact q_iret dX9_loopCount_25 rfl ⟨rfl, rfl⟩
set_option maxRecDepth 100000 in
set_option maxHeartbeats 4000000 in
theorem c_X9_measure {g : G0} (hG : Gd g) (S : SS) (k : Nat) (v : Nat) (p : Nat) (q : Nat) (h1 : (z_QN S) = nI p) (h2 : p < 5) (h3 : (z_QS S) = nI q) (h4 : q ≤ 5) (h5 : k ≤ 1) (h6 : v ≤ 1000) : ctv g mX9_measure [.ref 0, .int (nI k), .int (nI v)] (mixW g S) (.int (nI (min (q + 1) 5))) (mixW g (s_QN (s_QS (s_QK (s_QV S (upd (z_QV S) p (nI v))) (upd (z_QK S) p (nI k))) (nI (min (q + 1) 5))) (nI ((p + 1) % 5)))) := by
  refine ct_of hG [some (.ref 0), some (.int (nI k)), some (.int (nI v))] rfl rfl rfl (Nat.le_of_ble_eq_true rfl) (fun h => ?_) rfl
  refine q_iload_n dX9_measure_0 rfl ?_
  refine q_iconst (v := 0) dX9_measure_1 rfl ?_
  refine q_iconst (v := 1) dX9_measure_2 rfl ?_
  refine q_callSx (ν := mX9_requireRange) dX9_measure_3 uw_476 vX9_requireRange (c_X9_requireRange_x hG S ((nI k)) (0) (1)) rfl rfl (Nat.le_of_ble_eq_true rfl) (Nat.le_of_ble_eq_true rfl) (Nat.le_of_ble_eq_true rfl) 1 (Nat.le_of_ble_eq_true rfl) rfl (fun z => (z (rng_ok (lo := 0) (hi := 1) (by omega) (by omega) (by omega))).elim) (fun c3 => ?_)
  refine wp_eq (st2 := []) rfl ?_
  refine q_iload_n dX9_measure_6 rfl ?_
  refine q_iconst (v := 0) dX9_measure_7 rfl ?_
  refine q_sipush (v := 1000) dX9_measure_8 rfl ?_
  refine q_callSx (ν := mX9_requireRange) dX9_measure_11 uw_476 vX9_requireRange (c_X9_requireRange_x hG S ((nI v)) (0) (1000)) rfl rfl (Nat.le_of_ble_eq_true rfl) (Nat.le_of_ble_eq_true rfl) (Nat.le_of_ble_eq_true rfl) 0 (Nat.le_of_ble_eq_true rfl) rfl (fun z => (z (rng_ok (lo := 0) (hi := 1000) (by omega) (by omega) (by omega))).elim) (fun c11 => ?_)
  refine wp_eq (st2 := []) rfl ?_
  refine q_aload_n dX9_measure_14 rfl ?_
  refine q_get (j := 9) (v := .ref 20) dX9_measure_15 (Nat.le_of_ble_eq_true rfl) rfl rfl iuX9 (Nat.le_of_ble_eq_true rfl) uw_217 rfl rfl ?_
  refine q_iload_n dX9_measure_18 rfl ?_
  refine q_iload_n dX9_measure_19 rfl ?_
  refine q_callVv (ν := mX4_store) dX9_measure_20 uw_872 vX4_store (c_X4_store hG S ((nI k)) ((nI v)) (p) (q) h1 h2 h3 h4) (Nat.le_of_ble_eq_true rfl) rfl rfl rfl rfl (Nat.le_of_ble_eq_true rfl) (Nat.le_of_ble_eq_true rfl) (Nat.le_of_ble_eq_true rfl) 0 (Nat.le_of_ble_eq_true rfl) ?_
  refine wp_w (w2 := mixW g (s_QN (s_QS (s_QK (s_QV S (upd (z_QV S) p (nI v))) (upd (z_QK S) p (nI k))) (nI (min (q + 1) 5))) (nI ((p + 1) % 5)))) rfl ?_
  exact q_iret dX9_measure_23 rfl ⟨rfl, rfl⟩
set_option maxRecDepth 100000 in
set_option maxHeartbeats 4000000 in
theorem c_X9_measure_x {g : G0} (hG : Gd g) (S : SS) (k : Int32) (v : Int32)  (h1 : ¬ ((0 ≤ k ∧ k ≤ 1) ∧ (0 ≤ v ∧ v ≤ 1000))) : ctt g mX9_measure [.ref 0, .int k, .int v] (mixW g S) EIA (mixW g S) := by
  refine ct_of hG [some (.ref 0), some (.int (k)), some (.int (v))] rfl rfl rfl (Nat.le_of_ble_eq_true rfl) (fun h => ?_) rfl
  refine q_iload_n dX9_measure_0 rfl ?_
  refine q_iconst (v := 0) dX9_measure_1 rfl ?_
  refine q_iconst (v := 1) dX9_measure_2 rfl ?_
  refine q_callSx (ν := mX9_requireRange) dX9_measure_3 uw_476 vX9_requireRange (c_X9_requireRange_x hG S (k) (0) (1)) rfl rfl (Nat.le_of_ble_eq_true rfl) (Nat.le_of_ble_eq_true rfl) (Nat.le_of_ble_eq_true rfl) 1 (Nat.le_of_ble_eq_true rfl) rfl (fun z => ⟨rfl, rfl⟩) (fun c3 => ?_)
  refine wp_eq (st2 := []) rfl ?_
  refine q_iload_n dX9_measure_6 rfl ?_
  refine q_iconst (v := 0) dX9_measure_7 rfl ?_
  refine q_sipush (v := 1000) dX9_measure_8 rfl ?_
  refine q_callSx (ν := mX9_requireRange) dX9_measure_11 uw_476 vX9_requireRange (c_X9_requireRange_x hG S (v) (0) (1000)) rfl rfl (Nat.le_of_ble_eq_true rfl) (Nat.le_of_ble_eq_true rfl) (Nat.le_of_ble_eq_true rfl) 0 (Nat.le_of_ble_eq_true rfl) rfl (fun z => ⟨rfl, rfl⟩) (fun c11 => ?_)
  refine wp_eq (st2 := []) rfl ?_
  exact absurd ⟨c3, c11⟩ h1
