set_option maxRecDepth 100000 in
set_option maxHeartbeats 4000000 in
theorem k_L_append {g : G0} (hG : Gd g) (S S2 : SS) (x0 : Int32) (r : Int32) (hc : ctv g mX9_append [.ref 0, .int (x0)] (mixW g S) (.int r) (mixW g S2)) : ctHv g mL_append [.ref 0, .int (x0), .ref 40] (mixW g S) (.int 0) (mixW g (s_OU S2 (vp_updL (z_OU S2) 0 (r.toInt64)))) := by
  refine ctH_of hG [some (.ref 0), some (.int (x0)), some (.ref 40), none] rfl rfl (Nat.le_of_ble_eq_true rfl) (fun h => ?_) rfl
  refine q_aload_n dL_append_0 rfl ?_
  refine q_iconst (v := 0) dL_append_1 rfl ?_
  refine q_aload_n dL_append_2 rfl ?_
  refine q_iload_n dL_append_3 rfl ?_
  refine q_callVv (ν := mX9_append) dL_append_4 uw_472 vX9_append hc (Nat.le_of_ble_eq_true rfl) rfl rfl rfl rfl (Nat.le_of_ble_eq_true rfl) (Nat.le_of_ble_eq_true rfl) (Nat.le_of_ble_eq_true rfl) 0 (Nat.le_of_ble_eq_true rfl) ?_
  refine q_i2l dL_append_7 ?_
  refine q_last (f := (z_OU S2)) dL_append_8 (Nat.le_of_ble_eq_true rfl) rfl (0) rfl (Nat.le_of_ble_eq_true rfl) (Nat.le_of_ble_eq_true rfl) ?_
  refine wp_w (u_OU g _ _) ?_
  refine q_goto 18 dL_append_9 rfl ?_
  refine q_iconst (v := 0) dL_append_18 rfl ?_
  exact q_iret dL_append_19 rfl ⟨rfl, rfl⟩
set_option maxRecDepth 100000 in
set_option maxHeartbeats 4000000 in
theorem k_L_append_EIA {g : G0} (hG : Gd g) (S S2 : SS) (x0 : Int32) (hc : ctt g mX9_append [.ref 0, .int (x0)] (mixW g S) EIA (mixW g S2)) : ctHv g mL_append [.ref 0, .int (x0), .ref 40] (mixW g S) (.int 1) (mixW g S2) := by
  refine ctH_of hG [some (.ref 0), some (.int (x0)), some (.ref 40), none] rfl rfl (Nat.le_of_ble_eq_true rfl) (fun h => ?_) rfl
  refine q_aload_n dL_append_0 rfl ?_
  refine q_iconst (v := 0) dL_append_1 rfl ?_
  refine q_aload_n dL_append_2 rfl ?_
  refine q_iload_n dL_append_3 rfl ?_
  refine q_callVtc (E := EIA) (pre := []) (x := (⟨0, 9, 12, 13⟩ : ExceptionTableEntry)) (suf := [(⟨0, 9, 15, 15⟩ : ExceptionTableEntry)]) (ν := mX9_append) dL_append_4 uw_472 vX9_append hc (Nat.le_of_ble_eq_true rfl) rfl rfl rfl rfl (Nat.le_of_ble_eq_true rfl) (Nat.le_of_ble_eq_true rfl) (Nat.le_of_ble_eq_true rfl) 0 (Nat.le_of_ble_eq_true rfl) ⟨rfl, (fun z hz => absurd hz List.not_mem_nil), by decide, by decide, uw_470, List.mem_of_getElem? (i := 0) rfl⟩ dL_append_12 (Nat.le_of_ble_eq_true rfl) (st_no [some (.ref 0), some (.int (x0)), some (.ref 40)] [] rfl) ?_
  refine q_iconst (v := 1) dL_append_13 rfl ?_
  exact q_iret dL_append_14 rfl ⟨rfl, rfl⟩
set_option maxRecDepth 100000 in
set_option maxHeartbeats 4000000 in
theorem k_L_append_EIS {g : G0} (hG : Gd g) (S S2 : SS) (x0 : Int32) (hc : ctt g mX9_append [.ref 0, .int (x0)] (mixW g S) EIS (mixW g S2)) : ctHv g mL_append [.ref 0, .int (x0), .ref 40] (mixW g S) (.int 2) (mixW g S2) := by
  refine ctH_of hG [some (.ref 0), some (.int (x0)), some (.ref 40), none] rfl rfl (Nat.le_of_ble_eq_true rfl) (fun h => ?_) rfl
  refine q_aload_n dL_append_0 rfl ?_
  refine q_iconst (v := 0) dL_append_1 rfl ?_
  refine q_aload_n dL_append_2 rfl ?_
  refine q_iload_n dL_append_3 rfl ?_
  refine q_callVtc (E := EIS) (pre := [(⟨0, 9, 12, 13⟩ : ExceptionTableEntry)]) (x := (⟨0, 9, 15, 15⟩ : ExceptionTableEntry)) (suf := []) (ν := mX9_append) dL_append_4 uw_472 vX9_append hc (Nat.le_of_ble_eq_true rfl) rfl rfl rfl rfl (Nat.le_of_ble_eq_true rfl) (Nat.le_of_ble_eq_true rfl) (Nat.le_of_ble_eq_true rfl) 0 (Nat.le_of_ble_eq_true rfl) ⟨rfl, (fun z hz => by rcases List.mem_cons.mp hz with rfl | hz; exact Or.inr ⟨by decide, EIA, uw_470, List.mem_of_getElem? (i := 2) rfl⟩; exact absurd hz List.not_mem_nil), by decide, by decide, uw_471, List.mem_of_getElem? (i := 1) rfl⟩ dL_append_15 (Nat.le_of_ble_eq_true rfl) (st_no [some (.ref 0), some (.int (x0)), some (.ref 40)] [] rfl) ?_
  refine q_iconst (v := 2) dL_append_16 rfl ?_
  exact q_iret dL_append_17 rfl ⟨rfl, rfl⟩
set_option maxRecDepth 100000 in
set_option maxHeartbeats 4000000 in
theorem k_L_load {g : G0} (hG : Gd g) (S S2 : SS) (r : Int32) (hc : ctv g mX9_load [.ref 0] (mixW g S) (.int r) (mixW g S2)) : ctHv g mL_load [.ref 0, .ref 40] (mixW g S) (.int 0) (mixW g (s_OU S2 (vp_updL (z_OU S2) 0 (r.toInt64)))) := by
  refine ctH_of hG [some (.ref 0), some (.ref 40), none] rfl rfl (Nat.le_of_ble_eq_true rfl) (fun h => ?_) rfl
  refine q_aload_n dL_load_0 rfl ?_
  refine q_iconst (v := 0) dL_load_1 rfl ?_
  refine q_aload_n dL_load_2 rfl ?_
  refine q_callVv (ν := mX9_load) dL_load_3 uw_574 vX9_load hc (Nat.le_of_ble_eq_true rfl) rfl rfl rfl rfl (Nat.le_of_ble_eq_true rfl) (Nat.le_of_ble_eq_true rfl) (Nat.le_of_ble_eq_true rfl) 0 (Nat.le_of_ble_eq_true rfl) ?_
  refine q_i2l dL_load_6 ?_
  refine q_last (f := (z_OU S2)) dL_load_7 (Nat.le_of_ble_eq_true rfl) rfl (0) rfl (Nat.le_of_ble_eq_true rfl) (Nat.le_of_ble_eq_true rfl) ?_
  refine wp_w (u_OU g _ _) ?_
  refine q_goto 14 dL_load_8 rfl ?_
  refine q_iconst (v := 0) dL_load_14 rfl ?_
  exact q_iret dL_load_15 rfl ⟨rfl, rfl⟩
set_option maxRecDepth 100000 in
set_option maxHeartbeats 4000000 in
theorem k_L_load_EIS {g : G0} (hG : Gd g) (S S2 : SS) (hc : ctt g mX9_load [.ref 0] (mixW g S) EIS (mixW g S2)) : ctHv g mL_load [.ref 0, .ref 40] (mixW g S) (.int 1) (mixW g S2) := by
  refine ctH_of hG [some (.ref 0), some (.ref 40), none] rfl rfl (Nat.le_of_ble_eq_true rfl) (fun h => ?_) rfl
  refine q_aload_n dL_load_0 rfl ?_
  refine q_iconst (v := 0) dL_load_1 rfl ?_
  refine q_aload_n dL_load_2 rfl ?_
  refine q_callVtc (E := EIS) (pre := []) (x := (⟨0, 8, 11, 15⟩ : ExceptionTableEntry)) (suf := []) (ν := mX9_load) dL_load_3 uw_574 vX9_load hc (Nat.le_of_ble_eq_true rfl) rfl rfl rfl rfl (Nat.le_of_ble_eq_true rfl) (Nat.le_of_ble_eq_true rfl) (Nat.le_of_ble_eq_true rfl) 0 (Nat.le_of_ble_eq_true rfl) ⟨rfl, (fun z hz => absurd hz List.not_mem_nil), by decide, by decide, uw_471, List.mem_of_getElem? (i := 1) rfl⟩ dL_load_11 (Nat.le_of_ble_eq_true rfl) (st_no [some (.ref 0), some (.ref 40)] [] rfl) ?_
  refine q_iconst (v := 1) dL_load_12 rfl ?_
  exact q_iret dL_load_13 rfl ⟨rfl, rfl⟩
set_option maxRecDepth 100000 in
set_option maxHeartbeats 4000000 in
theorem k_L_recovery {g : G0} (hG : Gd g) (S S2 : SS) (x0 : Int32) (x1 : Int32) (r : Int32) (hc : ctv g mX9_recovery [.ref 0, .int (x0), .int (x1)] (mixW g S) (.int r) (mixW g S2)) : ctHv g mL_recovery [.ref 0, .int (x0), .int (x1), .ref 40] (mixW g S) (.int 0) (mixW g (s_OU S2 (vp_updL (z_OU S2) 0 (r.toInt64)))) := by
  refine ctH_of hG [some (.ref 0), some (.int (x0)), some (.int (x1)), some (.ref 40), none] rfl rfl (Nat.le_of_ble_eq_true rfl) (fun h => ?_) rfl
  refine q_aload_n dL_recovery_0 rfl ?_
  refine q_iconst (v := 0) dL_recovery_1 rfl ?_
  refine q_aload_n dL_recovery_2 rfl ?_
  refine q_iload_n dL_recovery_3 rfl ?_
  refine q_iload_n dL_recovery_4 rfl ?_
  refine q_callVv (ν := mX9_recovery) dL_recovery_5 uw_617 vX9_recovery hc (Nat.le_of_ble_eq_true rfl) rfl rfl rfl rfl (Nat.le_of_ble_eq_true rfl) (Nat.le_of_ble_eq_true rfl) (Nat.le_of_ble_eq_true rfl) 0 (Nat.le_of_ble_eq_true rfl) ?_
  refine q_i2l dL_recovery_8 ?_
  refine q_last (f := (z_OU S2)) dL_recovery_9 (Nat.le_of_ble_eq_true rfl) rfl (0) rfl (Nat.le_of_ble_eq_true rfl) (Nat.le_of_ble_eq_true rfl) ?_
  refine wp_w (u_OU g _ _) ?_
  refine q_goto 17 dL_recovery_10 rfl ?_
  refine q_iconst (v := 0) dL_recovery_17 rfl ?_
  exact q_iret dL_recovery_18 rfl ⟨rfl, rfl⟩
set_option maxRecDepth 100000 in
set_option maxHeartbeats 4000000 in
theorem k_L_recovery_EIO {g : G0} (hG : Gd g) (S S2 : SS) (x0 : Int32) (x1 : Int32) (hc : ctt g mX9_recovery [.ref 0, .int (x0), .int (x1)] (mixW g S) EIO (mixW g S2)) : ctHv g mL_recovery [.ref 0, .int (x0), .int (x1), .ref 40] (mixW g S) (.int 1) (mixW g S2) := by
  refine ctH_of hG [some (.ref 0), some (.int (x0)), some (.int (x1)), some (.ref 40), none] rfl rfl (Nat.le_of_ble_eq_true rfl) (fun h => ?_) rfl
  refine q_aload_n dL_recovery_0 rfl ?_
  refine q_iconst (v := 0) dL_recovery_1 rfl ?_
  refine q_aload_n dL_recovery_2 rfl ?_
  refine q_iload_n dL_recovery_3 rfl ?_
  refine q_iload_n dL_recovery_4 rfl ?_
  refine q_callVtw (E := EIO) (pre := []) (x := (⟨0, 10, 13, 25⟩ : ExceptionTableEntry)) (suf := []) (ν := mX9_recovery) dL_recovery_5 uw_617 vX9_recovery hc (Nat.le_of_ble_eq_true rfl) rfl rfl rfl rfl (Nat.le_of_ble_eq_true rfl) (Nat.le_of_ble_eq_true rfl) (Nat.le_of_ble_eq_true rfl) 0 (Nat.le_of_ble_eq_true rfl) ⟨rfl, (fun z hz => absurd hz List.not_mem_nil), by decide, by decide, uw_616, List.mem_of_getElem? (i := 2) rfl⟩ dL_recovery_13 (Nat.le_of_ble_eq_true rfl) (st_no [some (.ref 0), some (.int (x0)), some (.int (x1)), some (.ref 40)] [] rfl) ?_
  refine q_iconst (v := 1) dL_recovery_15 rfl ?_
  exact q_iret dL_recovery_16 rfl ⟨rfl, rfl⟩
set_option maxRecDepth 100000 in
set_option maxHeartbeats 4000000 in
theorem k_L_destination {g : G0} (hG : Gd g) (S S2 : SS) (x0 : Int32) (x1 : Int32) (r : Int32) (hc : ctv g mX9_destination [.ref 0, .int (x0), .int (x1)] (mixW g S) (.int r) (mixW g S2)) : ctHv g mL_destination [.ref 0, .int (x0), .int (x1), .ref 40] (mixW g S) (.int 0) (mixW g (s_OU S2 (vp_updL (z_OU S2) 0 (r.toInt64)))) := by
  refine ctH_of hG [some (.ref 0), some (.int (x0)), some (.int (x1)), some (.ref 40), none] rfl rfl (Nat.le_of_ble_eq_true rfl) (fun h => ?_) rfl
  refine q_aload_n dL_destination_0 rfl ?_
  refine q_iconst (v := 0) dL_destination_1 rfl ?_
  refine q_aload_n dL_destination_2 rfl ?_
  refine q_iload_n dL_destination_3 rfl ?_
  refine q_iload_n dL_destination_4 rfl ?_
  refine q_callVv (ν := mX9_destination) dL_destination_5 uw_649 vX9_destination hc (Nat.le_of_ble_eq_true rfl) rfl rfl rfl rfl (Nat.le_of_ble_eq_true rfl) (Nat.le_of_ble_eq_true rfl) (Nat.le_of_ble_eq_true rfl) 0 (Nat.le_of_ble_eq_true rfl) ?_
  refine q_i2l dL_destination_8 ?_
  refine q_last (f := (z_OU S2)) dL_destination_9 (Nat.le_of_ble_eq_true rfl) rfl (0) rfl (Nat.le_of_ble_eq_true rfl) (Nat.le_of_ble_eq_true rfl) ?_
  refine wp_w (u_OU g _ _) ?_
  refine q_goto 17 dL_destination_10 rfl ?_
  refine q_iconst (v := 0) dL_destination_17 rfl ?_
  exact q_iret dL_destination_18 rfl ⟨rfl, rfl⟩
set_option maxRecDepth 100000 in
set_option maxHeartbeats 4000000 in
theorem k_L_destination_EIO {g : G0} (hG : Gd g) (S S2 : SS) (x0 : Int32) (x1 : Int32) (hc : ctt g mX9_destination [.ref 0, .int (x0), .int (x1)] (mixW g S) EIO (mixW g S2)) : ctHv g mL_destination [.ref 0, .int (x0), .int (x1), .ref 40] (mixW g S) (.int 1) (mixW g S2) := by
  refine ctH_of hG [some (.ref 0), some (.int (x0)), some (.int (x1)), some (.ref 40), none] rfl rfl (Nat.le_of_ble_eq_true rfl) (fun h => ?_) rfl
  refine q_aload_n dL_destination_0 rfl ?_
  refine q_iconst (v := 0) dL_destination_1 rfl ?_
  refine q_aload_n dL_destination_2 rfl ?_
  refine q_iload_n dL_destination_3 rfl ?_
  refine q_iload_n dL_destination_4 rfl ?_
  refine q_callVtw (E := EIO) (pre := []) (x := (⟨0, 10, 13, 25⟩ : ExceptionTableEntry)) (suf := []) (ν := mX9_destination) dL_destination_5 uw_649 vX9_destination hc (Nat.le_of_ble_eq_true rfl) rfl rfl rfl rfl (Nat.le_of_ble_eq_true rfl) (Nat.le_of_ble_eq_true rfl) (Nat.le_of_ble_eq_true rfl) 0 (Nat.le_of_ble_eq_true rfl) ⟨rfl, (fun z hz => absurd hz List.not_mem_nil), by decide, by decide, uw_616, List.mem_of_getElem? (i := 2) rfl⟩ dL_destination_13 (Nat.le_of_ble_eq_true rfl) (st_no [some (.ref 0), some (.int (x0)), some (.int (x1)), some (.ref 40)] [] rfl) ?_
  refine q_iconst (v := 1) dL_destination_15 rfl ?_
  exact q_iret dL_destination_16 rfl ⟨rfl, rfl⟩
set_option maxRecDepth 100000 in
set_option maxHeartbeats 4000000 in
theorem k_L_feedAmount {g : G0} (hG : Gd g) (S S2 : SS) (x0 : Int32) (r : Int32) (hc : ctv g mX9_feedAmount [.ref 0, .int (x0)] (mixW g S) (.int r) (mixW g S2)) : ctHv g mL_feedAmount [.ref 0, .int (x0), .ref 40] (mixW g S) (.int 0) (mixW g (s_OU S2 (vp_updL (z_OU S2) 0 (r.toInt64)))) := by
  refine ctH_of hG [some (.ref 0), some (.int (x0)), some (.ref 40), none] rfl rfl (Nat.le_of_ble_eq_true rfl) (fun h => ?_) rfl
  refine q_aload_n dL_feedAmount_0 rfl ?_
  refine q_iconst (v := 0) dL_feedAmount_1 rfl ?_
  refine q_aload_n dL_feedAmount_2 rfl ?_
  refine q_iload_n dL_feedAmount_3 rfl ?_
  refine q_callVv (ν := mX9_feedAmount) dL_feedAmount_4 uw_657 vX9_feedAmount hc (Nat.le_of_ble_eq_true rfl) rfl rfl rfl rfl (Nat.le_of_ble_eq_true rfl) (Nat.le_of_ble_eq_true rfl) (Nat.le_of_ble_eq_true rfl) 0 (Nat.le_of_ble_eq_true rfl) ?_
  refine q_i2l dL_feedAmount_7 ?_
  refine q_last (f := (z_OU S2)) dL_feedAmount_8 (Nat.le_of_ble_eq_true rfl) rfl (0) rfl (Nat.le_of_ble_eq_true rfl) (Nat.le_of_ble_eq_true rfl) ?_
  refine wp_w (u_OU g _ _) ?_
  refine q_goto 15 dL_feedAmount_9 rfl ?_
  refine q_iconst (v := 0) dL_feedAmount_15 rfl ?_
  exact q_iret dL_feedAmount_16 rfl ⟨rfl, rfl⟩
set_option maxRecDepth 100000 in
set_option maxHeartbeats 4000000 in
theorem k_L_feedAmount_EIO {g : G0} (hG : Gd g) (S S2 : SS) (x0 : Int32) (hc : ctt g mX9_feedAmount [.ref 0, .int (x0)] (mixW g S) EIO (mixW g S2)) : ctHv g mL_feedAmount [.ref 0, .int (x0), .ref 40] (mixW g S) (.int 1) (mixW g S2) := by
  refine ctH_of hG [some (.ref 0), some (.int (x0)), some (.ref 40), none] rfl rfl (Nat.le_of_ble_eq_true rfl) (fun h => ?_) rfl
  refine q_aload_n dL_feedAmount_0 rfl ?_
  refine q_iconst (v := 0) dL_feedAmount_1 rfl ?_
  refine q_aload_n dL_feedAmount_2 rfl ?_
  refine q_iload_n dL_feedAmount_3 rfl ?_
  refine q_callVtc (E := EIO) (pre := []) (x := (⟨0, 9, 12, 25⟩ : ExceptionTableEntry)) (suf := []) (ν := mX9_feedAmount) dL_feedAmount_4 uw_657 vX9_feedAmount hc (Nat.le_of_ble_eq_true rfl) rfl rfl rfl rfl (Nat.le_of_ble_eq_true rfl) (Nat.le_of_ble_eq_true rfl) (Nat.le_of_ble_eq_true rfl) 0 (Nat.le_of_ble_eq_true rfl) ⟨rfl, (fun z hz => absurd hz List.not_mem_nil), by decide, by decide, uw_616, List.mem_of_getElem? (i := 2) rfl⟩ dL_feedAmount_12 (Nat.le_of_ble_eq_true rfl) (st_no [some (.ref 0), some (.int (x0)), some (.ref 40)] [] rfl) ?_
  refine q_iconst (v := 1) dL_feedAmount_13 rfl ?_
  exact q_iret dL_feedAmount_14 rfl ⟨rfl, rfl⟩
set_option maxRecDepth 100000 in
set_option maxHeartbeats 4000000 in
theorem k_L_addCell {g : G0} (hG : Gd g) (S S2 : SS) (x0 : Int32) (x1 : Int32) (x2 : Int32) (x3 : Int32) (r : Int32) (hc : ctv g mX9_addCell [.ref 0, .int (x0), .int (x1), .int (x2), .int (x3)] (mixW g S) (.int r) (mixW g S2)) : ctHv g mL_addCell [.ref 0, .int (x0), .int (x1), .int (x2), .int (x3), .ref 40] (mixW g S) (.int 0) (mixW g (s_OU S2 (vp_updL (z_OU S2) 0 (r.toInt64)))) := by
  refine ctH_of hG [some (.ref 0), some (.int (x0)), some (.int (x1)), some (.int (x2)), some (.int (x3)), some (.ref 40), none] rfl rfl (Nat.le_of_ble_eq_true rfl) (fun h => ?_) rfl
  refine q_aload dL_addCell_0 rfl ?_
  refine q_iconst (v := 0) dL_addCell_2 rfl ?_
  refine q_aload_n dL_addCell_3 rfl ?_
  refine q_iload_n dL_addCell_4 rfl ?_
  refine q_iload_n dL_addCell_5 rfl ?_
  refine q_iload_n dL_addCell_6 rfl ?_
  refine q_iload dL_addCell_7 rfl ?_
  refine q_callVv (ν := mX9_addCell) dL_addCell_9 uw_665 vX9_addCell hc (Nat.le_of_ble_eq_true rfl) rfl rfl rfl rfl (Nat.le_of_ble_eq_true rfl) (Nat.le_of_ble_eq_true rfl) (Nat.le_of_ble_eq_true rfl) 0 (Nat.le_of_ble_eq_true rfl) ?_
  refine q_i2l dL_addCell_12 ?_
  refine q_last (f := (z_OU S2)) dL_addCell_13 (Nat.le_of_ble_eq_true rfl) rfl (0) rfl (Nat.le_of_ble_eq_true rfl) (Nat.le_of_ble_eq_true rfl) ?_
  refine wp_w (u_OU g _ _) ?_
  refine q_goto 25 dL_addCell_14 rfl ?_
  refine q_iconst (v := 0) dL_addCell_25 rfl ?_
  exact q_iret dL_addCell_26 rfl ⟨rfl, rfl⟩
set_option maxRecDepth 100000 in
set_option maxHeartbeats 4000000 in
theorem k_L_addCell_EIA {g : G0} (hG : Gd g) (S S2 : SS) (x0 : Int32) (x1 : Int32) (x2 : Int32) (x3 : Int32) (hc : ctt g mX9_addCell [.ref 0, .int (x0), .int (x1), .int (x2), .int (x3)] (mixW g S) EIA (mixW g S2)) : ctHv g mL_addCell [.ref 0, .int (x0), .int (x1), .int (x2), .int (x3), .ref 40] (mixW g S) (.int 1) (mixW g S2) := by
  refine ctH_of hG [some (.ref 0), some (.int (x0)), some (.int (x1)), some (.int (x2)), some (.int (x3)), some (.ref 40), none] rfl rfl (Nat.le_of_ble_eq_true rfl) (fun h => ?_) rfl
  refine q_aload dL_addCell_0 rfl ?_
  refine q_iconst (v := 0) dL_addCell_2 rfl ?_
  refine q_aload_n dL_addCell_3 rfl ?_
  refine q_iload_n dL_addCell_4 rfl ?_
  refine q_iload_n dL_addCell_5 rfl ?_
  refine q_iload_n dL_addCell_6 rfl ?_
  refine q_iload dL_addCell_7 rfl ?_
  refine q_callVtw (E := EIA) (pre := []) (x := (⟨0, 14, 17, 13⟩ : ExceptionTableEntry)) (suf := [(⟨0, 14, 21, 15⟩ : ExceptionTableEntry)]) (ν := mX9_addCell) dL_addCell_9 uw_665 vX9_addCell hc (Nat.le_of_ble_eq_true rfl) rfl rfl rfl rfl (Nat.le_of_ble_eq_true rfl) (Nat.le_of_ble_eq_true rfl) (Nat.le_of_ble_eq_true rfl) 0 (Nat.le_of_ble_eq_true rfl) ⟨rfl, (fun z hz => absurd hz List.not_mem_nil), by decide, by decide, uw_470, List.mem_of_getElem? (i := 0) rfl⟩ dL_addCell_17 (Nat.le_of_ble_eq_true rfl) (st_no [some (.ref 0), some (.int (x0)), some (.int (x1)), some (.int (x2)), some (.int (x3)), some (.ref 40)] [] rfl) ?_
  refine q_iconst (v := 1) dL_addCell_19 rfl ?_
  exact q_iret dL_addCell_20 rfl ⟨rfl, rfl⟩
set_option maxRecDepth 100000 in
set_option maxHeartbeats 4000000 in
theorem k_L_addCell_EIS {g : G0} (hG : Gd g) (S S2 : SS) (x0 : Int32) (x1 : Int32) (x2 : Int32) (x3 : Int32) (hc : ctt g mX9_addCell [.ref 0, .int (x0), .int (x1), .int (x2), .int (x3)] (mixW g S) EIS (mixW g S2)) : ctHv g mL_addCell [.ref 0, .int (x0), .int (x1), .int (x2), .int (x3), .ref 40] (mixW g S) (.int 2) (mixW g S2) := by
  refine ctH_of hG [some (.ref 0), some (.int (x0)), some (.int (x1)), some (.int (x2)), some (.int (x3)), some (.ref 40), none] rfl rfl (Nat.le_of_ble_eq_true rfl) (fun h => ?_) rfl
  refine q_aload dL_addCell_0 rfl ?_
  refine q_iconst (v := 0) dL_addCell_2 rfl ?_
  refine q_aload_n dL_addCell_3 rfl ?_
  refine q_iload_n dL_addCell_4 rfl ?_
  refine q_iload_n dL_addCell_5 rfl ?_
  refine q_iload_n dL_addCell_6 rfl ?_
  refine q_iload dL_addCell_7 rfl ?_
  refine q_callVtw (E := EIS) (pre := [(⟨0, 14, 17, 13⟩ : ExceptionTableEntry)]) (x := (⟨0, 14, 21, 15⟩ : ExceptionTableEntry)) (suf := []) (ν := mX9_addCell) dL_addCell_9 uw_665 vX9_addCell hc (Nat.le_of_ble_eq_true rfl) rfl rfl rfl rfl (Nat.le_of_ble_eq_true rfl) (Nat.le_of_ble_eq_true rfl) (Nat.le_of_ble_eq_true rfl) 0 (Nat.le_of_ble_eq_true rfl) ⟨rfl, (fun z hz => by rcases List.mem_cons.mp hz with rfl | hz; exact Or.inr ⟨by decide, EIA, uw_470, List.mem_of_getElem? (i := 2) rfl⟩; exact absurd hz List.not_mem_nil), by decide, by decide, uw_471, List.mem_of_getElem? (i := 1) rfl⟩ dL_addCell_21 (Nat.le_of_ble_eq_true rfl) (st_no [some (.ref 0), some (.int (x0)), some (.int (x1)), some (.int (x2)), some (.int (x3)), some (.ref 40)] [] rfl) ?_
  refine q_iconst (v := 2) dL_addCell_23 rfl ?_
  exact q_iret dL_addCell_24 rfl ⟨rfl, rfl⟩
set_option maxRecDepth 100000 in
set_option maxHeartbeats 4000000 in
theorem k_L_removeLastCell {g : G0} (hG : Gd g) (S S2 : SS) (r : Int32) (hc : ctv g mX9_removeLastCell [.ref 0] (mixW g S) (.int r) (mixW g S2)) : ctHv g mL_removeLastCell [.ref 0, .ref 40] (mixW g S) (.int 0) (mixW g (s_OU S2 (vp_updL (z_OU S2) 0 (r.toInt64)))) := by
  refine ctH_of hG [some (.ref 0), some (.ref 40), none] rfl rfl (Nat.le_of_ble_eq_true rfl) (fun h => ?_) rfl
  refine q_aload_n dL_removeLastCell_0 rfl ?_
  refine q_iconst (v := 0) dL_removeLastCell_1 rfl ?_
  refine q_aload_n dL_removeLastCell_2 rfl ?_
  refine q_callVv (ν := mX9_removeLastCell) dL_removeLastCell_3 uw_679 vX9_removeLastCell hc (Nat.le_of_ble_eq_true rfl) rfl rfl rfl rfl (Nat.le_of_ble_eq_true rfl) (Nat.le_of_ble_eq_true rfl) (Nat.le_of_ble_eq_true rfl) 0 (Nat.le_of_ble_eq_true rfl) ?_
  refine q_i2l dL_removeLastCell_6 ?_
  refine q_last (f := (z_OU S2)) dL_removeLastCell_7 (Nat.le_of_ble_eq_true rfl) rfl (0) rfl (Nat.le_of_ble_eq_true rfl) (Nat.le_of_ble_eq_true rfl) ?_
  refine wp_w (u_OU g _ _) ?_
  refine q_goto 14 dL_removeLastCell_8 rfl ?_
  refine q_iconst (v := 0) dL_removeLastCell_14 rfl ?_
  exact q_iret dL_removeLastCell_15 rfl ⟨rfl, rfl⟩
set_option maxRecDepth 100000 in
set_option maxHeartbeats 4000000 in
theorem k_L_removeLastCell_EIS {g : G0} (hG : Gd g) (S S2 : SS) (hc : ctt g mX9_removeLastCell [.ref 0] (mixW g S) EIS (mixW g S2)) : ctHv g mL_removeLastCell [.ref 0, .ref 40] (mixW g S) (.int 1) (mixW g S2) := by
  refine ctH_of hG [some (.ref 0), some (.ref 40), none] rfl rfl (Nat.le_of_ble_eq_true rfl) (fun h => ?_) rfl
  refine q_aload_n dL_removeLastCell_0 rfl ?_
  refine q_iconst (v := 0) dL_removeLastCell_1 rfl ?_
  refine q_aload_n dL_removeLastCell_2 rfl ?_
  refine q_callVtc (E := EIS) (pre := []) (x := (⟨0, 8, 11, 15⟩ : ExceptionTableEntry)) (suf := []) (ν := mX9_removeLastCell) dL_removeLastCell_3 uw_679 vX9_removeLastCell hc (Nat.le_of_ble_eq_true rfl) rfl rfl rfl rfl (Nat.le_of_ble_eq_true rfl) (Nat.le_of_ble_eq_true rfl) (Nat.le_of_ble_eq_true rfl) 0 (Nat.le_of_ble_eq_true rfl) ⟨rfl, (fun z hz => absurd hz List.not_mem_nil), by decide, by decide, uw_471, List.mem_of_getElem? (i := 1) rfl⟩ dL_removeLastCell_11 (Nat.le_of_ble_eq_true rfl) (st_no [some (.ref 0), some (.ref 40)] [] rfl) ?_
  refine q_iconst (v := 1) dL_removeLastCell_12 rfl ?_
  exact q_iret dL_removeLastCell_13 rfl ⟨rfl, rfl⟩
set_option maxRecDepth 100000 in
set_option maxHeartbeats 4000000 in
theorem k_L_setRecovery {g : G0} (hG : Gd g) (S S2 : SS) (x0 : Int32) (x1 : Int32) (x2 : Int32) (r : Int32) (hc : ctv g mX9_setRecovery [.ref 0, .int (x0), .int (x1), .int (x2)] (mixW g S) (.int r) (mixW g S2)) : ctHv g mL_setRecovery [.ref 0, .int (x0), .int (x1), .int (x2), .ref 40] (mixW g S) (.int 0) (mixW g (s_OU S2 (vp_updL (z_OU S2) 0 (r.toInt64)))) := by
  refine ctH_of hG [some (.ref 0), some (.int (x0)), some (.int (x1)), some (.int (x2)), some (.ref 40), none] rfl rfl (Nat.le_of_ble_eq_true rfl) (fun h => ?_) rfl
  refine q_aload dL_setRecovery_0 rfl ?_
  refine q_iconst (v := 0) dL_setRecovery_2 rfl ?_
  refine q_aload_n dL_setRecovery_3 rfl ?_
  refine q_iload_n dL_setRecovery_4 rfl ?_
  refine q_iload_n dL_setRecovery_5 rfl ?_
  refine q_iload_n dL_setRecovery_6 rfl ?_
  refine q_callVv (ν := mX9_setRecovery) dL_setRecovery_7 uw_691 vX9_setRecovery hc (Nat.le_of_ble_eq_true rfl) rfl rfl rfl rfl (Nat.le_of_ble_eq_true rfl) (Nat.le_of_ble_eq_true rfl) (Nat.le_of_ble_eq_true rfl) 0 (Nat.le_of_ble_eq_true rfl) ?_
  refine q_i2l dL_setRecovery_10 ?_
  refine q_last (f := (z_OU S2)) dL_setRecovery_11 (Nat.le_of_ble_eq_true rfl) rfl (0) rfl (Nat.le_of_ble_eq_true rfl) (Nat.le_of_ble_eq_true rfl) ?_
  refine wp_w (u_OU g _ _) ?_
  refine q_goto 23 dL_setRecovery_12 rfl ?_
  refine q_iconst (v := 0) dL_setRecovery_23 rfl ?_
  exact q_iret dL_setRecovery_24 rfl ⟨rfl, rfl⟩
set_option maxRecDepth 100000 in
set_option maxHeartbeats 4000000 in
theorem k_L_setRecovery_EIO {g : G0} (hG : Gd g) (S S2 : SS) (x0 : Int32) (x1 : Int32) (x2 : Int32) (hc : ctt g mX9_setRecovery [.ref 0, .int (x0), .int (x1), .int (x2)] (mixW g S) EIO (mixW g S2)) : ctHv g mL_setRecovery [.ref 0, .int (x0), .int (x1), .int (x2), .ref 40] (mixW g S) (.int 1) (mixW g S2) := by
  refine ctH_of hG [some (.ref 0), some (.int (x0)), some (.int (x1)), some (.int (x2)), some (.ref 40), none] rfl rfl (Nat.le_of_ble_eq_true rfl) (fun h => ?_) rfl
  refine q_aload dL_setRecovery_0 rfl ?_
  refine q_iconst (v := 0) dL_setRecovery_2 rfl ?_
  refine q_aload_n dL_setRecovery_3 rfl ?_
  refine q_iload_n dL_setRecovery_4 rfl ?_
  refine q_iload_n dL_setRecovery_5 rfl ?_
  refine q_iload_n dL_setRecovery_6 rfl ?_
  refine q_callVtw (E := EIO) (pre := []) (x := (⟨0, 12, 15, 25⟩ : ExceptionTableEntry)) (suf := [(⟨0, 12, 19, 13⟩ : ExceptionTableEntry)]) (ν := mX9_setRecovery) dL_setRecovery_7 uw_691 vX9_setRecovery hc (Nat.le_of_ble_eq_true rfl) rfl rfl rfl rfl (Nat.le_of_ble_eq_true rfl) (Nat.le_of_ble_eq_true rfl) (Nat.le_of_ble_eq_true rfl) 0 (Nat.le_of_ble_eq_true rfl) ⟨rfl, (fun z hz => absurd hz List.not_mem_nil), by decide, by decide, uw_616, List.mem_of_getElem? (i := 2) rfl⟩ dL_setRecovery_15 (Nat.le_of_ble_eq_true rfl) (st_no [some (.ref 0), some (.int (x0)), some (.int (x1)), some (.int (x2)), some (.ref 40)] [] rfl) ?_
  refine q_iconst (v := 1) dL_setRecovery_17 rfl ?_
  exact q_iret dL_setRecovery_18 rfl ⟨rfl, rfl⟩
set_option maxRecDepth 100000 in
set_option maxHeartbeats 4000000 in
theorem k_L_setRecovery_EIA {g : G0} (hG : Gd g) (S S2 : SS) (x0 : Int32) (x1 : Int32) (x2 : Int32) (hc : ctt g mX9_setRecovery [.ref 0, .int (x0), .int (x1), .int (x2)] (mixW g S) EIA (mixW g S2)) : ctHv g mL_setRecovery [.ref 0, .int (x0), .int (x1), .int (x2), .ref 40] (mixW g S) (.int 2) (mixW g S2) := by
  refine ctH_of hG [some (.ref 0), some (.int (x0)), some (.int (x1)), some (.int (x2)), some (.ref 40), none] rfl rfl (Nat.le_of_ble_eq_true rfl) (fun h => ?_) rfl
  refine q_aload dL_setRecovery_0 rfl ?_
  refine q_iconst (v := 0) dL_setRecovery_2 rfl ?_
  refine q_aload_n dL_setRecovery_3 rfl ?_
  refine q_iload_n dL_setRecovery_4 rfl ?_
  refine q_iload_n dL_setRecovery_5 rfl ?_
  refine q_iload_n dL_setRecovery_6 rfl ?_
  refine q_callVtw (E := EIA) (pre := [(⟨0, 12, 15, 25⟩ : ExceptionTableEntry)]) (x := (⟨0, 12, 19, 13⟩ : ExceptionTableEntry)) (suf := []) (ν := mX9_setRecovery) dL_setRecovery_7 uw_691 vX9_setRecovery hc (Nat.le_of_ble_eq_true rfl) rfl rfl rfl rfl (Nat.le_of_ble_eq_true rfl) (Nat.le_of_ble_eq_true rfl) (Nat.le_of_ble_eq_true rfl) 0 (Nat.le_of_ble_eq_true rfl) ⟨rfl, (fun z hz => by rcases List.mem_cons.mp hz with rfl | hz; exact Or.inr ⟨by decide, EIO, uw_616, List.mem_of_getElem? (i := 1) rfl⟩; exact absurd hz List.not_mem_nil), by decide, by decide, uw_470, List.mem_of_getElem? (i := 0) rfl⟩ dL_setRecovery_19 (Nat.le_of_ble_eq_true rfl) (st_no [some (.ref 0), some (.int (x0)), some (.int (x1)), some (.int (x2)), some (.ref 40)] [] rfl) ?_
  refine q_iconst (v := 2) dL_setRecovery_21 rfl ?_
  exact q_iret dL_setRecovery_22 rfl ⟨rfl, rfl⟩
set_option maxRecDepth 100000 in
set_option maxHeartbeats 4000000 in
theorem k_L_setDestination {g : G0} (hG : Gd g) (S S2 : SS) (x0 : Int32) (x1 : Int32) (x2 : Int32) (r : Int32) (hc : ctv g mX9_setDestination [.ref 0, .int (x0), .int (x1), .int (x2)] (mixW g S) (.int r) (mixW g S2)) : ctHv g mL_setDestination [.ref 0, .int (x0), .int (x1), .int (x2), .ref 40] (mixW g S) (.int 0) (mixW g (s_OU S2 (vp_updL (z_OU S2) 0 (r.toInt64)))) := by
  refine ctH_of hG [some (.ref 0), some (.int (x0)), some (.int (x1)), some (.int (x2)), some (.ref 40), none] rfl rfl (Nat.le_of_ble_eq_true rfl) (fun h => ?_) rfl
  refine q_aload dL_setDestination_0 rfl ?_
  refine q_iconst (v := 0) dL_setDestination_2 rfl ?_
  refine q_aload_n dL_setDestination_3 rfl ?_
  refine q_iload_n dL_setDestination_4 rfl ?_
  refine q_iload_n dL_setDestination_5 rfl ?_
  refine q_iload_n dL_setDestination_6 rfl ?_
  refine q_callVv (ν := mX9_setDestination) dL_setDestination_7 uw_698 vX9_setDestination hc (Nat.le_of_ble_eq_true rfl) rfl rfl rfl rfl (Nat.le_of_ble_eq_true rfl) (Nat.le_of_ble_eq_true rfl) (Nat.le_of_ble_eq_true rfl) 0 (Nat.le_of_ble_eq_true rfl) ?_
  refine q_i2l dL_setDestination_10 ?_
  refine q_last (f := (z_OU S2)) dL_setDestination_11 (Nat.le_of_ble_eq_true rfl) rfl (0) rfl (Nat.le_of_ble_eq_true rfl) (Nat.le_of_ble_eq_true rfl) ?_
  refine wp_w (u_OU g _ _) ?_
  refine q_goto 23 dL_setDestination_12 rfl ?_
  refine q_iconst (v := 0) dL_setDestination_23 rfl ?_
  exact q_iret dL_setDestination_24 rfl ⟨rfl, rfl⟩
set_option maxRecDepth 100000 in
set_option maxHeartbeats 4000000 in
theorem k_L_setDestination_EIO {g : G0} (hG : Gd g) (S S2 : SS) (x0 : Int32) (x1 : Int32) (x2 : Int32) (hc : ctt g mX9_setDestination [.ref 0, .int (x0), .int (x1), .int (x2)] (mixW g S) EIO (mixW g S2)) : ctHv g mL_setDestination [.ref 0, .int (x0), .int (x1), .int (x2), .ref 40] (mixW g S) (.int 1) (mixW g S2) := by
  refine ctH_of hG [some (.ref 0), some (.int (x0)), some (.int (x1)), some (.int (x2)), some (.ref 40), none] rfl rfl (Nat.le_of_ble_eq_true rfl) (fun h => ?_) rfl
  refine q_aload dL_setDestination_0 rfl ?_
  refine q_iconst (v := 0) dL_setDestination_2 rfl ?_
  refine q_aload_n dL_setDestination_3 rfl ?_
  refine q_iload_n dL_setDestination_4 rfl ?_
  refine q_iload_n dL_setDestination_5 rfl ?_
  refine q_iload_n dL_setDestination_6 rfl ?_
  refine q_callVtw (E := EIO) (pre := []) (x := (⟨0, 12, 15, 25⟩ : ExceptionTableEntry)) (suf := [(⟨0, 12, 19, 13⟩ : ExceptionTableEntry)]) (ν := mX9_setDestination) dL_setDestination_7 uw_698 vX9_setDestination hc (Nat.le_of_ble_eq_true rfl) rfl rfl rfl rfl (Nat.le_of_ble_eq_true rfl) (Nat.le_of_ble_eq_true rfl) (Nat.le_of_ble_eq_true rfl) 0 (Nat.le_of_ble_eq_true rfl) ⟨rfl, (fun z hz => absurd hz List.not_mem_nil), by decide, by decide, uw_616, List.mem_of_getElem? (i := 2) rfl⟩ dL_setDestination_15 (Nat.le_of_ble_eq_true rfl) (st_no [some (.ref 0), some (.int (x0)), some (.int (x1)), some (.int (x2)), some (.ref 40)] [] rfl) ?_
  refine q_iconst (v := 1) dL_setDestination_17 rfl ?_
  exact q_iret dL_setDestination_18 rfl ⟨rfl, rfl⟩
set_option maxRecDepth 100000 in
set_option maxHeartbeats 4000000 in
theorem k_L_setDestination_EIA {g : G0} (hG : Gd g) (S S2 : SS) (x0 : Int32) (x1 : Int32) (x2 : Int32) (hc : ctt g mX9_setDestination [.ref 0, .int (x0), .int (x1), .int (x2)] (mixW g S) EIA (mixW g S2)) : ctHv g mL_setDestination [.ref 0, .int (x0), .int (x1), .int (x2), .ref 40] (mixW g S) (.int 2) (mixW g S2) := by
  refine ctH_of hG [some (.ref 0), some (.int (x0)), some (.int (x1)), some (.int (x2)), some (.ref 40), none] rfl rfl (Nat.le_of_ble_eq_true rfl) (fun h => ?_) rfl
  refine q_aload dL_setDestination_0 rfl ?_
  refine q_iconst (v := 0) dL_setDestination_2 rfl ?_
  refine q_aload_n dL_setDestination_3 rfl ?_
  refine q_iload_n dL_setDestination_4 rfl ?_
  refine q_iload_n dL_setDestination_5 rfl ?_
  refine q_iload_n dL_setDestination_6 rfl ?_
  refine q_callVtw (E := EIA) (pre := [(⟨0, 12, 15, 25⟩ : ExceptionTableEntry)]) (x := (⟨0, 12, 19, 13⟩ : ExceptionTableEntry)) (suf := []) (ν := mX9_setDestination) dL_setDestination_7 uw_698 vX9_setDestination hc (Nat.le_of_ble_eq_true rfl) rfl rfl rfl rfl (Nat.le_of_ble_eq_true rfl) (Nat.le_of_ble_eq_true rfl) (Nat.le_of_ble_eq_true rfl) 0 (Nat.le_of_ble_eq_true rfl) ⟨rfl, (fun z hz => by rcases List.mem_cons.mp hz with rfl | hz; exact Or.inr ⟨by decide, EIO, uw_616, List.mem_of_getElem? (i := 1) rfl⟩; exact absurd hz List.not_mem_nil), by decide, by decide, uw_470, List.mem_of_getElem? (i := 0) rfl⟩ dL_setDestination_19 (Nat.le_of_ble_eq_true rfl) (st_no [some (.ref 0), some (.int (x0)), some (.int (x1)), some (.int (x2)), some (.ref 40)] [] rfl) ?_
  refine q_iconst (v := 2) dL_setDestination_21 rfl ?_
  exact q_iret dL_setDestination_22 rfl ⟨rfl, rfl⟩
set_option maxRecDepth 100000 in
set_option maxHeartbeats 4000000 in
theorem k_L_setFeed {g : G0} (hG : Gd g) (S S2 : SS) (x0 : Int32) (x1 : Int32) (x2 : Int32) (r : Int32) (hc : ctv g mX9_setFeed [.ref 0, .int (x0), .int (x1), .int (x2)] (mixW g S) (.int r) (mixW g S2)) : ctHv g mL_setFeed [.ref 0, .int (x0), .int (x1), .int (x2), .ref 40] (mixW g S) (.int 0) (mixW g (s_OU S2 (vp_updL (z_OU S2) 0 (r.toInt64)))) := by
  refine ctH_of hG [some (.ref 0), some (.int (x0)), some (.int (x1)), some (.int (x2)), some (.ref 40), none] rfl rfl (Nat.le_of_ble_eq_true rfl) (fun h => ?_) rfl
  refine q_aload dL_setFeed_0 rfl ?_
  refine q_iconst (v := 0) dL_setFeed_2 rfl ?_
  refine q_aload_n dL_setFeed_3 rfl ?_
  refine q_iload_n dL_setFeed_4 rfl ?_
  refine q_iload_n dL_setFeed_5 rfl ?_
  refine q_iload_n dL_setFeed_6 rfl ?_
  refine q_callVv (ν := mX9_setFeed) dL_setFeed_7 uw_706 vX9_setFeed hc (Nat.le_of_ble_eq_true rfl) rfl rfl rfl rfl (Nat.le_of_ble_eq_true rfl) (Nat.le_of_ble_eq_true rfl) (Nat.le_of_ble_eq_true rfl) 0 (Nat.le_of_ble_eq_true rfl) ?_
  refine q_i2l dL_setFeed_10 ?_
  refine q_last (f := (z_OU S2)) dL_setFeed_11 (Nat.le_of_ble_eq_true rfl) rfl (0) rfl (Nat.le_of_ble_eq_true rfl) (Nat.le_of_ble_eq_true rfl) ?_
  refine wp_w (u_OU g _ _) ?_
  refine q_goto 19 dL_setFeed_12 rfl ?_
  refine q_iconst (v := 0) dL_setFeed_19 rfl ?_
  exact q_iret dL_setFeed_20 rfl ⟨rfl, rfl⟩
set_option maxRecDepth 100000 in
set_option maxHeartbeats 4000000 in
theorem k_L_setFeed_EIA {g : G0} (hG : Gd g) (S S2 : SS) (x0 : Int32) (x1 : Int32) (x2 : Int32) (hc : ctt g mX9_setFeed [.ref 0, .int (x0), .int (x1), .int (x2)] (mixW g S) EIA (mixW g S2)) : ctHv g mL_setFeed [.ref 0, .int (x0), .int (x1), .int (x2), .ref 40] (mixW g S) (.int 1) (mixW g S2) := by
  refine ctH_of hG [some (.ref 0), some (.int (x0)), some (.int (x1)), some (.int (x2)), some (.ref 40), none] rfl rfl (Nat.le_of_ble_eq_true rfl) (fun h => ?_) rfl
  refine q_aload dL_setFeed_0 rfl ?_
  refine q_iconst (v := 0) dL_setFeed_2 rfl ?_
  refine q_aload_n dL_setFeed_3 rfl ?_
  refine q_iload_n dL_setFeed_4 rfl ?_
  refine q_iload_n dL_setFeed_5 rfl ?_
  refine q_iload_n dL_setFeed_6 rfl ?_
  refine q_callVtw (E := EIA) (pre := []) (x := (⟨0, 12, 15, 13⟩ : ExceptionTableEntry)) (suf := []) (ν := mX9_setFeed) dL_setFeed_7 uw_706 vX9_setFeed hc (Nat.le_of_ble_eq_true rfl) rfl rfl rfl rfl (Nat.le_of_ble_eq_true rfl) (Nat.le_of_ble_eq_true rfl) (Nat.le_of_ble_eq_true rfl) 0 (Nat.le_of_ble_eq_true rfl) ⟨rfl, (fun z hz => absurd hz List.not_mem_nil), by decide, by decide, uw_470, List.mem_of_getElem? (i := 0) rfl⟩ dL_setFeed_15 (Nat.le_of_ble_eq_true rfl) (st_no [some (.ref 0), some (.int (x0)), some (.int (x1)), some (.int (x2)), some (.ref 40)] [] rfl) ?_
  refine q_iconst (v := 1) dL_setFeed_17 rfl ?_
  exact q_iret dL_setFeed_18 rfl ⟨rfl, rfl⟩
set_option maxRecDepth 100000 in
set_option maxHeartbeats 4000000 in
theorem k_L_step {g : G0} (hG : Gd g) (S S2 : SS) (x0 : Int32) (r : Int32) (hc : ctv g mX9_step [.ref 0, .int (x0)] (mixW g S) (.int r) (mixW g S2)) : ctHv g mL_step [.ref 0, .int (x0), .ref 40] (mixW g S) (.int 0) (mixW g (s_OU S2 (vp_updL (z_OU S2) 0 (r.toInt64)))) := by
  refine ctH_of hG [some (.ref 0), some (.int (x0)), some (.ref 40), none] rfl rfl (Nat.le_of_ble_eq_true rfl) (fun h => ?_) rfl
  refine q_aload_n dL_step_0 rfl ?_
  refine q_iconst (v := 0) dL_step_1 rfl ?_
  refine q_aload_n dL_step_2 rfl ?_
  refine q_iload_n dL_step_3 rfl ?_
  refine q_callVv (ν := mX9_step) dL_step_4 uw_714 vX9_step hc (Nat.le_of_ble_eq_true rfl) rfl rfl rfl rfl (Nat.le_of_ble_eq_true rfl) (Nat.le_of_ble_eq_true rfl) (Nat.le_of_ble_eq_true rfl) 0 (Nat.le_of_ble_eq_true rfl) ?_
  refine q_i2l dL_step_7 ?_
  refine q_last (f := (z_OU S2)) dL_step_8 (Nat.le_of_ble_eq_true rfl) rfl (0) rfl (Nat.le_of_ble_eq_true rfl) (Nat.le_of_ble_eq_true rfl) ?_
  refine wp_w (u_OU g _ _) ?_
  refine q_goto 15 dL_step_9 rfl ?_
  refine q_iconst (v := 0) dL_step_15 rfl ?_
  exact q_iret dL_step_16 rfl ⟨rfl, rfl⟩
set_option maxRecDepth 100000 in
set_option maxHeartbeats 4000000 in
theorem k_L_step_g {g : G0} (hG : Gd g) (S : SS) (x0 : Int32) (r : Int32) (P : SS → Prop) (hc : ct g mX9_step [.ref 0, .int (x0)] (mixW g S) (fun v w1 => v = some (.int r) ∧ ∃ S2, w1 = mixW g S2 ∧ P S2) (fun _ _ => False)) : ctH g mL_step [.ref 0, .int (x0), .ref 40] (mixW g S) (fun v w1 => v = some (.int 0) ∧ ∃ S2, w1 = mixW g (s_OU S2 (vp_updL (z_OU S2) 0 r.toInt64)) ∧ P S2) (fun _ _ => False) := by
  refine ctH_of hG [some (.ref 0), some (.int (x0)), some (.ref 40), none] rfl rfl (Nat.le_of_ble_eq_true rfl) (fun h => ?_) rfl
  refine q_aload_n dL_step_0 rfl ?_
  refine q_iconst (v := 0) dL_step_1 rfl ?_
  refine q_aload_n dL_step_2 rfl ?_
  refine q_iload_n dL_step_3 rfl ?_
  refine q_callVh (ν := mX9_step) dL_step_4 uw_714 vX9_step hc (Nat.le_of_ble_eq_true rfl) rfl rfl rfl rfl (Nat.le_of_ble_eq_true rfl) (Nat.le_of_ble_eq_true rfl) (Nat.le_of_ble_eq_true rfl) 0 (Nat.le_of_ble_eq_true rfl) (fun v w1 hv => ?_)
  obtain ⟨rfl, S2, rfl, hP⟩ := hv
  refine wp_eq (st2 := .int (r) :: _) rfl ?_
  refine q_i2l dL_step_7 ?_
  refine q_last (f := (z_OU S2)) dL_step_8 (Nat.le_of_ble_eq_true rfl) rfl (0) rfl (Nat.le_of_ble_eq_true rfl) (Nat.le_of_ble_eq_true rfl) ?_
  refine wp_w (u_OU g _ _) ?_
  refine q_goto 15 dL_step_9 rfl ?_
  refine q_iconst (v := 0) dL_step_15 rfl ?_
  exact q_iret dL_step_16 rfl ⟨rfl, S2, rfl, hP⟩
set_option maxRecDepth 100000 in
set_option maxHeartbeats 4000000 in
theorem k_L_step_EIA {g : G0} (hG : Gd g) (S S2 : SS) (x0 : Int32) (hc : ctt g mX9_step [.ref 0, .int (x0)] (mixW g S) EIA (mixW g S2)) : ctHv g mL_step [.ref 0, .int (x0), .ref 40] (mixW g S) (.int 1) (mixW g S2) := by
  refine ctH_of hG [some (.ref 0), some (.int (x0)), some (.ref 40), none] rfl rfl (Nat.le_of_ble_eq_true rfl) (fun h => ?_) rfl
  refine q_aload_n dL_step_0 rfl ?_
  refine q_iconst (v := 0) dL_step_1 rfl ?_
  refine q_aload_n dL_step_2 rfl ?_
  refine q_iload_n dL_step_3 rfl ?_
  refine q_callVtc (E := EIA) (pre := []) (x := (⟨0, 9, 12, 13⟩ : ExceptionTableEntry)) (suf := []) (ν := mX9_step) dL_step_4 uw_714 vX9_step hc (Nat.le_of_ble_eq_true rfl) rfl rfl rfl rfl (Nat.le_of_ble_eq_true rfl) (Nat.le_of_ble_eq_true rfl) (Nat.le_of_ble_eq_true rfl) 0 (Nat.le_of_ble_eq_true rfl) ⟨rfl, (fun z hz => absurd hz List.not_mem_nil), by decide, by decide, uw_470, List.mem_of_getElem? (i := 0) rfl⟩ dL_step_12 (Nat.le_of_ble_eq_true rfl) (st_no [some (.ref 0), some (.int (x0)), some (.ref 40)] [] rfl) ?_
  refine q_iconst (v := 1) dL_step_13 rfl ?_
  exact q_iret dL_step_14 rfl ⟨rfl, rfl⟩
set_option maxRecDepth 100000 in
set_option maxHeartbeats 4000000 in
theorem k_L_undo {g : G0} (hG : Gd g) (S S2 : SS) (r : Int32) (hc : ctv g mX9_undo [.ref 0] (mixW g S) (.int r) (mixW g S2)) : ctHv g mL_undo [.ref 0, .ref 40] (mixW g S) (.int 0) (mixW g (s_OU S2 (vp_updL (z_OU S2) 0 (r.toInt64)))) := by
  refine ctH_of hG [some (.ref 0), some (.ref 40), none] rfl rfl (Nat.le_of_ble_eq_true rfl) (fun h => ?_) rfl
  refine q_aload_n dL_undo_0 rfl ?_
  refine q_iconst (v := 0) dL_undo_1 rfl ?_
  refine q_aload_n dL_undo_2 rfl ?_
  refine q_callVv (ν := mX9_undo) dL_undo_3 uw_746 vX9_undo hc (Nat.le_of_ble_eq_true rfl) rfl rfl rfl rfl (Nat.le_of_ble_eq_true rfl) (Nat.le_of_ble_eq_true rfl) (Nat.le_of_ble_eq_true rfl) 0 (Nat.le_of_ble_eq_true rfl) ?_
  refine q_i2l dL_undo_6 ?_
  refine q_last (f := (z_OU S2)) dL_undo_7 (Nat.le_of_ble_eq_true rfl) rfl (0) rfl (Nat.le_of_ble_eq_true rfl) (Nat.le_of_ble_eq_true rfl) ?_
  refine wp_w (u_OU g _ _) ?_
  refine q_goto 14 dL_undo_8 rfl ?_
  refine q_iconst (v := 0) dL_undo_14 rfl ?_
  exact q_iret dL_undo_15 rfl ⟨rfl, rfl⟩
set_option maxRecDepth 100000 in
set_option maxHeartbeats 4000000 in
theorem k_L_undo_EIS {g : G0} (hG : Gd g) (S S2 : SS) (hc : ctt g mX9_undo [.ref 0] (mixW g S) EIS (mixW g S2)) : ctHv g mL_undo [.ref 0, .ref 40] (mixW g S) (.int 1) (mixW g S2) := by
  refine ctH_of hG [some (.ref 0), some (.ref 40), none] rfl rfl (Nat.le_of_ble_eq_true rfl) (fun h => ?_) rfl
  refine q_aload_n dL_undo_0 rfl ?_
  refine q_iconst (v := 0) dL_undo_1 rfl ?_
  refine q_aload_n dL_undo_2 rfl ?_
  refine q_callVtc (E := EIS) (pre := []) (x := (⟨0, 8, 11, 15⟩ : ExceptionTableEntry)) (suf := []) (ν := mX9_undo) dL_undo_3 uw_746 vX9_undo hc (Nat.le_of_ble_eq_true rfl) rfl rfl rfl rfl (Nat.le_of_ble_eq_true rfl) (Nat.le_of_ble_eq_true rfl) (Nat.le_of_ble_eq_true rfl) 0 (Nat.le_of_ble_eq_true rfl) ⟨rfl, (fun z hz => absurd hz List.not_mem_nil), by decide, by decide, uw_471, List.mem_of_getElem? (i := 1) rfl⟩ dL_undo_11 (Nat.le_of_ble_eq_true rfl) (st_no [some (.ref 0), some (.ref 40)] [] rfl) ?_
  refine q_iconst (v := 1) dL_undo_12 rfl ?_
  exact q_iret dL_undo_13 rfl ⟨rfl, rfl⟩
set_option maxRecDepth 100000 in
set_option maxHeartbeats 4000000 in
theorem k_L_content {g : G0} (hG : Gd g) (S S2 : SS) (x0 : Int32) (x1 : Int32) (r : Int32) (hc : ctv g mX9_content [.ref 0, .int (x0), .int (x1)] (mixW g S) (.int r) (mixW g S2)) : ctHv g mL_content [.ref 0, .int (x0), .int (x1), .ref 40] (mixW g S) (.int 0) (mixW g (s_OU S2 (vp_updL (z_OU S2) 0 (r.toInt64)))) := by
  refine ctH_of hG [some (.ref 0), some (.int (x0)), some (.int (x1)), some (.ref 40), none] rfl rfl (Nat.le_of_ble_eq_true rfl) (fun h => ?_) rfl
  refine q_aload_n dL_content_0 rfl ?_
  refine q_iconst (v := 0) dL_content_1 rfl ?_
  refine q_aload_n dL_content_2 rfl ?_
  refine q_iload_n dL_content_3 rfl ?_
  refine q_iload_n dL_content_4 rfl ?_
  refine q_callVv (ν := mX9_content) dL_content_5 uw_766 vX9_content hc (Nat.le_of_ble_eq_true rfl) rfl rfl rfl rfl (Nat.le_of_ble_eq_true rfl) (Nat.le_of_ble_eq_true rfl) (Nat.le_of_ble_eq_true rfl) 0 (Nat.le_of_ble_eq_true rfl) ?_
  refine q_i2l dL_content_8 ?_
  refine q_last (f := (z_OU S2)) dL_content_9 (Nat.le_of_ble_eq_true rfl) rfl (0) rfl (Nat.le_of_ble_eq_true rfl) (Nat.le_of_ble_eq_true rfl) ?_
  refine wp_w (u_OU g _ _) ?_
  refine q_goto 17 dL_content_10 rfl ?_
  refine q_iconst (v := 0) dL_content_17 rfl ?_
  exact q_iret dL_content_18 rfl ⟨rfl, rfl⟩
set_option maxRecDepth 100000 in
set_option maxHeartbeats 4000000 in
theorem k_L_content_EIO {g : G0} (hG : Gd g) (S S2 : SS) (x0 : Int32) (x1 : Int32) (hc : ctt g mX9_content [.ref 0, .int (x0), .int (x1)] (mixW g S) EIO (mixW g S2)) : ctHv g mL_content [.ref 0, .int (x0), .int (x1), .ref 40] (mixW g S) (.int 1) (mixW g S2) := by
  refine ctH_of hG [some (.ref 0), some (.int (x0)), some (.int (x1)), some (.ref 40), none] rfl rfl (Nat.le_of_ble_eq_true rfl) (fun h => ?_) rfl
  refine q_aload_n dL_content_0 rfl ?_
  refine q_iconst (v := 0) dL_content_1 rfl ?_
  refine q_aload_n dL_content_2 rfl ?_
  refine q_iload_n dL_content_3 rfl ?_
  refine q_iload_n dL_content_4 rfl ?_
  refine q_callVtw (E := EIO) (pre := []) (x := (⟨0, 10, 13, 25⟩ : ExceptionTableEntry)) (suf := []) (ν := mX9_content) dL_content_5 uw_766 vX9_content hc (Nat.le_of_ble_eq_true rfl) rfl rfl rfl rfl (Nat.le_of_ble_eq_true rfl) (Nat.le_of_ble_eq_true rfl) (Nat.le_of_ble_eq_true rfl) 0 (Nat.le_of_ble_eq_true rfl) ⟨rfl, (fun z hz => absurd hz List.not_mem_nil), by decide, by decide, uw_616, List.mem_of_getElem? (i := 2) rfl⟩ dL_content_13 (Nat.le_of_ble_eq_true rfl) (st_no [some (.ref 0), some (.int (x0)), some (.int (x1)), some (.ref 40)] [] rfl) ?_
  refine q_iconst (v := 1) dL_content_15 rfl ?_
  exact q_iret dL_content_16 rfl ⟨rfl, rfl⟩
set_option maxRecDepth 100000 in
set_option maxHeartbeats 4000000 in
theorem k_L_amount {g : G0} (hG : Gd g) (S S2 : SS) (x0 : Int32) (x1 : Int32) (r : Int32) (hc : ctv g mX9_amount [.ref 0, .int (x0), .int (x1)] (mixW g S) (.int r) (mixW g S2)) : ctHv g mL_amount [.ref 0, .int (x0), .int (x1), .ref 40] (mixW g S) (.int 0) (mixW g (s_OU S2 (vp_updL (z_OU S2) 0 (r.toInt64)))) := by
  refine ctH_of hG [some (.ref 0), some (.int (x0)), some (.int (x1)), some (.ref 40), none] rfl rfl (Nat.le_of_ble_eq_true rfl) (fun h => ?_) rfl
  refine q_aload_n dL_amount_0 rfl ?_
  refine q_iconst (v := 0) dL_amount_1 rfl ?_
  refine q_aload_n dL_amount_2 rfl ?_
  refine q_iload_n dL_amount_3 rfl ?_
  refine q_iload_n dL_amount_4 rfl ?_
  refine q_callVv (ν := mX9_amount) dL_amount_5 uw_774 vX9_amount hc (Nat.le_of_ble_eq_true rfl) rfl rfl rfl rfl (Nat.le_of_ble_eq_true rfl) (Nat.le_of_ble_eq_true rfl) (Nat.le_of_ble_eq_true rfl) 0 (Nat.le_of_ble_eq_true rfl) ?_
  refine q_i2l dL_amount_8 ?_
  refine q_last (f := (z_OU S2)) dL_amount_9 (Nat.le_of_ble_eq_true rfl) rfl (0) rfl (Nat.le_of_ble_eq_true rfl) (Nat.le_of_ble_eq_true rfl) ?_
  refine wp_w (u_OU g _ _) ?_
  refine q_goto 17 dL_amount_10 rfl ?_
  refine q_iconst (v := 0) dL_amount_17 rfl ?_
  exact q_iret dL_amount_18 rfl ⟨rfl, rfl⟩
set_option maxRecDepth 100000 in
set_option maxHeartbeats 4000000 in
theorem k_L_amount_EIO {g : G0} (hG : Gd g) (S S2 : SS) (x0 : Int32) (x1 : Int32) (hc : ctt g mX9_amount [.ref 0, .int (x0), .int (x1)] (mixW g S) EIO (mixW g S2)) : ctHv g mL_amount [.ref 0, .int (x0), .int (x1), .ref 40] (mixW g S) (.int 1) (mixW g S2) := by
  refine ctH_of hG [some (.ref 0), some (.int (x0)), some (.int (x1)), some (.ref 40), none] rfl rfl (Nat.le_of_ble_eq_true rfl) (fun h => ?_) rfl
  refine q_aload_n dL_amount_0 rfl ?_
  refine q_iconst (v := 0) dL_amount_1 rfl ?_
  refine q_aload_n dL_amount_2 rfl ?_
  refine q_iload_n dL_amount_3 rfl ?_
  refine q_iload_n dL_amount_4 rfl ?_
  refine q_callVtw (E := EIO) (pre := []) (x := (⟨0, 10, 13, 25⟩ : ExceptionTableEntry)) (suf := []) (ν := mX9_amount) dL_amount_5 uw_774 vX9_amount hc (Nat.le_of_ble_eq_true rfl) rfl rfl rfl rfl (Nat.le_of_ble_eq_true rfl) (Nat.le_of_ble_eq_true rfl) (Nat.le_of_ble_eq_true rfl) 0 (Nat.le_of_ble_eq_true rfl) ⟨rfl, (fun z hz => absurd hz List.not_mem_nil), by decide, by decide, uw_616, List.mem_of_getElem? (i := 2) rfl⟩ dL_amount_13 (Nat.le_of_ble_eq_true rfl) (st_no [some (.ref 0), some (.int (x0)), some (.int (x1)), some (.ref 40)] [] rfl) ?_
  refine q_iconst (v := 1) dL_amount_15 rfl ?_
  exact q_iret dL_amount_16 rfl ⟨rfl, rfl⟩
set_option maxRecDepth 100000 in
set_option maxHeartbeats 4000000 in
theorem k_L_flowNumerator {g : G0} (hG : Gd g) (S S2 : SS) (x0 : Int32) (x1 : Int32) (r : Int64) (hc : ctv g mX9_flowNumerator [.ref 0, .int (x0), .int (x1)] (mixW g S) (.long r) (mixW g S2)) : ctHv g mL_flowNumerator [.ref 0, .int (x0), .int (x1), .ref 40] (mixW g S) (.int 0) (mixW g (s_OU S2 (vp_updL (z_OU S2) 0 (r)))) := by
  refine ctH_of hG [some (.ref 0), some (.int (x0)), some (.int (x1)), some (.ref 40), none] rfl rfl (Nat.le_of_ble_eq_true rfl) (fun h => ?_) rfl
  refine q_aload_n dL_flowNumerator_0 rfl ?_
  refine q_iconst (v := 0) dL_flowNumerator_1 rfl ?_
  refine q_aload_n dL_flowNumerator_2 rfl ?_
  refine q_iload_n dL_flowNumerator_3 rfl ?_
  refine q_iload_n dL_flowNumerator_4 rfl ?_
  refine q_callVv (ν := mX9_flowNumerator) dL_flowNumerator_5 uw_782 vX9_flowNumerator hc (Nat.le_of_ble_eq_true rfl) rfl rfl rfl rfl (Nat.le_of_ble_eq_true rfl) (Nat.le_of_ble_eq_true rfl) (Nat.le_of_ble_eq_true rfl) 0 (Nat.le_of_ble_eq_true rfl) ?_
  refine q_last (f := (z_OU S2)) dL_flowNumerator_8 (Nat.le_of_ble_eq_true rfl) rfl (0) rfl (Nat.le_of_ble_eq_true rfl) (Nat.le_of_ble_eq_true rfl) ?_
  refine wp_w (u_OU g _ _) ?_
  refine q_goto 20 dL_flowNumerator_9 rfl ?_
  refine q_iconst (v := 0) dL_flowNumerator_20 rfl ?_
  exact q_iret dL_flowNumerator_21 rfl ⟨rfl, rfl⟩
set_option maxRecDepth 100000 in
set_option maxHeartbeats 4000000 in
theorem k_L_flowNumerator_EIO {g : G0} (hG : Gd g) (S S2 : SS) (x0 : Int32) (x1 : Int32) (hc : ctt g mX9_flowNumerator [.ref 0, .int (x0), .int (x1)] (mixW g S) EIO (mixW g S2)) : ctHv g mL_flowNumerator [.ref 0, .int (x0), .int (x1), .ref 40] (mixW g S) (.int 1) (mixW g S2) := by
  refine ctH_of hG [some (.ref 0), some (.int (x0)), some (.int (x1)), some (.ref 40), none] rfl rfl (Nat.le_of_ble_eq_true rfl) (fun h => ?_) rfl
  refine q_aload_n dL_flowNumerator_0 rfl ?_
  refine q_iconst (v := 0) dL_flowNumerator_1 rfl ?_
  refine q_aload_n dL_flowNumerator_2 rfl ?_
  refine q_iload_n dL_flowNumerator_3 rfl ?_
  refine q_iload_n dL_flowNumerator_4 rfl ?_
  refine q_callVtw (E := EIO) (pre := []) (x := (⟨0, 9, 12, 25⟩ : ExceptionTableEntry)) (suf := [(⟨0, 9, 16, 15⟩ : ExceptionTableEntry)]) (ν := mX9_flowNumerator) dL_flowNumerator_5 uw_782 vX9_flowNumerator hc (Nat.le_of_ble_eq_true rfl) rfl rfl rfl rfl (Nat.le_of_ble_eq_true rfl) (Nat.le_of_ble_eq_true rfl) (Nat.le_of_ble_eq_true rfl) 0 (Nat.le_of_ble_eq_true rfl) ⟨rfl, (fun z hz => absurd hz List.not_mem_nil), by decide, by decide, uw_616, List.mem_of_getElem? (i := 2) rfl⟩ dL_flowNumerator_12 (Nat.le_of_ble_eq_true rfl) (st_no [some (.ref 0), some (.int (x0)), some (.int (x1)), some (.ref 40)] [] rfl) ?_
  refine q_iconst (v := 1) dL_flowNumerator_14 rfl ?_
  exact q_iret dL_flowNumerator_15 rfl ⟨rfl, rfl⟩
set_option maxRecDepth 100000 in
set_option maxHeartbeats 4000000 in
theorem k_L_flowNumerator_EIS {g : G0} (hG : Gd g) (S S2 : SS) (x0 : Int32) (x1 : Int32) (hc : ctt g mX9_flowNumerator [.ref 0, .int (x0), .int (x1)] (mixW g S) EIS (mixW g S2)) : ctHv g mL_flowNumerator [.ref 0, .int (x0), .int (x1), .ref 40] (mixW g S) (.int 2) (mixW g S2) := by
  refine ctH_of hG [some (.ref 0), some (.int (x0)), some (.int (x1)), some (.ref 40), none] rfl rfl (Nat.le_of_ble_eq_true rfl) (fun h => ?_) rfl
  refine q_aload_n dL_flowNumerator_0 rfl ?_
  refine q_iconst (v := 0) dL_flowNumerator_1 rfl ?_
  refine q_aload_n dL_flowNumerator_2 rfl ?_
  refine q_iload_n dL_flowNumerator_3 rfl ?_
  refine q_iload_n dL_flowNumerator_4 rfl ?_
  refine q_callVtw (E := EIS) (pre := [(⟨0, 9, 12, 25⟩ : ExceptionTableEntry)]) (x := (⟨0, 9, 16, 15⟩ : ExceptionTableEntry)) (suf := []) (ν := mX9_flowNumerator) dL_flowNumerator_5 uw_782 vX9_flowNumerator hc (Nat.le_of_ble_eq_true rfl) rfl rfl rfl rfl (Nat.le_of_ble_eq_true rfl) (Nat.le_of_ble_eq_true rfl) (Nat.le_of_ble_eq_true rfl) 0 (Nat.le_of_ble_eq_true rfl) ⟨rfl, (fun z hz => by rcases List.mem_cons.mp hz with rfl | hz; exact Or.inr ⟨by decide, EIO, uw_616, List.mem_of_getElem? (i := 3) rfl⟩; exact absurd hz List.not_mem_nil), by decide, by decide, uw_471, List.mem_of_getElem? (i := 1) rfl⟩ dL_flowNumerator_16 (Nat.le_of_ble_eq_true rfl) (st_no [some (.ref 0), some (.int (x0)), some (.int (x1)), some (.ref 40)] [] rfl) ?_
  refine q_iconst (v := 2) dL_flowNumerator_18 rfl ?_
  exact q_iret dL_flowNumerator_19 rfl ⟨rfl, rfl⟩
set_option maxRecDepth 100000 in
set_option maxHeartbeats 4000000 in
theorem k_L_flowDenominator {g : G0} (hG : Gd g) (S S2 : SS) (x0 : Int32) (x1 : Int32) (r : Int64) (hc : ctv g mX9_flowDenominator [.ref 0, .int (x0), .int (x1)] (mixW g S) (.long r) (mixW g S2)) : ctHv g mL_flowDenominator [.ref 0, .int (x0), .int (x1), .ref 40] (mixW g S) (.int 0) (mixW g (s_OU S2 (vp_updL (z_OU S2) 0 (r)))) := by
  refine ctH_of hG [some (.ref 0), some (.int (x0)), some (.int (x1)), some (.ref 40), none] rfl rfl (Nat.le_of_ble_eq_true rfl) (fun h => ?_) rfl
  refine q_aload_n dL_flowDenominator_0 rfl ?_
  refine q_iconst (v := 0) dL_flowDenominator_1 rfl ?_
  refine q_aload_n dL_flowDenominator_2 rfl ?_
  refine q_iload_n dL_flowDenominator_3 rfl ?_
  refine q_iload_n dL_flowDenominator_4 rfl ?_
  refine q_callVv (ν := mX9_flowDenominator) dL_flowDenominator_5 uw_807 vX9_flowDenominator hc (Nat.le_of_ble_eq_true rfl) rfl rfl rfl rfl (Nat.le_of_ble_eq_true rfl) (Nat.le_of_ble_eq_true rfl) (Nat.le_of_ble_eq_true rfl) 0 (Nat.le_of_ble_eq_true rfl) ?_
  refine q_last (f := (z_OU S2)) dL_flowDenominator_8 (Nat.le_of_ble_eq_true rfl) rfl (0) rfl (Nat.le_of_ble_eq_true rfl) (Nat.le_of_ble_eq_true rfl) ?_
  refine wp_w (u_OU g _ _) ?_
  refine q_goto 20 dL_flowDenominator_9 rfl ?_
  refine q_iconst (v := 0) dL_flowDenominator_20 rfl ?_
  exact q_iret dL_flowDenominator_21 rfl ⟨rfl, rfl⟩
set_option maxRecDepth 100000 in
set_option maxHeartbeats 4000000 in
theorem k_L_flowDenominator_EIO {g : G0} (hG : Gd g) (S S2 : SS) (x0 : Int32) (x1 : Int32) (hc : ctt g mX9_flowDenominator [.ref 0, .int (x0), .int (x1)] (mixW g S) EIO (mixW g S2)) : ctHv g mL_flowDenominator [.ref 0, .int (x0), .int (x1), .ref 40] (mixW g S) (.int 1) (mixW g S2) := by
  refine ctH_of hG [some (.ref 0), some (.int (x0)), some (.int (x1)), some (.ref 40), none] rfl rfl (Nat.le_of_ble_eq_true rfl) (fun h => ?_) rfl
  refine q_aload_n dL_flowDenominator_0 rfl ?_
  refine q_iconst (v := 0) dL_flowDenominator_1 rfl ?_
  refine q_aload_n dL_flowDenominator_2 rfl ?_
  refine q_iload_n dL_flowDenominator_3 rfl ?_
  refine q_iload_n dL_flowDenominator_4 rfl ?_
  refine q_callVtw (E := EIO) (pre := []) (x := (⟨0, 9, 12, 25⟩ : ExceptionTableEntry)) (suf := [(⟨0, 9, 16, 15⟩ : ExceptionTableEntry)]) (ν := mX9_flowDenominator) dL_flowDenominator_5 uw_807 vX9_flowDenominator hc (Nat.le_of_ble_eq_true rfl) rfl rfl rfl rfl (Nat.le_of_ble_eq_true rfl) (Nat.le_of_ble_eq_true rfl) (Nat.le_of_ble_eq_true rfl) 0 (Nat.le_of_ble_eq_true rfl) ⟨rfl, (fun z hz => absurd hz List.not_mem_nil), by decide, by decide, uw_616, List.mem_of_getElem? (i := 2) rfl⟩ dL_flowDenominator_12 (Nat.le_of_ble_eq_true rfl) (st_no [some (.ref 0), some (.int (x0)), some (.int (x1)), some (.ref 40)] [] rfl) ?_
  refine q_iconst (v := 1) dL_flowDenominator_14 rfl ?_
  exact q_iret dL_flowDenominator_15 rfl ⟨rfl, rfl⟩
set_option maxRecDepth 100000 in
set_option maxHeartbeats 4000000 in
theorem k_L_flowDenominator_EIS {g : G0} (hG : Gd g) (S S2 : SS) (x0 : Int32) (x1 : Int32) (hc : ctt g mX9_flowDenominator [.ref 0, .int (x0), .int (x1)] (mixW g S) EIS (mixW g S2)) : ctHv g mL_flowDenominator [.ref 0, .int (x0), .int (x1), .ref 40] (mixW g S) (.int 2) (mixW g S2) := by
  refine ctH_of hG [some (.ref 0), some (.int (x0)), some (.int (x1)), some (.ref 40), none] rfl rfl (Nat.le_of_ble_eq_true rfl) (fun h => ?_) rfl
  refine q_aload_n dL_flowDenominator_0 rfl ?_
  refine q_iconst (v := 0) dL_flowDenominator_1 rfl ?_
  refine q_aload_n dL_flowDenominator_2 rfl ?_
  refine q_iload_n dL_flowDenominator_3 rfl ?_
  refine q_iload_n dL_flowDenominator_4 rfl ?_
  refine q_callVtw (E := EIS) (pre := [(⟨0, 9, 12, 25⟩ : ExceptionTableEntry)]) (x := (⟨0, 9, 16, 15⟩ : ExceptionTableEntry)) (suf := []) (ν := mX9_flowDenominator) dL_flowDenominator_5 uw_807 vX9_flowDenominator hc (Nat.le_of_ble_eq_true rfl) rfl rfl rfl rfl (Nat.le_of_ble_eq_true rfl) (Nat.le_of_ble_eq_true rfl) (Nat.le_of_ble_eq_true rfl) 0 (Nat.le_of_ble_eq_true rfl) ⟨rfl, (fun z hz => by rcases List.mem_cons.mp hz with rfl | hz; exact Or.inr ⟨by decide, EIO, uw_616, List.mem_of_getElem? (i := 3) rfl⟩; exact absurd hz List.not_mem_nil), by decide, by decide, uw_471, List.mem_of_getElem? (i := 1) rfl⟩ dL_flowDenominator_16 (Nat.le_of_ble_eq_true rfl) (st_no [some (.ref 0), some (.int (x0)), some (.int (x1)), some (.ref 40)] [] rfl) ?_
  refine q_iconst (v := 2) dL_flowDenominator_18 rfl ?_
  exact q_iret dL_flowDenominator_19 rfl ⟨rfl, rfl⟩
set_option maxRecDepth 100000 in
set_option maxHeartbeats 4000000 in
theorem k_L_totalRecovery {g : G0} (hG : Gd g) (S S2 : SS) (r : Int32) (hc : ctv g mX9_totalRecovery [.ref 0] (mixW g S) (.int r) (mixW g S2)) : ctHv g mL_totalRecovery [.ref 0, .ref 40] (mixW g S) (.int 0) (mixW g (s_OU S2 (vp_updL (z_OU S2) 0 (r.toInt64)))) := by
  refine ctH_of hG [some (.ref 0), some (.ref 40), none] rfl rfl (Nat.le_of_ble_eq_true rfl) (fun h => ?_) rfl
  refine q_aload_n dL_totalRecovery_0 rfl ?_
  refine q_iconst (v := 0) dL_totalRecovery_1 rfl ?_
  refine q_aload_n dL_totalRecovery_2 rfl ?_
  refine q_callVv (ν := mX9_totalRecovery) dL_totalRecovery_3 uw_818 vX9_totalRecovery hc (Nat.le_of_ble_eq_true rfl) rfl rfl rfl rfl (Nat.le_of_ble_eq_true rfl) (Nat.le_of_ble_eq_true rfl) (Nat.le_of_ble_eq_true rfl) 0 (Nat.le_of_ble_eq_true rfl) ?_
  refine q_i2l dL_totalRecovery_6 ?_
  refine q_last (f := (z_OU S2)) dL_totalRecovery_7 (Nat.le_of_ble_eq_true rfl) rfl (0) rfl (Nat.le_of_ble_eq_true rfl) (Nat.le_of_ble_eq_true rfl) ?_
  refine wp_w (u_OU g _ _) ?_
  refine q_goto 14 dL_totalRecovery_8 rfl ?_
  refine q_iconst (v := 0) dL_totalRecovery_14 rfl ?_
  exact q_iret dL_totalRecovery_15 rfl ⟨rfl, rfl⟩
set_option maxRecDepth 100000 in
set_option maxHeartbeats 4000000 in
theorem k_L_totalRecovery_EIS {g : G0} (hG : Gd g) (S S2 : SS) (hc : ctt g mX9_totalRecovery [.ref 0] (mixW g S) EIS (mixW g S2)) : ctHv g mL_totalRecovery [.ref 0, .ref 40] (mixW g S) (.int 1) (mixW g S2) := by
  refine ctH_of hG [some (.ref 0), some (.ref 40), none] rfl rfl (Nat.le_of_ble_eq_true rfl) (fun h => ?_) rfl
  refine q_aload_n dL_totalRecovery_0 rfl ?_
  refine q_iconst (v := 0) dL_totalRecovery_1 rfl ?_
  refine q_aload_n dL_totalRecovery_2 rfl ?_
  refine q_callVtc (E := EIS) (pre := []) (x := (⟨0, 8, 11, 15⟩ : ExceptionTableEntry)) (suf := []) (ν := mX9_totalRecovery) dL_totalRecovery_3 uw_818 vX9_totalRecovery hc (Nat.le_of_ble_eq_true rfl) rfl rfl rfl rfl (Nat.le_of_ble_eq_true rfl) (Nat.le_of_ble_eq_true rfl) (Nat.le_of_ble_eq_true rfl) 0 (Nat.le_of_ble_eq_true rfl) ⟨rfl, (fun z hz => absurd hz List.not_mem_nil), by decide, by decide, uw_471, List.mem_of_getElem? (i := 1) rfl⟩ dL_totalRecovery_11 (Nat.le_of_ble_eq_true rfl) (st_no [some (.ref 0), some (.ref 40)] [] rfl) ?_
  refine q_iconst (v := 1) dL_totalRecovery_12 rfl ?_
  exact q_iret dL_totalRecovery_13 rfl ⟨rfl, rfl⟩
set_option maxRecDepth 100000 in
set_option maxHeartbeats 4000000 in
theorem k_L_grade {g : G0} (hG : Gd g) (S S2 : SS) (r : Int32) (hc : ctv g mX9_grade [.ref 0] (mixW g S) (.int r) (mixW g S2)) : ctHv g mL_grade [.ref 0, .ref 40] (mixW g S) (.int 0) (mixW g (s_OU S2 (vp_updL (z_OU S2) 0 (r.toInt64)))) := by
  refine ctH_of hG [some (.ref 0), some (.ref 40), none] rfl rfl (Nat.le_of_ble_eq_true rfl) (fun h => ?_) rfl
  refine q_aload_n dL_grade_0 rfl ?_
  refine q_iconst (v := 0) dL_grade_1 rfl ?_
  refine q_aload_n dL_grade_2 rfl ?_
  refine q_callVv (ν := mX9_grade) dL_grade_3 uw_830 vX9_grade hc (Nat.le_of_ble_eq_true rfl) rfl rfl rfl rfl (Nat.le_of_ble_eq_true rfl) (Nat.le_of_ble_eq_true rfl) (Nat.le_of_ble_eq_true rfl) 0 (Nat.le_of_ble_eq_true rfl) ?_
  refine q_i2l dL_grade_6 ?_
  refine q_last (f := (z_OU S2)) dL_grade_7 (Nat.le_of_ble_eq_true rfl) rfl (0) rfl (Nat.le_of_ble_eq_true rfl) (Nat.le_of_ble_eq_true rfl) ?_
  refine wp_w (u_OU g _ _) ?_
  refine q_goto 14 dL_grade_8 rfl ?_
  refine q_iconst (v := 0) dL_grade_14 rfl ?_
  exact q_iret dL_grade_15 rfl ⟨rfl, rfl⟩
set_option maxRecDepth 100000 in
set_option maxHeartbeats 4000000 in
theorem k_L_grade_EIS {g : G0} (hG : Gd g) (S S2 : SS) (hc : ctt g mX9_grade [.ref 0] (mixW g S) EIS (mixW g S2)) : ctHv g mL_grade [.ref 0, .ref 40] (mixW g S) (.int 1) (mixW g S2) := by
  refine ctH_of hG [some (.ref 0), some (.ref 40), none] rfl rfl (Nat.le_of_ble_eq_true rfl) (fun h => ?_) rfl
  refine q_aload_n dL_grade_0 rfl ?_
  refine q_iconst (v := 0) dL_grade_1 rfl ?_
  refine q_aload_n dL_grade_2 rfl ?_
  refine q_callVtc (E := EIS) (pre := []) (x := (⟨0, 8, 11, 15⟩ : ExceptionTableEntry)) (suf := []) (ν := mX9_grade) dL_grade_3 uw_830 vX9_grade hc (Nat.le_of_ble_eq_true rfl) rfl rfl rfl rfl (Nat.le_of_ble_eq_true rfl) (Nat.le_of_ble_eq_true rfl) (Nat.le_of_ble_eq_true rfl) 0 (Nat.le_of_ble_eq_true rfl) ⟨rfl, (fun z hz => absurd hz List.not_mem_nil), by decide, by decide, uw_471, List.mem_of_getElem? (i := 1) rfl⟩ dL_grade_11 (Nat.le_of_ble_eq_true rfl) (st_no [some (.ref 0), some (.ref 40)] [] rfl) ?_
  refine q_iconst (v := 1) dL_grade_12 rfl ?_
  exact q_iret dL_grade_13 rfl ⟨rfl, rfl⟩
set_option maxRecDepth 100000 in
set_option maxHeartbeats 4000000 in
theorem k_L_isInLoop {g : G0} (hG : Gd g) (S S2 : SS) (x0 : Int32) (r : Int32) (hc : ctv g mX9_isInLoop [.ref 0, .int (x0)] (mixW g S) (.int r) (mixW g S2)) : ctHv g mL_isInLoop [.ref 0, .int (x0), .ref 40] (mixW g S) (.int 0) (mixW g (s_OU S2 (vp_updL (z_OU S2) 0 ((if r = 0 then 0 else 1 : Int64))))) := by
  refine ctH_of hG [some (.ref 0), some (.int (x0)), some (.ref 40), none] rfl rfl (Nat.le_of_ble_eq_true rfl) (fun h => ?_) rfl
  refine q_aload_n dL_isInLoop_0 rfl ?_
  refine q_iconst (v := 0) dL_isInLoop_1 rfl ?_
  refine q_aload_n dL_isInLoop_2 rfl ?_
  refine q_iload_n dL_isInLoop_3 rfl ?_
  refine q_callVv (ν := mX9_isInLoop) dL_isInLoop_4 uw_845 vX9_isInLoop hc (Nat.le_of_ble_eq_true rfl) rfl rfl rfl rfl (Nat.le_of_ble_eq_true rfl) (Nat.le_of_ble_eq_true rfl) (Nat.le_of_ble_eq_true rfl) 0 (Nat.le_of_ble_eq_true rfl) ?_
  refine q_if_eq 14 dL_isInLoop_7 rfl (fun c7 => ?_) (fun c7 => ?_)
  · refine q_lconst (v := 0) dL_isInLoop_14 rfl ?_
    refine q_last (f := (z_OU S2)) dL_isInLoop_15 (Nat.le_of_ble_eq_true rfl) rfl (0) rfl (Nat.le_of_ble_eq_true rfl) (Nat.le_of_ble_eq_true rfl) ?_
    refine wp_w (u_OU g _ _) ?_
    refine q_goto 22 dL_isInLoop_16 rfl ?_
    refine q_iconst (v := 0) dL_isInLoop_22 rfl ?_
    exact q_iret dL_isInLoop_23 rfl ⟨rfl, by rw [if_pos c7]⟩
  · refine q_lconst (v := 1) dL_isInLoop_10 rfl ?_
    refine q_goto 15 dL_isInLoop_11 rfl ?_
    refine q_last (f := (z_OU S2)) dL_isInLoop_15 (Nat.le_of_ble_eq_true rfl) rfl (0) rfl (Nat.le_of_ble_eq_true rfl) (Nat.le_of_ble_eq_true rfl) ?_
    refine wp_w (u_OU g _ _) ?_
    refine q_goto 22 dL_isInLoop_16 rfl ?_
    refine q_iconst (v := 0) dL_isInLoop_22 rfl ?_
    exact q_iret dL_isInLoop_23 rfl ⟨rfl, by rw [if_neg c7]⟩
set_option maxRecDepth 100000 in
set_option maxHeartbeats 4000000 in
theorem k_L_isInLoop_EIO {g : G0} (hG : Gd g) (S S2 : SS) (x0 : Int32) (hc : ctt g mX9_isInLoop [.ref 0, .int (x0)] (mixW g S) EIO (mixW g S2)) : ctHv g mL_isInLoop [.ref 0, .int (x0), .ref 40] (mixW g S) (.int 1) (mixW g S2) := by
  refine ctH_of hG [some (.ref 0), some (.int (x0)), some (.ref 40), none] rfl rfl (Nat.le_of_ble_eq_true rfl) (fun h => ?_) rfl
  refine q_aload_n dL_isInLoop_0 rfl ?_
  refine q_iconst (v := 0) dL_isInLoop_1 rfl ?_
  refine q_aload_n dL_isInLoop_2 rfl ?_
  refine q_iload_n dL_isInLoop_3 rfl ?_
  refine q_callVtc (E := EIO) (pre := []) (x := (⟨0, 16, 19, 25⟩ : ExceptionTableEntry)) (suf := []) (ν := mX9_isInLoop) dL_isInLoop_4 uw_845 vX9_isInLoop hc (Nat.le_of_ble_eq_true rfl) rfl rfl rfl rfl (Nat.le_of_ble_eq_true rfl) (Nat.le_of_ble_eq_true rfl) (Nat.le_of_ble_eq_true rfl) 0 (Nat.le_of_ble_eq_true rfl) ⟨rfl, (fun z hz => absurd hz List.not_mem_nil), by decide, by decide, uw_616, List.mem_of_getElem? (i := 2) rfl⟩ dL_isInLoop_19 (Nat.le_of_ble_eq_true rfl) (st_no [some (.ref 0), some (.int (x0)), some (.ref 40)] [] rfl) ?_
  refine q_iconst (v := 1) dL_isInLoop_20 rfl ?_
  exact q_iret dL_isInLoop_21 rfl ⟨rfl, rfl⟩
set_option maxRecDepth 100000 in
set_option maxHeartbeats 4000000 in
theorem k_L_recoveryFor {g : G0} (hG : Gd g) (S S2 : SS) (x0 : Int32) (x1 : Int32) (r : Int32) (hc : ctv g mX9_recoveryFor [.ref 0, .int (x0), .int (x1)] (mixW g S) (.int r) (mixW g S2)) : ctHv g mL_recoveryFor [.ref 0, .int (x0), .int (x1), .ref 40] (mixW g S) (.int 0) (mixW g (s_OU S2 (vp_updL (z_OU S2) 0 (r.toInt64)))) := by
  refine ctH_of hG [some (.ref 0), some (.int (x0)), some (.int (x1)), some (.ref 40), none] rfl rfl (Nat.le_of_ble_eq_true rfl) (fun h => ?_) rfl
  refine q_aload_n dL_recoveryFor_0 rfl ?_
  refine q_iconst (v := 0) dL_recoveryFor_1 rfl ?_
  refine q_aload_n dL_recoveryFor_2 rfl ?_
  refine q_iload_n dL_recoveryFor_3 rfl ?_
  refine q_iload_n dL_recoveryFor_4 rfl ?_
  refine q_callVv (ν := mX9_recoveryFor) dL_recoveryFor_5 uw_853 vX9_recoveryFor hc (Nat.le_of_ble_eq_true rfl) rfl rfl rfl rfl (Nat.le_of_ble_eq_true rfl) (Nat.le_of_ble_eq_true rfl) (Nat.le_of_ble_eq_true rfl) 0 (Nat.le_of_ble_eq_true rfl) ?_
  refine q_i2l dL_recoveryFor_8 ?_
  refine q_last (f := (z_OU S2)) dL_recoveryFor_9 (Nat.le_of_ble_eq_true rfl) rfl (0) rfl (Nat.le_of_ble_eq_true rfl) (Nat.le_of_ble_eq_true rfl) ?_
  refine wp_w (u_OU g _ _) ?_
  refine q_goto 21 dL_recoveryFor_10 rfl ?_
  refine q_iconst (v := 0) dL_recoveryFor_21 rfl ?_
  exact q_iret dL_recoveryFor_22 rfl ⟨rfl, rfl⟩
set_option maxRecDepth 100000 in
set_option maxHeartbeats 4000000 in
theorem k_L_recoveryFor_g {g : G0} (hG : Gd g) (S : SS) (x0 : Int32) (x1 : Int32) (r : Int32) (P : SS → Prop) (hc : ct g mX9_recoveryFor [.ref 0, .int (x0), .int (x1)] (mixW g S) (fun v w1 => v = some (.int r) ∧ ∃ S2, w1 = mixW g S2 ∧ P S2) (fun _ _ => False)) : ctH g mL_recoveryFor [.ref 0, .int (x0), .int (x1), .ref 40] (mixW g S) (fun v w1 => v = some (.int 0) ∧ ∃ S2, w1 = mixW g (s_OU S2 (vp_updL (z_OU S2) 0 r.toInt64)) ∧ P S2) (fun _ _ => False) := by
  refine ctH_of hG [some (.ref 0), some (.int (x0)), some (.int (x1)), some (.ref 40), none] rfl rfl (Nat.le_of_ble_eq_true rfl) (fun h => ?_) rfl
  refine q_aload_n dL_recoveryFor_0 rfl ?_
  refine q_iconst (v := 0) dL_recoveryFor_1 rfl ?_
  refine q_aload_n dL_recoveryFor_2 rfl ?_
  refine q_iload_n dL_recoveryFor_3 rfl ?_
  refine q_iload_n dL_recoveryFor_4 rfl ?_
  refine q_callVh (ν := mX9_recoveryFor) dL_recoveryFor_5 uw_853 vX9_recoveryFor hc (Nat.le_of_ble_eq_true rfl) rfl rfl rfl rfl (Nat.le_of_ble_eq_true rfl) (Nat.le_of_ble_eq_true rfl) (Nat.le_of_ble_eq_true rfl) 0 (Nat.le_of_ble_eq_true rfl) (fun v w1 hv => ?_)
  obtain ⟨rfl, S2, rfl, hP⟩ := hv
  refine wp_eq (st2 := .int (r) :: _) rfl ?_
  refine q_i2l dL_recoveryFor_8 ?_
  refine q_last (f := (z_OU S2)) dL_recoveryFor_9 (Nat.le_of_ble_eq_true rfl) rfl (0) rfl (Nat.le_of_ble_eq_true rfl) (Nat.le_of_ble_eq_true rfl) ?_
  refine wp_w (u_OU g _ _) ?_
  refine q_goto 21 dL_recoveryFor_10 rfl ?_
  refine q_iconst (v := 0) dL_recoveryFor_21 rfl ?_
  exact q_iret dL_recoveryFor_22 rfl ⟨rfl, S2, rfl, hP⟩
set_option maxRecDepth 100000 in
set_option maxHeartbeats 4000000 in
theorem k_L_recoveryFor_EIO {g : G0} (hG : Gd g) (S S2 : SS) (x0 : Int32) (x1 : Int32) (hc : ctt g mX9_recoveryFor [.ref 0, .int (x0), .int (x1)] (mixW g S) EIO (mixW g S2)) : ctHv g mL_recoveryFor [.ref 0, .int (x0), .int (x1), .ref 40] (mixW g S) (.int 1) (mixW g S2) := by
  refine ctH_of hG [some (.ref 0), some (.int (x0)), some (.int (x1)), some (.ref 40), none] rfl rfl (Nat.le_of_ble_eq_true rfl) (fun h => ?_) rfl
  refine q_aload_n dL_recoveryFor_0 rfl ?_
  refine q_iconst (v := 0) dL_recoveryFor_1 rfl ?_
  refine q_aload_n dL_recoveryFor_2 rfl ?_
  refine q_iload_n dL_recoveryFor_3 rfl ?_
  refine q_iload_n dL_recoveryFor_4 rfl ?_
  refine q_callVtw (E := EIO) (pre := []) (x := (⟨0, 10, 13, 25⟩ : ExceptionTableEntry)) (suf := [(⟨0, 10, 17, 13⟩ : ExceptionTableEntry)]) (ν := mX9_recoveryFor) dL_recoveryFor_5 uw_853 vX9_recoveryFor hc (Nat.le_of_ble_eq_true rfl) rfl rfl rfl rfl (Nat.le_of_ble_eq_true rfl) (Nat.le_of_ble_eq_true rfl) (Nat.le_of_ble_eq_true rfl) 0 (Nat.le_of_ble_eq_true rfl) ⟨rfl, (fun z hz => absurd hz List.not_mem_nil), by decide, by decide, uw_616, List.mem_of_getElem? (i := 2) rfl⟩ dL_recoveryFor_13 (Nat.le_of_ble_eq_true rfl) (st_no [some (.ref 0), some (.int (x0)), some (.int (x1)), some (.ref 40)] [] rfl) ?_
  refine q_iconst (v := 1) dL_recoveryFor_15 rfl ?_
  exact q_iret dL_recoveryFor_16 rfl ⟨rfl, rfl⟩
set_option maxRecDepth 100000 in
set_option maxHeartbeats 4000000 in
theorem k_L_recoveryFor_EIA {g : G0} (hG : Gd g) (S S2 : SS) (x0 : Int32) (x1 : Int32) (hc : ctt g mX9_recoveryFor [.ref 0, .int (x0), .int (x1)] (mixW g S) EIA (mixW g S2)) : ctHv g mL_recoveryFor [.ref 0, .int (x0), .int (x1), .ref 40] (mixW g S) (.int 2) (mixW g S2) := by
  refine ctH_of hG [some (.ref 0), some (.int (x0)), some (.int (x1)), some (.ref 40), none] rfl rfl (Nat.le_of_ble_eq_true rfl) (fun h => ?_) rfl
  refine q_aload_n dL_recoveryFor_0 rfl ?_
  refine q_iconst (v := 0) dL_recoveryFor_1 rfl ?_
  refine q_aload_n dL_recoveryFor_2 rfl ?_
  refine q_iload_n dL_recoveryFor_3 rfl ?_
  refine q_iload_n dL_recoveryFor_4 rfl ?_
  refine q_callVtw (E := EIA) (pre := [(⟨0, 10, 13, 25⟩ : ExceptionTableEntry)]) (x := (⟨0, 10, 17, 13⟩ : ExceptionTableEntry)) (suf := []) (ν := mX9_recoveryFor) dL_recoveryFor_5 uw_853 vX9_recoveryFor hc (Nat.le_of_ble_eq_true rfl) rfl rfl rfl rfl (Nat.le_of_ble_eq_true rfl) (Nat.le_of_ble_eq_true rfl) (Nat.le_of_ble_eq_true rfl) 0 (Nat.le_of_ble_eq_true rfl) ⟨rfl, (fun z hz => by rcases List.mem_cons.mp hz with rfl | hz; exact Or.inr ⟨by decide, EIO, uw_616, List.mem_of_getElem? (i := 1) rfl⟩; exact absurd hz List.not_mem_nil), by decide, by decide, uw_470, List.mem_of_getElem? (i := 0) rfl⟩ dL_recoveryFor_17 (Nat.le_of_ble_eq_true rfl) (st_no [some (.ref 0), some (.int (x0)), some (.int (x1)), some (.ref 40)] [] rfl) ?_
  refine q_iconst (v := 2) dL_recoveryFor_19 rfl ?_
  exact q_iret dL_recoveryFor_20 rfl ⟨rfl, rfl⟩
set_option maxRecDepth 100000 in
set_option maxHeartbeats 4000000 in
theorem k_L_measure {g : G0} (hG : Gd g) (S S2 : SS) (x0 : Int32) (x1 : Int32) (r : Int32) (hc : ctv g mX9_measure [.ref 0, .int (x0), .int (x1)] (mixW g S) (.int r) (mixW g S2)) : ctHv g mL_measure [.ref 0, .int (x0), .int (x1), .ref 40] (mixW g S) (.int 0) (mixW g (s_OU S2 (vp_updL (z_OU S2) 0 (r.toInt64)))) := by
  refine ctH_of hG [some (.ref 0), some (.int (x0)), some (.int (x1)), some (.ref 40), none] rfl rfl (Nat.le_of_ble_eq_true rfl) (fun h => ?_) rfl
  refine q_aload_n dL_measure_0 rfl ?_
  refine q_iconst (v := 0) dL_measure_1 rfl ?_
  refine q_aload_n dL_measure_2 rfl ?_
  refine q_iload_n dL_measure_3 rfl ?_
  refine q_iload_n dL_measure_4 rfl ?_
  refine q_callVv (ν := mX9_measure) dL_measure_5 uw_868 vX9_measure hc (Nat.le_of_ble_eq_true rfl) rfl rfl rfl rfl (Nat.le_of_ble_eq_true rfl) (Nat.le_of_ble_eq_true rfl) (Nat.le_of_ble_eq_true rfl) 0 (Nat.le_of_ble_eq_true rfl) ?_
  refine q_i2l dL_measure_8 ?_
  refine q_last (f := (z_OU S2)) dL_measure_9 (Nat.le_of_ble_eq_true rfl) rfl (0) rfl (Nat.le_of_ble_eq_true rfl) (Nat.le_of_ble_eq_true rfl) ?_
  refine wp_w (u_OU g _ _) ?_
  refine q_goto 17 dL_measure_10 rfl ?_
  refine q_iconst (v := 0) dL_measure_17 rfl ?_
  exact q_iret dL_measure_18 rfl ⟨rfl, rfl⟩
set_option maxRecDepth 100000 in
set_option maxHeartbeats 4000000 in
theorem k_L_measure_EIA {g : G0} (hG : Gd g) (S S2 : SS) (x0 : Int32) (x1 : Int32) (hc : ctt g mX9_measure [.ref 0, .int (x0), .int (x1)] (mixW g S) EIA (mixW g S2)) : ctHv g mL_measure [.ref 0, .int (x0), .int (x1), .ref 40] (mixW g S) (.int 1) (mixW g S2) := by
  refine ctH_of hG [some (.ref 0), some (.int (x0)), some (.int (x1)), some (.ref 40), none] rfl rfl (Nat.le_of_ble_eq_true rfl) (fun h => ?_) rfl
  refine q_aload_n dL_measure_0 rfl ?_
  refine q_iconst (v := 0) dL_measure_1 rfl ?_
  refine q_aload_n dL_measure_2 rfl ?_
  refine q_iload_n dL_measure_3 rfl ?_
  refine q_iload_n dL_measure_4 rfl ?_
  refine q_callVtw (E := EIA) (pre := []) (x := (⟨0, 10, 13, 13⟩ : ExceptionTableEntry)) (suf := []) (ν := mX9_measure) dL_measure_5 uw_868 vX9_measure hc (Nat.le_of_ble_eq_true rfl) rfl rfl rfl rfl (Nat.le_of_ble_eq_true rfl) (Nat.le_of_ble_eq_true rfl) (Nat.le_of_ble_eq_true rfl) 0 (Nat.le_of_ble_eq_true rfl) ⟨rfl, (fun z hz => absurd hz List.not_mem_nil), by decide, by decide, uw_470, List.mem_of_getElem? (i := 0) rfl⟩ dL_measure_13 (Nat.le_of_ble_eq_true rfl) (st_no [some (.ref 0), some (.int (x0)), some (.int (x1)), some (.ref 40)] [] rfl) ?_
  refine q_iconst (v := 1) dL_measure_15 rfl ?_
  exact q_iret dL_measure_16 rfl ⟨rfl, rfl⟩
set_option maxRecDepth 100000 in
set_option maxHeartbeats 4000000 in
theorem k_L_possibleRecoveries {g : G0} (hG : Gd g) (S S2 : SS) (x0 : Int32) (x1 : Int32) (r : Int32) (hc : ctv g mX9_possibleRecoveries [.ref 0, .int (x0), .int (x1)] (mixW g S) (.int r) (mixW g S2)) : ctHv g mL_possibleRecoveries [.ref 0, .int (x0), .int (x1), .ref 40] (mixW g S) (.int 0) (mixW g (s_OU S2 (vp_updL (z_OU S2) 0 (r.toInt64)))) := by
  refine ctH_of hG [some (.ref 0), some (.int (x0)), some (.int (x1)), some (.ref 40), none] rfl rfl (Nat.le_of_ble_eq_true rfl) (fun h => ?_) rfl
  refine q_aload_n dL_possibleRecoveries_0 rfl ?_
  refine q_iconst (v := 0) dL_possibleRecoveries_1 rfl ?_
  refine q_aload_n dL_possibleRecoveries_2 rfl ?_
  refine q_iload_n dL_possibleRecoveries_3 rfl ?_
  refine q_iload_n dL_possibleRecoveries_4 rfl ?_
  refine q_callVv (ν := mX9_possibleRecoveries) dL_possibleRecoveries_5 uw_880 vX9_possibleRecoveries hc (Nat.le_of_ble_eq_true rfl) rfl rfl rfl rfl (Nat.le_of_ble_eq_true rfl) (Nat.le_of_ble_eq_true rfl) (Nat.le_of_ble_eq_true rfl) 0 (Nat.le_of_ble_eq_true rfl) ?_
  refine q_i2l dL_possibleRecoveries_8 ?_
  refine q_last (f := (z_OU S2)) dL_possibleRecoveries_9 (Nat.le_of_ble_eq_true rfl) rfl (0) rfl (Nat.le_of_ble_eq_true rfl) (Nat.le_of_ble_eq_true rfl) ?_
  refine wp_w (u_OU g _ _) ?_
  refine q_goto 17 dL_possibleRecoveries_10 rfl ?_
  refine q_iconst (v := 0) dL_possibleRecoveries_17 rfl ?_
  exact q_iret dL_possibleRecoveries_18 rfl ⟨rfl, rfl⟩
set_option maxRecDepth 100000 in
set_option maxHeartbeats 4000000 in
theorem k_L_possibleRecoveries_g {g : G0} (hG : Gd g) (S : SS) (x0 : Int32) (x1 : Int32) (r : Int32) (P : SS → Prop) (hc : ct g mX9_possibleRecoveries [.ref 0, .int (x0), .int (x1)] (mixW g S) (fun v w1 => v = some (.int r) ∧ ∃ S2, w1 = mixW g S2 ∧ P S2) (fun _ _ => False)) : ctH g mL_possibleRecoveries [.ref 0, .int (x0), .int (x1), .ref 40] (mixW g S) (fun v w1 => v = some (.int 0) ∧ ∃ S2, w1 = mixW g (s_OU S2 (vp_updL (z_OU S2) 0 r.toInt64)) ∧ P S2) (fun _ _ => False) := by
  refine ctH_of hG [some (.ref 0), some (.int (x0)), some (.int (x1)), some (.ref 40), none] rfl rfl (Nat.le_of_ble_eq_true rfl) (fun h => ?_) rfl
  refine q_aload_n dL_possibleRecoveries_0 rfl ?_
  refine q_iconst (v := 0) dL_possibleRecoveries_1 rfl ?_
  refine q_aload_n dL_possibleRecoveries_2 rfl ?_
  refine q_iload_n dL_possibleRecoveries_3 rfl ?_
  refine q_iload_n dL_possibleRecoveries_4 rfl ?_
  refine q_callVh (ν := mX9_possibleRecoveries) dL_possibleRecoveries_5 uw_880 vX9_possibleRecoveries hc (Nat.le_of_ble_eq_true rfl) rfl rfl rfl rfl (Nat.le_of_ble_eq_true rfl) (Nat.le_of_ble_eq_true rfl) (Nat.le_of_ble_eq_true rfl) 0 (Nat.le_of_ble_eq_true rfl) (fun v w1 hv => ?_)
  obtain ⟨rfl, S2, rfl, hP⟩ := hv
  refine wp_eq (st2 := .int (r) :: _) rfl ?_
  refine q_i2l dL_possibleRecoveries_8 ?_
  refine q_last (f := (z_OU S2)) dL_possibleRecoveries_9 (Nat.le_of_ble_eq_true rfl) rfl (0) rfl (Nat.le_of_ble_eq_true rfl) (Nat.le_of_ble_eq_true rfl) ?_
  refine wp_w (u_OU g _ _) ?_
  refine q_goto 17 dL_possibleRecoveries_10 rfl ?_
  refine q_iconst (v := 0) dL_possibleRecoveries_17 rfl ?_
  exact q_iret dL_possibleRecoveries_18 rfl ⟨rfl, S2, rfl, hP⟩
set_option maxRecDepth 100000 in
set_option maxHeartbeats 4000000 in
theorem k_L_possibleRecoveries_EIO {g : G0} (hG : Gd g) (S S2 : SS) (x0 : Int32) (x1 : Int32) (hc : ctt g mX9_possibleRecoveries [.ref 0, .int (x0), .int (x1)] (mixW g S) EIO (mixW g S2)) : ctHv g mL_possibleRecoveries [.ref 0, .int (x0), .int (x1), .ref 40] (mixW g S) (.int 1) (mixW g S2) := by
  refine ctH_of hG [some (.ref 0), some (.int (x0)), some (.int (x1)), some (.ref 40), none] rfl rfl (Nat.le_of_ble_eq_true rfl) (fun h => ?_) rfl
  refine q_aload_n dL_possibleRecoveries_0 rfl ?_
  refine q_iconst (v := 0) dL_possibleRecoveries_1 rfl ?_
  refine q_aload_n dL_possibleRecoveries_2 rfl ?_
  refine q_iload_n dL_possibleRecoveries_3 rfl ?_
  refine q_iload_n dL_possibleRecoveries_4 rfl ?_
  refine q_callVtw (E := EIO) (pre := []) (x := (⟨0, 10, 13, 25⟩ : ExceptionTableEntry)) (suf := []) (ν := mX9_possibleRecoveries) dL_possibleRecoveries_5 uw_880 vX9_possibleRecoveries hc (Nat.le_of_ble_eq_true rfl) rfl rfl rfl rfl (Nat.le_of_ble_eq_true rfl) (Nat.le_of_ble_eq_true rfl) (Nat.le_of_ble_eq_true rfl) 0 (Nat.le_of_ble_eq_true rfl) ⟨rfl, (fun z hz => absurd hz List.not_mem_nil), by decide, by decide, uw_616, List.mem_of_getElem? (i := 2) rfl⟩ dL_possibleRecoveries_13 (Nat.le_of_ble_eq_true rfl) (st_no [some (.ref 0), some (.int (x0)), some (.int (x1)), some (.ref 40)] [] rfl) ?_
  refine q_iconst (v := 1) dL_possibleRecoveries_15 rfl ?_
  exact q_iret dL_possibleRecoveries_16 rfl ⟨rfl, rfl⟩
set_option maxRecDepth 100000 in
set_option maxHeartbeats 4000000 in
theorem k_L_disturb {g : G0} (hG : Gd g) (S S2 : SS) (x0 : Int64) (x1 : Int32) (r : Int32) (hc : ctv g mX9_disturb [.ref 0, .long (x0), .int (x1)] (mixW g S) (.int r) (mixW g S2)) : ctHv g mL_disturb [.ref 0, .long (x0), .int (x1), .ref 40] (mixW g S) (.int 0) (mixW g (s_OU S2 (vp_updL (z_OU S2) 0 (r.toInt64)))) := by
  refine ctH_of hG [some (.ref 0), some (.long (x0)), none, some (.int (x1)), some (.ref 40), none] rfl rfl (Nat.le_of_ble_eq_true rfl) (fun h => ?_) rfl
  refine q_aload dL_disturb_0 rfl ?_
  refine q_iconst (v := 0) dL_disturb_2 rfl ?_
  refine q_aload_n dL_disturb_3 rfl ?_
  refine q_lload_n dL_disturb_4 rfl ?_
  refine q_iload_n dL_disturb_5 rfl ?_
  refine q_callVv (ν := mX9_disturb) dL_disturb_6 uw_891 vX9_disturb hc (Nat.le_of_ble_eq_true rfl) rfl rfl rfl rfl (Nat.le_of_ble_eq_true rfl) (Nat.le_of_ble_eq_true rfl) (Nat.le_of_ble_eq_true rfl) 0 (Nat.le_of_ble_eq_true rfl) ?_
  refine q_i2l dL_disturb_9 ?_
  refine q_last (f := (z_OU S2)) dL_disturb_10 (Nat.le_of_ble_eq_true rfl) rfl (0) rfl (Nat.le_of_ble_eq_true rfl) (Nat.le_of_ble_eq_true rfl) ?_
  refine wp_w (u_OU g _ _) ?_
  refine q_goto 18 dL_disturb_11 rfl ?_
  refine q_iconst (v := 0) dL_disturb_18 rfl ?_
  exact q_iret dL_disturb_19 rfl ⟨rfl, rfl⟩
set_option maxRecDepth 100000 in
set_option maxHeartbeats 4000000 in
theorem k_L_disturb_g {g : G0} (hG : Gd g) (S : SS) (x0 : Int64) (x1 : Int32) (r : Int32) (P : SS → Prop) (hc : ct g mX9_disturb [.ref 0, .long (x0), .int (x1)] (mixW g S) (fun v w1 => v = some (.int r) ∧ ∃ S2, w1 = mixW g S2 ∧ P S2) (fun _ _ => False)) : ctH g mL_disturb [.ref 0, .long (x0), .int (x1), .ref 40] (mixW g S) (fun v w1 => v = some (.int 0) ∧ ∃ S2, w1 = mixW g (s_OU S2 (vp_updL (z_OU S2) 0 r.toInt64)) ∧ P S2) (fun _ _ => False) := by
  refine ctH_of hG [some (.ref 0), some (.long (x0)), none, some (.int (x1)), some (.ref 40), none] rfl rfl (Nat.le_of_ble_eq_true rfl) (fun h => ?_) rfl
  refine q_aload dL_disturb_0 rfl ?_
  refine q_iconst (v := 0) dL_disturb_2 rfl ?_
  refine q_aload_n dL_disturb_3 rfl ?_
  refine q_lload_n dL_disturb_4 rfl ?_
  refine q_iload_n dL_disturb_5 rfl ?_
  refine q_callVh (ν := mX9_disturb) dL_disturb_6 uw_891 vX9_disturb hc (Nat.le_of_ble_eq_true rfl) rfl rfl rfl rfl (Nat.le_of_ble_eq_true rfl) (Nat.le_of_ble_eq_true rfl) (Nat.le_of_ble_eq_true rfl) 0 (Nat.le_of_ble_eq_true rfl) (fun v w1 hv => ?_)
  obtain ⟨rfl, S2, rfl, hP⟩ := hv
  refine wp_eq (st2 := .int (r) :: _) rfl ?_
  refine q_i2l dL_disturb_9 ?_
  refine q_last (f := (z_OU S2)) dL_disturb_10 (Nat.le_of_ble_eq_true rfl) rfl (0) rfl (Nat.le_of_ble_eq_true rfl) (Nat.le_of_ble_eq_true rfl) ?_
  refine wp_w (u_OU g _ _) ?_
  refine q_goto 18 dL_disturb_11 rfl ?_
  refine q_iconst (v := 0) dL_disturb_18 rfl ?_
  exact q_iret dL_disturb_19 rfl ⟨rfl, S2, rfl, hP⟩
set_option maxRecDepth 100000 in
set_option maxHeartbeats 4000000 in
theorem k_L_disturb_EIA {g : G0} (hG : Gd g) (S S2 : SS) (x0 : Int64) (x1 : Int32) (hc : ctt g mX9_disturb [.ref 0, .long (x0), .int (x1)] (mixW g S) EIA (mixW g S2)) : ctHv g mL_disturb [.ref 0, .long (x0), .int (x1), .ref 40] (mixW g S) (.int 1) (mixW g S2) := by
  refine ctH_of hG [some (.ref 0), some (.long (x0)), none, some (.int (x1)), some (.ref 40), none] rfl rfl (Nat.le_of_ble_eq_true rfl) (fun h => ?_) rfl
  refine q_aload dL_disturb_0 rfl ?_
  refine q_iconst (v := 0) dL_disturb_2 rfl ?_
  refine q_aload_n dL_disturb_3 rfl ?_
  refine q_lload_n dL_disturb_4 rfl ?_
  refine q_iload_n dL_disturb_5 rfl ?_
  refine q_callVtw (E := EIA) (pre := []) (x := (⟨0, 11, 14, 13⟩ : ExceptionTableEntry)) (suf := []) (ν := mX9_disturb) dL_disturb_6 uw_891 vX9_disturb hc (Nat.le_of_ble_eq_true rfl) rfl rfl rfl rfl (Nat.le_of_ble_eq_true rfl) (Nat.le_of_ble_eq_true rfl) (Nat.le_of_ble_eq_true rfl) 0 (Nat.le_of_ble_eq_true rfl) ⟨rfl, (fun z hz => absurd hz List.not_mem_nil), by decide, by decide, uw_470, List.mem_of_getElem? (i := 0) rfl⟩ dL_disturb_14 (Nat.le_of_ble_eq_true rfl) (st_no [some (.ref 0), some (.long (x0)), none, some (.int (x1)), some (.ref 40)] [] rfl) ?_
  refine q_iconst (v := 1) dL_disturb_16 rfl ?_
  exact q_iret dL_disturb_17 rfl ⟨rfl, rfl⟩
set_option maxRecDepth 100000 in
set_option maxHeartbeats 4000000 in
theorem k_L_save {g : G0} (hG : Gd g) (S S2 : SS) (x0 : Int32) (r : Int32) (hc : ctv g mX9_save [.ref 0, .int (x0)] (mixW g S) (.int r) (mixW g S2)) : ctHv g mL_save [.ref 0, .int (x0), .ref 40] (mixW g S) (.int 0) (mixW g (s_OU S2 (vp_updL (z_OU S2) 0 (r.toInt64)))) := by
  refine ctH_of hG [some (.ref 0), some (.int (x0)), some (.ref 40), none] rfl rfl (Nat.le_of_ble_eq_true rfl) (fun h => ?_) rfl
  refine q_aload_n dL_save_0 rfl ?_
  refine q_iconst (v := 0) dL_save_1 rfl ?_
  refine q_aload_n dL_save_2 rfl ?_
  refine q_iload_n dL_save_3 rfl ?_
  refine q_callVv (ν := mX9_save) dL_save_4 uw_904 vX9_save hc (Nat.le_of_ble_eq_true rfl) rfl rfl rfl rfl (Nat.le_of_ble_eq_true rfl) (Nat.le_of_ble_eq_true rfl) (Nat.le_of_ble_eq_true rfl) 0 (Nat.le_of_ble_eq_true rfl) ?_
  refine q_i2l dL_save_7 ?_
  refine q_last (f := (z_OU S2)) dL_save_8 (Nat.le_of_ble_eq_true rfl) rfl (0) rfl (Nat.le_of_ble_eq_true rfl) (Nat.le_of_ble_eq_true rfl) ?_
  refine wp_w (u_OU g _ _) ?_
  refine q_goto 15 dL_save_9 rfl ?_
  refine q_iconst (v := 0) dL_save_15 rfl ?_
  exact q_iret dL_save_16 rfl ⟨rfl, rfl⟩
set_option maxRecDepth 100000 in
set_option maxHeartbeats 4000000 in
theorem k_L_save_EIO {g : G0} (hG : Gd g) (S S2 : SS) (x0 : Int32) (hc : ctt g mX9_save [.ref 0, .int (x0)] (mixW g S) EIO (mixW g S2)) : ctHv g mL_save [.ref 0, .int (x0), .ref 40] (mixW g S) (.int 1) (mixW g S2) := by
  refine ctH_of hG [some (.ref 0), some (.int (x0)), some (.ref 40), none] rfl rfl (Nat.le_of_ble_eq_true rfl) (fun h => ?_) rfl
  refine q_aload_n dL_save_0 rfl ?_
  refine q_iconst (v := 0) dL_save_1 rfl ?_
  refine q_aload_n dL_save_2 rfl ?_
  refine q_iload_n dL_save_3 rfl ?_
  refine q_callVtc (E := EIO) (pre := []) (x := (⟨0, 9, 12, 25⟩ : ExceptionTableEntry)) (suf := []) (ν := mX9_save) dL_save_4 uw_904 vX9_save hc (Nat.le_of_ble_eq_true rfl) rfl rfl rfl rfl (Nat.le_of_ble_eq_true rfl) (Nat.le_of_ble_eq_true rfl) (Nat.le_of_ble_eq_true rfl) 0 (Nat.le_of_ble_eq_true rfl) ⟨rfl, (fun z hz => absurd hz List.not_mem_nil), by decide, by decide, uw_616, List.mem_of_getElem? (i := 2) rfl⟩ dL_save_12 (Nat.le_of_ble_eq_true rfl) (st_no [some (.ref 0), some (.int (x0)), some (.ref 40)] [] rfl) ?_
  refine q_iconst (v := 1) dL_save_13 rfl ?_
  exact q_iret dL_save_14 rfl ⟨rfl, rfl⟩
set_option maxRecDepth 100000 in
set_option maxHeartbeats 4000000 in
theorem k_L_restore {g : G0} (hG : Gd g) (S S2 : SS) (x0 : Int32) (r : Int32) (hc : ctv g mX9_restore [.ref 0, .int (x0)] (mixW g S) (.int r) (mixW g S2)) : ctHv g mL_restore [.ref 0, .int (x0), .ref 40] (mixW g S) (.int 0) (mixW g (s_OU S2 (vp_updL (z_OU S2) 0 (r.toInt64)))) := by
  refine ctH_of hG [some (.ref 0), some (.int (x0)), some (.ref 40), none] rfl rfl (Nat.le_of_ble_eq_true rfl) (fun h => ?_) rfl
  refine q_aload_n dL_restore_0 rfl ?_
  refine q_iconst (v := 0) dL_restore_1 rfl ?_
  refine q_aload_n dL_restore_2 rfl ?_
  refine q_iload_n dL_restore_3 rfl ?_
  refine q_callVv (ν := mX9_restore) dL_restore_4 uw_912 vX9_restore hc (Nat.le_of_ble_eq_true rfl) rfl rfl rfl rfl (Nat.le_of_ble_eq_true rfl) (Nat.le_of_ble_eq_true rfl) (Nat.le_of_ble_eq_true rfl) 0 (Nat.le_of_ble_eq_true rfl) ?_
  refine q_i2l dL_restore_7 ?_
  refine q_last (f := (z_OU S2)) dL_restore_8 (Nat.le_of_ble_eq_true rfl) rfl (0) rfl (Nat.le_of_ble_eq_true rfl) (Nat.le_of_ble_eq_true rfl) ?_
  refine wp_w (u_OU g _ _) ?_
  refine q_goto 18 dL_restore_9 rfl ?_
  refine q_iconst (v := 0) dL_restore_18 rfl ?_
  exact q_iret dL_restore_19 rfl ⟨rfl, rfl⟩
set_option maxRecDepth 100000 in
set_option maxHeartbeats 4000000 in
theorem k_L_restore_EIO {g : G0} (hG : Gd g) (S S2 : SS) (x0 : Int32) (hc : ctt g mX9_restore [.ref 0, .int (x0)] (mixW g S) EIO (mixW g S2)) : ctHv g mL_restore [.ref 0, .int (x0), .ref 40] (mixW g S) (.int 1) (mixW g S2) := by
  refine ctH_of hG [some (.ref 0), some (.int (x0)), some (.ref 40), none] rfl rfl (Nat.le_of_ble_eq_true rfl) (fun h => ?_) rfl
  refine q_aload_n dL_restore_0 rfl ?_
  refine q_iconst (v := 0) dL_restore_1 rfl ?_
  refine q_aload_n dL_restore_2 rfl ?_
  refine q_iload_n dL_restore_3 rfl ?_
  refine q_callVtc (E := EIO) (pre := []) (x := (⟨0, 9, 12, 25⟩ : ExceptionTableEntry)) (suf := [(⟨0, 9, 15, 15⟩ : ExceptionTableEntry)]) (ν := mX9_restore) dL_restore_4 uw_912 vX9_restore hc (Nat.le_of_ble_eq_true rfl) rfl rfl rfl rfl (Nat.le_of_ble_eq_true rfl) (Nat.le_of_ble_eq_true rfl) (Nat.le_of_ble_eq_true rfl) 0 (Nat.le_of_ble_eq_true rfl) ⟨rfl, (fun z hz => absurd hz List.not_mem_nil), by decide, by decide, uw_616, List.mem_of_getElem? (i := 2) rfl⟩ dL_restore_12 (Nat.le_of_ble_eq_true rfl) (st_no [some (.ref 0), some (.int (x0)), some (.ref 40)] [] rfl) ?_
  refine q_iconst (v := 1) dL_restore_13 rfl ?_
  exact q_iret dL_restore_14 rfl ⟨rfl, rfl⟩
set_option maxRecDepth 100000 in
set_option maxHeartbeats 4000000 in
theorem k_L_restore_EIS {g : G0} (hG : Gd g) (S S2 : SS) (x0 : Int32) (hc : ctt g mX9_restore [.ref 0, .int (x0)] (mixW g S) EIS (mixW g S2)) : ctHv g mL_restore [.ref 0, .int (x0), .ref 40] (mixW g S) (.int 2) (mixW g S2) := by
  refine ctH_of hG [some (.ref 0), some (.int (x0)), some (.ref 40), none] rfl rfl (Nat.le_of_ble_eq_true rfl) (fun h => ?_) rfl
  refine q_aload_n dL_restore_0 rfl ?_
  refine q_iconst (v := 0) dL_restore_1 rfl ?_
  refine q_aload_n dL_restore_2 rfl ?_
  refine q_iload_n dL_restore_3 rfl ?_
  refine q_callVtc (E := EIS) (pre := [(⟨0, 9, 12, 25⟩ : ExceptionTableEntry)]) (x := (⟨0, 9, 15, 15⟩ : ExceptionTableEntry)) (suf := []) (ν := mX9_restore) dL_restore_4 uw_912 vX9_restore hc (Nat.le_of_ble_eq_true rfl) rfl rfl rfl rfl (Nat.le_of_ble_eq_true rfl) (Nat.le_of_ble_eq_true rfl) (Nat.le_of_ble_eq_true rfl) 0 (Nat.le_of_ble_eq_true rfl) ⟨rfl, (fun z hz => by rcases List.mem_cons.mp hz with rfl | hz; exact Or.inr ⟨by decide, EIO, uw_616, List.mem_of_getElem? (i := 3) rfl⟩; exact absurd hz List.not_mem_nil), by decide, by decide, uw_471, List.mem_of_getElem? (i := 1) rfl⟩ dL_restore_15 (Nat.le_of_ble_eq_true rfl) (st_no [some (.ref 0), some (.int (x0)), some (.ref 40)] [] rfl) ?_
  refine q_iconst (v := 2) dL_restore_16 rfl ?_
  exact q_iret dL_restore_17 rfl ⟨rfl, rfl⟩
