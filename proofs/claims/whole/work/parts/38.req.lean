set_option maxRecDepth 100000 in
set_option maxHeartbeats 4000000 in
theorem c_X9_isProductI {g : G0} (hG : Gd g) (S : SS) (x : Int32)   : ctv g mX9_isProduct [.int x] (mixW g S) (.int (pI (x = 8 ∨ x = 9))) (mixW g S) := by
  refine ct_of hG [some (.int (x))] rfl rfl rfl (Nat.le_of_ble_eq_true rfl) (fun h => ?_) rfl
  refine q_iload_n dX9_isProduct_0 rfl ?_
  refine q_bipush (v := 8) dX9_isProduct_1 rfl ?_
  refine q_icmp_eq 12 dX9_isProduct_3 rfl (fun c3 => ?_) (fun c3 => ?_)
  · refine q_iconst (v := 1) dX9_isProduct_12 rfl ?_
    refine q_goto 17 dX9_isProduct_13 rfl ?_
    exact q_zret dX9_isProduct_17 rfl rfl ⟨by rw [pI_t (by first | exact Or.inl (by assumption) | exact Or.inr (by assumption))], rfl⟩
  · refine q_iload_n dX9_isProduct_6 rfl ?_
    refine q_bipush (v := 9) dX9_isProduct_7 rfl ?_
    refine q_icmp_ne 16 dX9_isProduct_9 rfl (fun c9 => ?_) (fun c9 => ?_)
    · refine q_iconst (v := 0) dX9_isProduct_16 rfl ?_
      exact q_zret dX9_isProduct_17 rfl rfl ⟨by rw [pI_f (fun z => z.elim (by assumption) (by assumption))], rfl⟩
    · refine q_iconst (v := 1) dX9_isProduct_12 rfl ?_
      refine q_goto 17 dX9_isProduct_13 rfl ?_
      exact q_zret dX9_isProduct_17 rfl rfl ⟨by rw [pI_t (by first | exact Or.inl (by assumption) | exact Or.inr (by assumption))], rfl⟩
set_option maxRecDepth 100000 in
set_option maxHeartbeats 4000000 in
theorem c_X9_requireRange_x {g : G0} (hG : Gd g) (S : SS) (x : Int32) (l : Int32) (u : Int32)   : ctx g mX9_requireRange [.int x, .int l, .int u] (mixW g S) (l ≤ x ∧ x ≤ u) (none) (mixW g S) EIA := by
  refine ct_of hG [some (.int (x)), some (.int (l)), some (.int (u))] rfl rfl rfl (Nat.le_of_ble_eq_true rfl) (fun h => ?_) rfl
  refine q_iload_n dX9_requireRange_0 rfl ?_
  refine q_iload_n dX9_requireRange_1 rfl ?_
  refine q_icmp_lt 10 dX9_requireRange_2 rfl (fun c2 => ?_) (fun c2 => ?_)
  · exact q_throwW dX9_requireRange_10 dX9_requireRange_13 dX9_requireRange_14 dX9_requireRange_17 dX9_requireRange_20 uw_479 uw_53 (List.mem_of_getElem? (i := 0) rfl) okT_IA rfl rfl (Nat.le_of_ble_eq_true rfl) (Nat.le_of_ble_eq_true rfl) (Nat.le_of_ble_eq_true rfl) (Nat.le_of_ble_eq_true rfl) ⟨by first | exact fun z => absurd c2 (Int32.not_lt.mpr z.1) | exact fun z => absurd z.2 c7, rfl, rfl⟩
  · refine q_iload_n dX9_requireRange_5 rfl ?_
    refine q_iload_n dX9_requireRange_6 rfl ?_
    refine q_icmp_le 21 dX9_requireRange_7 rfl (fun c7 => ?_) (fun c7 => ?_)
    · exact q_vret dX9_requireRange_21 rfl ⟨⟨Int32.not_lt.mp c2, c7⟩, rfl, rfl⟩
    · exact q_throwW dX9_requireRange_10 dX9_requireRange_13 dX9_requireRange_14 dX9_requireRange_17 dX9_requireRange_20 uw_479 uw_53 (List.mem_of_getElem? (i := 0) rfl) okT_IA rfl rfl (Nat.le_of_ble_eq_true rfl) (Nat.le_of_ble_eq_true rfl) (Nat.le_of_ble_eq_true rfl) (Nat.le_of_ble_eq_true rfl) ⟨by first | exact fun z => absurd c2 (Int32.not_lt.mpr z.1) | exact fun z => absurd z.2 c7, rfl, rfl⟩
set_option maxRecDepth 100000 in
set_option maxHeartbeats 4000000 in
theorem c_X9_requireOneOfTwo_x {g : G0} (hG : Gd g) (S : SS) (x : Int32)   : ctx g mX9_requireOneOfTwo [.int x] (mixW g S) (x = 0 ∨ x = 1) (none) (mixW g S) EIO := by
  refine ct_of hG [some (.int (x))] rfl rfl rfl (Nat.le_of_ble_eq_true rfl) (fun h => ?_) rfl
  refine q_iload_n dX9_requireOneOfTwo_0 rfl ?_
  refine q_if_eq 20 dX9_requireOneOfTwo_1 rfl (fun c1 => ?_) (fun c1 => ?_)
  · exact q_vret dX9_requireOneOfTwo_20 rfl ⟨by first | exact Or.inl c1 | exact Or.inr c6, rfl, rfl⟩
  · refine q_iload_n dX9_requireOneOfTwo_4 rfl ?_
    refine q_iconst (v := 1) dX9_requireOneOfTwo_5 rfl ?_
    refine q_icmp_eq 20 dX9_requireOneOfTwo_6 rfl (fun c6 => ?_) (fun c6 => ?_)
    · exact q_vret dX9_requireOneOfTwo_20 rfl ⟨by first | exact Or.inl c1 | exact Or.inr c6, rfl, rfl⟩
    · exact q_throwW dX9_requireOneOfTwo_9 dX9_requireOneOfTwo_12 dX9_requireOneOfTwo_13 dX9_requireOneOfTwo_16 dX9_requireOneOfTwo_19 uw_626 uw_55 (List.mem_of_getElem? (i := 4) rfl) okT_IO rfl rfl (Nat.le_of_ble_eq_true rfl) (Nat.le_of_ble_eq_true rfl) (Nat.le_of_ble_eq_true rfl) (Nat.le_of_ble_eq_true rfl) ⟨fun z => z.elim c1 c6, rfl, rfl⟩
set_option maxRecDepth 100000 in
set_option maxHeartbeats 4000000 in
theorem c_X9_requireDestination_x {g : G0} (hG : Gd g) (S : SS) (x : Int32)   : ctx g mX9_requireDestination [.int x] (mixW g S) ((x = 8 ∨ x = 9) ∨ (0 ≤ x ∧ x < 6)) (none) (mixW g S) EIA := by
  refine ct_of hG [some (.int (x))] rfl rfl rfl (Nat.le_of_ble_eq_true rfl) (fun h => ?_) rfl
  refine q_iload_n dX9_requireDestination_0 rfl ?_
  refine q_callSv (ν := mX9_isProduct) dX9_requireDestination_1 uw_672 vX9_isProduct (c_X9_isProductI hG S (x)) rfl rfl (Nat.le_of_ble_eq_true rfl) (Nat.le_of_ble_eq_true rfl) (Nat.le_of_ble_eq_true rfl) 1 (Nat.le_of_ble_eq_true rfl) ?_
  refine q_if_ne 28 dX9_requireDestination_4 rfl (fun c4 => ?_) (fun c4 => ?_)
  · exact q_vret dX9_requireDestination_28 rfl ⟨by first | exact Or.inl (pI_1 c4) | exact Or.inr ⟨Int32.not_lt.mp c8, c14⟩, rfl, rfl⟩
  · refine q_iload_n dX9_requireDestination_7 rfl ?_
    refine q_if_lt 17 dX9_requireDestination_8 rfl (fun c8 => ?_) (fun c8 => ?_)
    · exact q_throwW dX9_requireDestination_17 dX9_requireDestination_20 dX9_requireDestination_21 dX9_requireDestination_24 dX9_requireDestination_27 uw_479 uw_53 (List.mem_of_getElem? (i := 5) rfl) okT_IA rfl rfl (Nat.le_of_ble_eq_true rfl) (Nat.le_of_ble_eq_true rfl) (Nat.le_of_ble_eq_true rfl) (Nat.le_of_ble_eq_true rfl) ⟨fun z => z.elim (pI_0 c4) (by first | exact fun y => absurd c8 (Int32.not_lt.mpr y.1) | exact fun y => absurd y.2 c14), rfl, rfl⟩
    · refine q_iload_n dX9_requireDestination_11 rfl ?_
      refine q_bipush (v := 6) dX9_requireDestination_12 rfl ?_
      refine q_icmp_lt 28 dX9_requireDestination_14 rfl (fun c14 => ?_) (fun c14 => ?_)
      · exact q_vret dX9_requireDestination_28 rfl ⟨by first | exact Or.inl (pI_1 c4) | exact Or.inr ⟨Int32.not_lt.mp c8, c14⟩, rfl, rfl⟩
      · exact q_throwW dX9_requireDestination_17 dX9_requireDestination_20 dX9_requireDestination_21 dX9_requireDestination_24 dX9_requireDestination_27 uw_479 uw_53 (List.mem_of_getElem? (i := 5) rfl) okT_IA rfl rfl (Nat.le_of_ble_eq_true rfl) (Nat.le_of_ble_eq_true rfl) (Nat.le_of_ble_eq_true rfl) (Nat.le_of_ble_eq_true rfl) ⟨fun z => z.elim (pI_0 c4) (by first | exact fun y => absurd c8 (Int32.not_lt.mpr y.1) | exact fun y => absurd y.2 c14), rfl, rfl⟩
set_option maxRecDepth 100000 in
set_option maxHeartbeats 4000000 in
theorem c_X9_requireCell_x {g : G0} (hG : Gd g) (S : SS) (x : Int32)   : ctx g mX9_requireCell [.ref 0, .int x] (mixW g S) (0 ≤ x ∧ x < (z_SV S) 0) (none) (mixW g S) EIO := by
  refine ct_of hG [some (.ref 0), some (.int (x))] rfl rfl rfl (Nat.le_of_ble_eq_true rfl) (fun h => ?_) rfl
  refine q_aload_n dX9_requireCell_0 rfl ?_
  refine q_get (j := 1) (v := .ref 3) dX9_requireCell_1 (Nat.le_of_ble_eq_true rfl) rfl rfl iuX9 (Nat.le_of_ble_eq_true rfl) uw_209 rfl rfl ?_
  refine q_iload_n dX9_requireCell_4 rfl ?_
  refine q_callVv (ν := mX7_has) dX9_requireCell_5 uw_625 vX7_has (c_X7_has_3 hG S (x)) (Nat.le_of_ble_eq_true rfl) rfl rfl rfl rfl (Nat.le_of_ble_eq_true rfl) (Nat.le_of_ble_eq_true rfl) (Nat.le_of_ble_eq_true rfl) 1 (Nat.le_of_ble_eq_true rfl) ?_
  refine q_if_ne 22 dX9_requireCell_8 rfl (fun c8 => ?_) (fun c8 => ?_)
  · exact q_vret dX9_requireCell_22 rfl ⟨bI_1 c8, rfl, rfl⟩
  · exact q_throwW dX9_requireCell_11 dX9_requireCell_14 dX9_requireCell_15 dX9_requireCell_18 dX9_requireCell_21 uw_626 uw_55 (List.mem_of_getElem? (i := 3) rfl) okT_IO rfl rfl (Nat.le_of_ble_eq_true rfl) (Nat.le_of_ble_eq_true rfl) (Nat.le_of_ble_eq_true rfl) (Nat.le_of_ble_eq_true rfl) ⟨bI_0 c8, rfl, rfl⟩
def desOk (d : Nat) : Prop := d < 6 ∨ d = 8 ∨ d = 9
theorem des_ok {d : Nat} (h : desOk d) : (nI d = 8 ∨ nI d = 9) ∨ (0 ≤ nI d ∧ nI d < 6) := by
  rcases h with h | rfl | rfl
  · exact Or.inr ⟨nI_pos' (by omega), nI_lt (b := 6) h (by omega)⟩
  · exact Or.inl (Or.inl rfl)
  · exact Or.inl (Or.inr rfl)
