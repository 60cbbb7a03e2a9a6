set_option maxRecDepth 100000 in
set_option maxHeartbeats 4000000 in
theorem c_bitCount {g : G0} (hG : Gd g) (S : SS) (x : Int32)   : ctv g mJ6_bitCount_0f7a4 [.int x] (mixW g S) (.int (bcF x)) (mixW g S) := by
  refine ct_of hG [some (.int (x))] rfl rfl rfl (Nat.le_of_ble_eq_true rfl) (fun h => ?_) rfl
  refine q_iload_n dJ6_bitCount_0f7a4_0 rfl ?_
  refine q_iload_n dJ6_bitCount_0f7a4_1 rfl ?_
  refine q_iconst (v := 1) dJ6_bitCount_0f7a4_2 rfl ?_
  refine q_iushr dJ6_bitCount_0f7a4_3 ?_
  refine q_ldcw dJ6_bitCount_0f7a4_4 uw_375 ?_
  refine q_iand dJ6_bitCount_0f7a4_7 ?_
  refine q_isub dJ6_bitCount_0f7a4_8 ?_
  refine wp_top (y := (bc1 x)) rfl ?_
  refine q_ist0 dJ6_bitCount_0f7a4_9 (Nat.le_of_ble_eq_true rfl) rfl ?_
  refine q_iload_n dJ6_bitCount_0f7a4_10 rfl ?_
  refine q_ldcw dJ6_bitCount_0f7a4_11 uw_376 ?_
  refine q_iand dJ6_bitCount_0f7a4_14 ?_
  refine q_iload_n dJ6_bitCount_0f7a4_15 rfl ?_
  refine q_iconst (v := 2) dJ6_bitCount_0f7a4_16 rfl ?_
  refine q_iushr dJ6_bitCount_0f7a4_17 ?_
  refine q_ldcw dJ6_bitCount_0f7a4_18 uw_376 ?_
  refine q_iand dJ6_bitCount_0f7a4_21 ?_
  refine q_iadd dJ6_bitCount_0f7a4_22 ?_
  refine wp_top (y := (bc2 (bc1 x))) rfl ?_
  refine q_ist0 dJ6_bitCount_0f7a4_23 (Nat.le_of_ble_eq_true rfl) rfl ?_
  refine q_iload_n dJ6_bitCount_0f7a4_24 rfl ?_
  refine q_iload_n dJ6_bitCount_0f7a4_25 rfl ?_
  refine q_iconst (v := 4) dJ6_bitCount_0f7a4_26 rfl ?_
  refine q_iushr dJ6_bitCount_0f7a4_27 ?_
  refine q_iadd dJ6_bitCount_0f7a4_28 ?_
  refine q_ldcw dJ6_bitCount_0f7a4_29 uw_377 ?_
  refine q_iand dJ6_bitCount_0f7a4_32 ?_
  refine wp_top (y := (bc3 (bc2 (bc1 x)))) rfl ?_
  refine q_ist0 dJ6_bitCount_0f7a4_33 (Nat.le_of_ble_eq_true rfl) rfl ?_
  refine q_iload_n dJ6_bitCount_0f7a4_34 rfl ?_
  refine q_iload_n dJ6_bitCount_0f7a4_35 rfl ?_
  refine q_bipush (v := 8) dJ6_bitCount_0f7a4_36 rfl ?_
  refine q_iushr dJ6_bitCount_0f7a4_38 ?_
  refine q_iadd dJ6_bitCount_0f7a4_39 ?_
  refine wp_top (y := (bc4 (bc3 (bc2 (bc1 x))))) rfl ?_
  refine q_ist0 dJ6_bitCount_0f7a4_40 (Nat.le_of_ble_eq_true rfl) rfl ?_
  refine q_iload_n dJ6_bitCount_0f7a4_41 rfl ?_
  refine q_iload_n dJ6_bitCount_0f7a4_42 rfl ?_
  refine q_bipush (v := 16) dJ6_bitCount_0f7a4_43 rfl ?_
  refine q_iushr dJ6_bitCount_0f7a4_45 ?_
  refine q_iadd dJ6_bitCount_0f7a4_46 ?_
  refine wp_top (y := (bc5 (bc4 (bc3 (bc2 (bc1 x)))))) rfl ?_
  refine q_ist0 dJ6_bitCount_0f7a4_47 (Nat.le_of_ble_eq_true rfl) rfl ?_
  refine q_iload_n dJ6_bitCount_0f7a4_48 rfl ?_
  refine q_bipush (v := 63) dJ6_bitCount_0f7a4_49 rfl ?_
  refine q_iand dJ6_bitCount_0f7a4_51 ?_
  exact q_iret dJ6_bitCount_0f7a4_52 rfl ⟨rfl, rfl⟩
set_option maxRecDepth 100000 in
set_option maxHeartbeats 4000000 in
theorem l_fill_14 {g : G0} {h : G1} (hG : Gd g) (S : SS) {Q : State → Prop} (x : Int32) (k : wp g h mJ7_fill_53178 (mixW g (s_AR S (filF (z_AR S) x 10))) [some (.ref 14), some (.int (x)), some (.int (nI 10)), some (.int (10))] [] 0 Q 20) : ∀ (n i : Nat), i + n = 10 → wp g h mJ7_fill_53178 (mixW g (s_AR S (filF (z_AR S) x i))) [some (.ref 14), some (.int (x)), some (.int (nI i)), some (.int (10))] [] 0 Q 5 := by
  intro n
  induction n with
  | zero =>
    intro i hq1
    obtain rfl : 10 = i := by omega
    refine q_iload_n dJ7_fill_53178_5 rfl ?_
    refine q_iload_n dJ7_fill_53178_6 rfl ?_
    refine q_icmp_ge 20 dJ7_fill_53178_7 rfl (fun c7 => ?_) (fun c7 => ?_)
    · have n7 := (nI_leI (a := 10) (b := 10) (by omega) (by omega)).mp c7
      exact k
    · have n7 := mt (nI_leI (a := 10) (b := 10) (by omega) (by omega)).mpr c7
      omega
  | succ n ih =>
    intro i hq1
    refine q_iload_n dJ7_fill_53178_5 rfl ?_
    refine q_iload_n dJ7_fill_53178_6 rfl ?_
    refine q_icmp_ge 20 dJ7_fill_53178_7 rfl (fun c7 => ?_) (fun c7 => ?_)
    · have n7 := (nI_leI (a := 10) (b := i) (by omega) (by omega)).mp c7
      omega
    · have n7 := mt (nI_leI (a := 10) (b := i) (by omega) (by omega)).mpr c7
      refine q_aload_n dJ7_fill_53178_10 rfl ?_
      refine q_iload_n dJ7_fill_53178_11 rfl ?_
      refine q_iload_n dJ7_fill_53178_12 rfl ?_
      refine q_iast (f := (filF (z_AR S) x i)) dJ7_fill_53178_13 (Nat.le_of_ble_eq_true rfl) rfl (i) rfl (by omega) (Nat.le_of_ble_eq_true rfl) ?_
      refine wp_w (u_AR g _ _) ?_
      rw [ss_AR]
      refine q_iinc2 (k9 := 1) dJ7_fill_53178_14 rfl (Nat.le_of_ble_eq_true rfl) rfl ?_
      refine wp_L (L2 := [some (.ref 14), some (.int (x)), some (.int (nI (i + 1))), some (.int (10))]) (by rw [show nI i + 1 = nI (i + 1) from nI_1 _]) ?_
      refine q_goto 5 dJ7_fill_53178_17 rfl ?_
      rw [fil_up]
      exact ih (i + 1) (by omega)
set_option maxRecDepth 100000 in
set_option maxHeartbeats 4000000 in
theorem c_fill_14 {g : G0} (hG : Gd g) (S : SS) (x : Int32)   : ctu g mJ7_fill_53178 [.ref 14, .int x] (mixW g S) (mixW g (s_AR S (filF (z_AR S) x 10))) := by
  refine ct_of hG [some (.ref 14), some (.int (x)), none, none] rfl rfl rfl (Nat.le_of_ble_eq_true rfl) (fun h => ?_) rfl
  refine q_iconst (v := 0) dJ7_fill_53178_0 rfl ?_
  refine q_ist2 dJ7_fill_53178_1 (Nat.le_of_ble_eq_true rfl) rfl ?_
  refine q_aload_n dJ7_fill_53178_2 rfl ?_
  refine q_alen (t := 0) (v := 10) dJ7_fill_53178_3 (Nat.le_of_ble_eq_true rfl) rfl rfl rfl ?_
  refine q_ist3 dJ7_fill_53178_4 (Nat.le_of_ble_eq_true rfl) rfl ?_
  refine wp_w (w2 := mixW g (s_AR S (filF (z_AR S) x 0))) (by rw [fil_0, se_AR]) ?_
  refine l_fill_14 hG S x ?_ 10 0 (by omega)
  exact q_vret dJ7_fill_53178_20 rfl ⟨rfl, rfl⟩
set_option maxRecDepth 100000 in
set_option maxHeartbeats 4000000 in
theorem l_fill_19 {g : G0} {h : G1} (hG : Gd g) (S : SS) {Q : State → Prop} (x : Int32) (k : wp g h mJ7_fill_53178 (mixW g (s_RE S (filF (z_RE S) x 6))) [some (.ref 19), some (.int (x)), some (.int (nI 6)), some (.int (6))] [] 0 Q 20) : ∀ (n i : Nat), i + n = 6 → wp g h mJ7_fill_53178 (mixW g (s_RE S (filF (z_RE S) x i))) [some (.ref 19), some (.int (x)), some (.int (nI i)), some (.int (6))] [] 0 Q 5 := by
  intro n
  induction n with
  | zero =>
    intro i hq1
    obtain rfl : 6 = i := by omega
    refine q_iload_n dJ7_fill_53178_5 rfl ?_
    refine q_iload_n dJ7_fill_53178_6 rfl ?_
    refine q_icmp_ge 20 dJ7_fill_53178_7 rfl (fun c7 => ?_) (fun c7 => ?_)
    · have n7 := (nI_leI (a := 6) (b := 6) (by omega) (by omega)).mp c7
      exact k
    · have n7 := mt (nI_leI (a := 6) (b := 6) (by omega) (by omega)).mpr c7
      omega
  | succ n ih =>
    intro i hq1
    refine q_iload_n dJ7_fill_53178_5 rfl ?_
    refine q_iload_n dJ7_fill_53178_6 rfl ?_
    refine q_icmp_ge 20 dJ7_fill_53178_7 rfl (fun c7 => ?_) (fun c7 => ?_)
    · have n7 := (nI_leI (a := 6) (b := i) (by omega) (by omega)).mp c7
      omega
    · have n7 := mt (nI_leI (a := 6) (b := i) (by omega) (by omega)).mpr c7
      refine q_aload_n dJ7_fill_53178_10 rfl ?_
      refine q_iload_n dJ7_fill_53178_11 rfl ?_
      refine q_iload_n dJ7_fill_53178_12 rfl ?_
      refine q_iast (f := (filF (z_RE S) x i)) dJ7_fill_53178_13 (Nat.le_of_ble_eq_true rfl) rfl (i) rfl (by omega) (Nat.le_of_ble_eq_true rfl) ?_
      refine wp_w (u_RE g _ _) ?_
      rw [ss_RE]
      refine q_iinc2 (k9 := 1) dJ7_fill_53178_14 rfl (Nat.le_of_ble_eq_true rfl) rfl ?_
      refine wp_L (L2 := [some (.ref 19), some (.int (x)), some (.int (nI (i + 1))), some (.int (6))]) (by rw [show nI i + 1 = nI (i + 1) from nI_1 _]) ?_
      refine q_goto 5 dJ7_fill_53178_17 rfl ?_
      rw [fil_up]
      exact ih (i + 1) (by omega)
set_option maxRecDepth 100000 in
set_option maxHeartbeats 4000000 in
theorem c_fill_19 {g : G0} (hG : Gd g) (S : SS) (x : Int32)   : ctu g mJ7_fill_53178 [.ref 19, .int x] (mixW g S) (mixW g (s_RE S (filF (z_RE S) x 6))) := by
  refine ct_of hG [some (.ref 19), some (.int (x)), none, none] rfl rfl rfl (Nat.le_of_ble_eq_true rfl) (fun h => ?_) rfl
  refine q_iconst (v := 0) dJ7_fill_53178_0 rfl ?_
  refine q_ist2 dJ7_fill_53178_1 (Nat.le_of_ble_eq_true rfl) rfl ?_
  refine q_aload_n dJ7_fill_53178_2 rfl ?_
  refine q_alen (t := 0) (v := 6) dJ7_fill_53178_3 (Nat.le_of_ble_eq_true rfl) rfl rfl rfl ?_
  refine q_ist3 dJ7_fill_53178_4 (Nat.le_of_ble_eq_true rfl) rfl ?_
  refine wp_w (w2 := mixW g (s_RE S (filF (z_RE S) x 0))) (by rw [fil_0, se_RE]) ?_
  refine l_fill_19 hG S x ?_ 6 0 (by omega)
  exact q_vret dJ7_fill_53178_20 rfl ⟨rfl, rfl⟩
set_option maxRecDepth 100000 in
set_option maxHeartbeats 4000000 in
theorem l_fill_16 {g : G0} {h : G1} (hG : Gd g) (S : SS) {Q : State → Prop} (x : Int64) (k : wp g h mJ7_fill_d0a16 (mixW g (s_EQ S (filF (z_EQ S) x 36))) [some (.ref 16), some (.long (x)), none, some (.int (nI 36)), some (.int (36))] [] 0 Q 22) : ∀ (n i : Nat), i + n = 36 → wp g h mJ7_fill_d0a16 (mixW g (s_EQ S (filF (z_EQ S) x i))) [some (.ref 16), some (.long (x)), none, some (.int (nI i)), some (.int (36))] [] 0 Q 6 := by
  intro n
  induction n with
  | zero =>
    intro i hq1
    obtain rfl : 36 = i := by omega
    refine q_iload_n dJ7_fill_d0a16_6 rfl ?_
    refine q_iload dJ7_fill_d0a16_7 rfl ?_
    refine q_icmp_ge 22 dJ7_fill_d0a16_9 rfl (fun c9 => ?_) (fun c9 => ?_)
    · have n9 := (nI_leI (a := 36) (b := 36) (by omega) (by omega)).mp c9
      exact k
    · have n9 := mt (nI_leI (a := 36) (b := 36) (by omega) (by omega)).mpr c9
      omega
  | succ n ih =>
    intro i hq1
    refine q_iload_n dJ7_fill_d0a16_6 rfl ?_
    refine q_iload dJ7_fill_d0a16_7 rfl ?_
    refine q_icmp_ge 22 dJ7_fill_d0a16_9 rfl (fun c9 => ?_) (fun c9 => ?_)
    · have n9 := (nI_leI (a := 36) (b := i) (by omega) (by omega)).mp c9
      omega
    · have n9 := mt (nI_leI (a := 36) (b := i) (by omega) (by omega)).mpr c9
      refine q_aload_n dJ7_fill_d0a16_12 rfl ?_
      refine q_iload_n dJ7_fill_d0a16_13 rfl ?_
      refine q_lload_n dJ7_fill_d0a16_14 rfl ?_
      refine q_last (f := (filF (z_EQ S) x i)) dJ7_fill_d0a16_15 (Nat.le_of_ble_eq_true rfl) rfl (i) rfl (by omega) (Nat.le_of_ble_eq_true rfl) ?_
      refine wp_w (u_EQ g _ _) ?_
      rw [ss_EQ]
      refine q_iinc3 (k9 := 1) dJ7_fill_d0a16_16 rfl (Nat.le_of_ble_eq_true rfl) rfl ?_
      refine wp_L (L2 := [some (.ref 16), some (.long (x)), none, some (.int (nI (i + 1))), some (.int (36))]) (by rw [show nI i + 1 = nI (i + 1) from nI_1 _]) ?_
      refine q_goto 6 dJ7_fill_d0a16_19 rfl ?_
      rw [fil_upL]
      exact ih (i + 1) (by omega)
set_option maxRecDepth 100000 in
set_option maxHeartbeats 4000000 in
theorem c_fill_16 {g : G0} (hG : Gd g) (S : SS) (x : Int64)   : ctu g mJ7_fill_d0a16 [.ref 16, .long x] (mixW g S) (mixW g (s_EQ S (filF (z_EQ S) x 36))) := by
  refine ct_of hG [some (.ref 16), some (.long (x)), none, none, none] rfl rfl rfl (Nat.le_of_ble_eq_true rfl) (fun h => ?_) rfl
  refine q_iconst (v := 0) dJ7_fill_d0a16_0 rfl ?_
  refine q_ist3 dJ7_fill_d0a16_1 (Nat.le_of_ble_eq_true rfl) rfl ?_
  refine q_aload_n dJ7_fill_d0a16_2 rfl ?_
  refine q_alen (t := 1) (v := 36) dJ7_fill_d0a16_3 (Nat.le_of_ble_eq_true rfl) rfl rfl rfl ?_
  refine q_ist4 dJ7_fill_d0a16_4 (Nat.le_of_ble_eq_true rfl) rfl ?_
  refine wp_w (w2 := mixW g (s_EQ S (filF (z_EQ S) x 0))) (by rw [fil_0, se_EQ]) ?_
  refine l_fill_16 hG S x ?_ 36 0 (by omega)
  exact q_vret dJ7_fill_d0a16_22 rfl ⟨rfl, rfl⟩
