noncomputable def uqM (f : Nat → Int32) (d N q : Nat) : Int64 := fuM f d N q / fgM f d N q
noncomputable def lqM (f : Nat → Int32) (d N q : Nat) : Int64 := flM f d N q / fgM f d N q
noncomputable def recM (f : Nat → Int32) (N : Nat) : Int32 := if f 26 = 0 then 0 else ((ctQ (uqM f 0 N 8) (lqM f 0 N 8 * (f 26).toInt64) 3).1).toInt32
def rOk (f : Nat → Int32) (N : Nat) : Prop := ¬ f 26 = 0 → fOk f 0 N 8 ∧ ¬ lqM f 0 N 8 * (f 26).toInt64 = 0
noncomputable def gAM (f : Nat → Int32) (d N : Nat) : Int64 := (ctQ (uqM f d N 8) (lqM f d N 8) 6).1
noncomputable def graM (f : Nat → Int32) (N : Nat) : Int32 := if gAM f 0 N + gAM f 1 N = 0 then 0 else (1000 * gAM f 0 N / (gAM f 0 N + gAM f 1 N)).toInt32
def gOk (f : Nat → Int32) (N : Nat) : Prop := (fOk f 0 N 8 ∧ ¬ lqM f 0 N 8 = 0) ∧ (fOk f 1 N 8 ∧ ¬ lqM f 1 N 8 = 0)
set_option maxRecDepth 100000 in
set_option maxHeartbeats 4000000 in
theorem c_X10_recoveryOf_27 {g : G0} (hG : Gd g) (S : SS)  (N : Nat) (h1 : (z_NW S) 0 = nI N) (h2 : N ≤ 6) (h3 : rOk (z_NW S) N) : ct g mX10_recoveryOf [.ref 26, .ref 27] (mixW g S) (fun v w1 => v = some (.int (recM (z_NW S) N)) ∧ ∃ mx rt mo u l, w1 = mixW g (s_UP (s_LO (s_MX (s_RT (s_MO S mo) rt) mx) l) u)) (fun _ _ => False) := by
  refine ct_of hG [some (.ref 26), some (.ref 27), none] rfl rfl rfl (Nat.le_of_ble_eq_true rfl) (fun h => ?_) rfl
  refine q_aload_n dX10_recoveryOf_0 rfl ?_
  refine q_bipush (v := 26) dX10_recoveryOf_1 rfl ?_
  refine q_iald (f := (z_NW S)) dX10_recoveryOf_3 (Nat.le_of_ble_eq_true rfl) rfl (26) rfl (Nat.le_of_ble_eq_true rfl) (Nat.le_of_ble_eq_true rfl) ?_
  refine q_ist2 dX10_recoveryOf_4 (Nat.le_of_ble_eq_true rfl) rfl ?_
  refine q_iload_n dX10_recoveryOf_5 rfl ?_
  refine q_if_ne 11 dX10_recoveryOf_6 rfl (fun c6 => ?_) (fun c6 => ?_)
  · refine q_aload_n dX10_recoveryOf_11 rfl ?_
    refine q_aload_n dX10_recoveryOf_12 rfl ?_
    refine q_bipush (v := 8) dX10_recoveryOf_13 rfl ?_
    refine q_iconst (v := 0) dX10_recoveryOf_15 rfl ?_
    refine q_callVg (ν := mX10_findFlow) dX10_recoveryOf_16 uw_1149 vX10_findFlow (c_X10_findFlow_27 hG S (8) (0) (N) h1 h2 (by decide) (h3 c6).1 (by decide)) (Nat.le_of_ble_eq_true rfl) rfl rfl rfl rfl (Nat.le_of_ble_eq_true rfl) (Nat.le_of_ble_eq_true rfl) (Nat.le_of_ble_eq_true rfl) 0 (Nat.le_of_ble_eq_true rfl) rfl (fun _ _ z => z.elim) (fun v w1 hv => ?_)
    obtain ⟨rfl, mx, rt, mo, rfl⟩ := hv
    · refine wp_eq (st2 := []) rfl ?_
      refine wp_w (w2 := mixW g (s_UP (s_LO (s_MX (s_RT (s_MO S mo) rt) mx) (lqM (z_NW S) 0 N 8)) (uqM (z_NW S) 0 N 8))) rfl ?_
      refine q_aload_n dX10_recoveryOf_19 rfl ?_
      refine q_get (j := 19) (v := .long ((uqM (z_NW S) 0 N 8))) dX10_recoveryOf_20 (Nat.le_of_ble_eq_true rfl) rfl rfl iuX10 (Nat.le_of_ble_eq_true rfl) uw_943 rfl rfl ?_
      refine q_aload_n dX10_recoveryOf_23 rfl ?_
      refine q_get (j := 20) (v := .long ((lqM (z_NW S) 0 N 8))) dX10_recoveryOf_24 (Nat.le_of_ble_eq_true rfl) rfl rfl iuX10 (Nat.le_of_ble_eq_true rfl) uw_944 rfl rfl ?_
      refine q_iload_n dX10_recoveryOf_27 rfl ?_
      refine q_i2l dX10_recoveryOf_28 ?_
      refine q_lmul dX10_recoveryOf_29 ?_
      refine q_iconst (v := 3) dX10_recoveryOf_30 rfl ?_
      refine q_callSv (ν := mX10_cut) dX10_recoveryOf_31 uw_1179 vX10_cut (c_X10_cut hG (s_UP (s_LO (s_MX (s_RT (s_MO S mo) rt) mx) (lqM (z_NW S) 0 N 8)) (uqM (z_NW S) 0 N 8)) (((uqM (z_NW S) 0 N 8))) ((((lqM (z_NW S) 0 N 8) * (((z_NW S) (26)) : Int32).toInt64))) (3) (h3 c6).2 (by decide)) rfl rfl (Nat.le_of_ble_eq_true rfl) (Nat.le_of_ble_eq_true rfl) (Nat.le_of_ble_eq_true rfl) 0 (Nat.le_of_ble_eq_true rfl) ?_
      refine wp_eq (st2 := .long (((ctQ ((uqM (z_NW S) 0 N 8)) (((lqM (z_NW S) 0 N 8) * (((z_NW S) (26)) : Int32).toInt64)) 3).1)) :: _) rfl ?_
      refine q_l2i dX10_recoveryOf_34 ?_
      exact q_iret dX10_recoveryOf_35 rfl ⟨by rw [recM, if_neg c6], _, _, _, _, _, rfl⟩
  · refine q_iconst (v := 0) dX10_recoveryOf_9 rfl ?_
    exact q_iret dX10_recoveryOf_10 rfl ⟨by rw [recM, if_pos c6], z_MX S, z_RT S, z_MO S, z_UP S, z_LO S, (by rw [se_MO, se_RT, se_MX, se_LO, se_UP])⟩
set_option maxRecDepth 100000 in
set_option maxHeartbeats 4000000 in
theorem c_X10_gradeOf_27 {g : G0} (hG : Gd g) (S : SS)  (N : Nat) (h1 : (z_NW S) 0 = nI N) (h2 : N ≤ 6) (h3 : gOk (z_NW S) N) : ct g mX10_gradeOf [.ref 26, .ref 27] (mixW g S) (fun v w1 => v = some (.int (graM (z_NW S) N)) ∧ ∃ mx rt mo u l, w1 = mixW g (s_UP (s_LO (s_MX (s_RT (s_MO S mo) rt) mx) l) u)) (fun _ _ => False) := by
  refine ct_of hG [some (.ref 26), some (.ref 27), none, none, none, none] rfl rfl rfl (Nat.le_of_ble_eq_true rfl) (fun h => ?_) rfl
  refine q_aload_n dX10_gradeOf_0 rfl ?_
  refine q_aload_n dX10_gradeOf_1 rfl ?_
  refine q_bipush (v := 8) dX10_gradeOf_2 rfl ?_
  refine q_iconst (v := 0) dX10_gradeOf_4 rfl ?_
  refine q_callVg (ν := mX10_findFlow) dX10_gradeOf_5 uw_1149 vX10_findFlow (c_X10_findFlow_27 hG S (8) (0) (N) h1 h2 (by decide) h3.1.1 (by decide)) (Nat.le_of_ble_eq_true rfl) rfl rfl rfl rfl (Nat.le_of_ble_eq_true rfl) (Nat.le_of_ble_eq_true rfl) (Nat.le_of_ble_eq_true rfl) 0 (Nat.le_of_ble_eq_true rfl) rfl (fun _ _ z => z.elim) (fun v w1 hv => ?_)
  obtain ⟨rfl, mx, rt, mo, rfl⟩ := hv
  · refine wp_eq (st2 := []) rfl ?_
    refine wp_w (w2 := mixW g (s_UP (s_LO (s_MX (s_RT (s_MO S mo) rt) mx) (lqM (z_NW S) 0 N 8)) (uqM (z_NW S) 0 N 8))) rfl ?_
    refine q_aload_n dX10_gradeOf_8 rfl ?_
    refine q_get (j := 19) (v := .long ((uqM (z_NW S) 0 N 8))) dX10_gradeOf_9 (Nat.le_of_ble_eq_true rfl) rfl rfl iuX10 (Nat.le_of_ble_eq_true rfl) uw_943 rfl rfl ?_
    refine q_aload_n dX10_gradeOf_12 rfl ?_
    refine q_get (j := 20) (v := .long ((lqM (z_NW S) 0 N 8))) dX10_gradeOf_13 (Nat.le_of_ble_eq_true rfl) rfl rfl iuX10 (Nat.le_of_ble_eq_true rfl) uw_944 rfl rfl ?_
    refine q_bipush (v := 6) dX10_gradeOf_16 rfl ?_
    refine q_callSv (ν := mX10_cut) dX10_gradeOf_18 uw_1179 vX10_cut (c_X10_cut hG (s_UP (s_LO (s_MX (s_RT (s_MO S mo) rt) mx) (lqM (z_NW S) 0 N 8)) (uqM (z_NW S) 0 N 8)) (((uqM (z_NW S) 0 N 8))) (((lqM (z_NW S) 0 N 8))) (6) h3.1.2 (by decide)) rfl rfl (Nat.le_of_ble_eq_true rfl) (Nat.le_of_ble_eq_true rfl) (Nat.le_of_ble_eq_true rfl) 0 (Nat.le_of_ble_eq_true rfl) ?_
    refine wp_eq (st2 := .long (((ctQ ((uqM (z_NW S) 0 N 8)) ((lqM (z_NW S) 0 N 8)) 6).1)) :: _) rfl ?_
    refine wp_topl (y := gAM (z_NW S) 0 N) rfl ?_
    refine q_lst2 dX10_gradeOf_21 (Nat.le_of_ble_eq_true rfl) rfl ?_
    refine q_aload_n dX10_gradeOf_22 rfl ?_
    refine q_aload_n dX10_gradeOf_23 rfl ?_
    refine q_bipush (v := 8) dX10_gradeOf_24 rfl ?_
    refine q_iconst (v := 1) dX10_gradeOf_26 rfl ?_
    refine q_callVg (ν := mX10_findFlow) dX10_gradeOf_27 uw_1149 vX10_findFlow (c_X10_findFlow_27 hG (s_UP (s_LO (s_MX (s_RT (s_MO S mo) rt) mx) (lqM (z_NW S) 0 N 8)) (uqM (z_NW S) 0 N 8)) (8) (1) (N) h1 h2 (by decide) h3.2.1 (by decide)) (Nat.le_of_ble_eq_true rfl) rfl rfl rfl rfl (Nat.le_of_ble_eq_true rfl) (Nat.le_of_ble_eq_true rfl) (Nat.le_of_ble_eq_true rfl) 0 (Nat.le_of_ble_eq_true rfl) rfl (fun _ _ z => z.elim) (fun v w1 hv => ?_)
    obtain ⟨rfl, mx2, rt2, mo2, rfl⟩ := hv
    · refine wp_eq (st2 := []) rfl ?_
      rw [sc_MO_UP, sc_MO_LO, sc_MO_MX, sc_MO_RT, ss_MO, sc_RT_UP, sc_RT_LO, sc_RT_MX, ss_RT, sc_MX_UP, sc_MX_LO, ss_MX, sc_LO_UP, ss_LO, ss_UP]
      refine wp_w (w2 := mixW g (s_UP (s_LO (s_MX (s_RT (s_MO S mo2) rt2) mx2) (lqM (z_NW S) 1 N 8)) (uqM (z_NW S) 1 N 8))) rfl ?_
      refine q_aload_n dX10_gradeOf_30 rfl ?_
      refine q_get (j := 19) (v := .long ((uqM (z_NW S) 1 N 8))) dX10_gradeOf_31 (Nat.le_of_ble_eq_true rfl) rfl rfl iuX10 (Nat.le_of_ble_eq_true rfl) uw_943 rfl rfl ?_
      refine q_aload_n dX10_gradeOf_34 rfl ?_
      refine q_get (j := 20) (v := .long ((lqM (z_NW S) 1 N 8))) dX10_gradeOf_35 (Nat.le_of_ble_eq_true rfl) rfl rfl iuX10 (Nat.le_of_ble_eq_true rfl) uw_944 rfl rfl ?_
      refine q_bipush (v := 6) dX10_gradeOf_38 rfl ?_
      refine q_callSv (ν := mX10_cut) dX10_gradeOf_40 uw_1179 vX10_cut (c_X10_cut hG (s_UP (s_LO (s_MX (s_RT (s_MO S mo2) rt2) mx2) (lqM (z_NW S) 1 N 8)) (uqM (z_NW S) 1 N 8)) (((uqM (z_NW S) 1 N 8))) (((lqM (z_NW S) 1 N 8))) (6) h3.2.2 (by decide)) rfl rfl (Nat.le_of_ble_eq_true rfl) (Nat.le_of_ble_eq_true rfl) (Nat.le_of_ble_eq_true rfl) 0 (Nat.le_of_ble_eq_true rfl) ?_
      refine wp_eq (st2 := .long (((ctQ ((uqM (z_NW S) 1 N 8)) ((lqM (z_NW S) 1 N 8)) 6).1)) :: _) rfl ?_
      refine wp_topl (y := gAM (z_NW S) 1 N) rfl ?_
      refine q_lst4 dX10_gradeOf_43 (Nat.le_of_ble_eq_true rfl) rfl ?_
      refine q_lload_n dX10_gradeOf_45 rfl ?_
      refine q_lload dX10_gradeOf_46 rfl ?_
      refine q_ladd dX10_gradeOf_48 ?_
      refine q_lconst (v := 0) dX10_gradeOf_49 rfl ?_
      refine q_lcmp_ne 58 dX10_gradeOf_50 dX10_gradeOf_51 rfl (fun c50 => ?_) (fun c50 => ?_)
      · refine q_ldc2 dX10_gradeOf_58 uw_1191 ?_
        refine q_lload_n dX10_gradeOf_61 rfl ?_
        refine q_lmul dX10_gradeOf_62 ?_
        refine q_lload_n dX10_gradeOf_63 rfl ?_
        refine q_lload dX10_gradeOf_64 rfl ?_
        refine q_ladd dX10_gradeOf_66 ?_
        refine q_ldiv dX10_gradeOf_67 c50 ?_
        refine q_l2i dX10_gradeOf_68 ?_
        exact q_iret dX10_gradeOf_69 rfl ⟨by rw [graM, if_neg c50], _, _, _, _, _, rfl⟩
      · refine q_iconst (v := 0) dX10_gradeOf_54 rfl ?_
        refine q_goto 69 dX10_gradeOf_55 rfl ?_
        exact q_iret dX10_gradeOf_69 rfl ⟨by rw [graM, if_pos c50], _, _, _, _, _, rfl⟩
set_option maxRecDepth 100000 in
set_option maxHeartbeats 4000000 in
theorem c_X10_recoveryOf_28 {g : G0} (hG : Gd g) (S : SS)  (N : Nat) (h1 : (z_TR S) 0 = nI N) (h2 : N ≤ 6) (h3 : rOk (z_TR S) N) : ct g mX10_recoveryOf [.ref 26, .ref 28] (mixW g S) (fun v w1 => v = some (.int (recM (z_TR S) N)) ∧ ∃ mx rt mo u l, w1 = mixW g (s_UP (s_LO (s_MX (s_RT (s_MO S mo) rt) mx) l) u)) (fun _ _ => False) := by
  refine ct_of hG [some (.ref 26), some (.ref 28), none] rfl rfl rfl (Nat.le_of_ble_eq_true rfl) (fun h => ?_) rfl
  refine q_aload_n dX10_recoveryOf_0 rfl ?_
  refine q_bipush (v := 26) dX10_recoveryOf_1 rfl ?_
  refine q_iald (f := (z_TR S)) dX10_recoveryOf_3 (Nat.le_of_ble_eq_true rfl) rfl (26) rfl (Nat.le_of_ble_eq_true rfl) (Nat.le_of_ble_eq_true rfl) ?_
  refine q_ist2 dX10_recoveryOf_4 (Nat.le_of_ble_eq_true rfl) rfl ?_
  refine q_iload_n dX10_recoveryOf_5 rfl ?_
  refine q_if_ne 11 dX10_recoveryOf_6 rfl (fun c6 => ?_) (fun c6 => ?_)
  · refine q_aload_n dX10_recoveryOf_11 rfl ?_
    refine q_aload_n dX10_recoveryOf_12 rfl ?_
    refine q_bipush (v := 8) dX10_recoveryOf_13 rfl ?_
    refine q_iconst (v := 0) dX10_recoveryOf_15 rfl ?_
    refine q_callVg (ν := mX10_findFlow) dX10_recoveryOf_16 uw_1149 vX10_findFlow (c_X10_findFlow_28 hG S (8) (0) (N) h1 h2 (by decide) (h3 c6).1 (by decide)) (Nat.le_of_ble_eq_true rfl) rfl rfl rfl rfl (Nat.le_of_ble_eq_true rfl) (Nat.le_of_ble_eq_true rfl) (Nat.le_of_ble_eq_true rfl) 0 (Nat.le_of_ble_eq_true rfl) rfl (fun _ _ z => z.elim) (fun v w1 hv => ?_)
    obtain ⟨rfl, mx, rt, mo, rfl⟩ := hv
    · refine wp_eq (st2 := []) rfl ?_
      refine wp_w (w2 := mixW g (s_UP (s_LO (s_MX (s_RT (s_MO S mo) rt) mx) (lqM (z_TR S) 0 N 8)) (uqM (z_TR S) 0 N 8))) rfl ?_
      refine q_aload_n dX10_recoveryOf_19 rfl ?_
      refine q_get (j := 19) (v := .long ((uqM (z_TR S) 0 N 8))) dX10_recoveryOf_20 (Nat.le_of_ble_eq_true rfl) rfl rfl iuX10 (Nat.le_of_ble_eq_true rfl) uw_943 rfl rfl ?_
      refine q_aload_n dX10_recoveryOf_23 rfl ?_
      refine q_get (j := 20) (v := .long ((lqM (z_TR S) 0 N 8))) dX10_recoveryOf_24 (Nat.le_of_ble_eq_true rfl) rfl rfl iuX10 (Nat.le_of_ble_eq_true rfl) uw_944 rfl rfl ?_
      refine q_iload_n dX10_recoveryOf_27 rfl ?_
      refine q_i2l dX10_recoveryOf_28 ?_
      refine q_lmul dX10_recoveryOf_29 ?_
      refine q_iconst (v := 3) dX10_recoveryOf_30 rfl ?_
      refine q_callSv (ν := mX10_cut) dX10_recoveryOf_31 uw_1179 vX10_cut (c_X10_cut hG (s_UP (s_LO (s_MX (s_RT (s_MO S mo) rt) mx) (lqM (z_TR S) 0 N 8)) (uqM (z_TR S) 0 N 8)) (((uqM (z_TR S) 0 N 8))) ((((lqM (z_TR S) 0 N 8) * (((z_TR S) (26)) : Int32).toInt64))) (3) (h3 c6).2 (by decide)) rfl rfl (Nat.le_of_ble_eq_true rfl) (Nat.le_of_ble_eq_true rfl) (Nat.le_of_ble_eq_true rfl) 0 (Nat.le_of_ble_eq_true rfl) ?_
      refine wp_eq (st2 := .long (((ctQ ((uqM (z_TR S) 0 N 8)) (((lqM (z_TR S) 0 N 8) * (((z_TR S) (26)) : Int32).toInt64)) 3).1)) :: _) rfl ?_
      refine q_l2i dX10_recoveryOf_34 ?_
      exact q_iret dX10_recoveryOf_35 rfl ⟨by rw [recM, if_neg c6], _, _, _, _, _, rfl⟩
  · refine q_iconst (v := 0) dX10_recoveryOf_9 rfl ?_
    exact q_iret dX10_recoveryOf_10 rfl ⟨by rw [recM, if_pos c6], z_MX S, z_RT S, z_MO S, z_UP S, z_LO S, (by rw [se_MO, se_RT, se_MX, se_LO, se_UP])⟩
set_option maxRecDepth 100000 in
set_option maxHeartbeats 4000000 in
theorem c_X10_gradeOf_28 {g : G0} (hG : Gd g) (S : SS)  (N : Nat) (h1 : (z_TR S) 0 = nI N) (h2 : N ≤ 6) (h3 : gOk (z_TR S) N) : ct g mX10_gradeOf [.ref 26, .ref 28] (mixW g S) (fun v w1 => v = some (.int (graM (z_TR S) N)) ∧ ∃ mx rt mo u l, w1 = mixW g (s_UP (s_LO (s_MX (s_RT (s_MO S mo) rt) mx) l) u)) (fun _ _ => False) := by
  refine ct_of hG [some (.ref 26), some (.ref 28), none, none, none, none] rfl rfl rfl (Nat.le_of_ble_eq_true rfl) (fun h => ?_) rfl
  refine q_aload_n dX10_gradeOf_0 rfl ?_
  refine q_aload_n dX10_gradeOf_1 rfl ?_
  refine q_bipush (v := 8) dX10_gradeOf_2 rfl ?_
  refine q_iconst (v := 0) dX10_gradeOf_4 rfl ?_
  refine q_callVg (ν := mX10_findFlow) dX10_gradeOf_5 uw_1149 vX10_findFlow (c_X10_findFlow_28 hG S (8) (0) (N) h1 h2 (by decide) h3.1.1 (by decide)) (Nat.le_of_ble_eq_true rfl) rfl rfl rfl rfl (Nat.le_of_ble_eq_true rfl) (Nat.le_of_ble_eq_true rfl) (Nat.le_of_ble_eq_true rfl) 0 (Nat.le_of_ble_eq_true rfl) rfl (fun _ _ z => z.elim) (fun v w1 hv => ?_)
  obtain ⟨rfl, mx, rt, mo, rfl⟩ := hv
  · refine wp_eq (st2 := []) rfl ?_
    refine wp_w (w2 := mixW g (s_UP (s_LO (s_MX (s_RT (s_MO S mo) rt) mx) (lqM (z_TR S) 0 N 8)) (uqM (z_TR S) 0 N 8))) rfl ?_
    refine q_aload_n dX10_gradeOf_8 rfl ?_
    refine q_get (j := 19) (v := .long ((uqM (z_TR S) 0 N 8))) dX10_gradeOf_9 (Nat.le_of_ble_eq_true rfl) rfl rfl iuX10 (Nat.le_of_ble_eq_true rfl) uw_943 rfl rfl ?_
    refine q_aload_n dX10_gradeOf_12 rfl ?_
    refine q_get (j := 20) (v := .long ((lqM (z_TR S) 0 N 8))) dX10_gradeOf_13 (Nat.le_of_ble_eq_true rfl) rfl rfl iuX10 (Nat.le_of_ble_eq_true rfl) uw_944 rfl rfl ?_
    refine q_bipush (v := 6) dX10_gradeOf_16 rfl ?_
    refine q_callSv (ν := mX10_cut) dX10_gradeOf_18 uw_1179 vX10_cut (c_X10_cut hG (s_UP (s_LO (s_MX (s_RT (s_MO S mo) rt) mx) (lqM (z_TR S) 0 N 8)) (uqM (z_TR S) 0 N 8)) (((uqM (z_TR S) 0 N 8))) (((lqM (z_TR S) 0 N 8))) (6) h3.1.2 (by decide)) rfl rfl (Nat.le_of_ble_eq_true rfl) (Nat.le_of_ble_eq_true rfl) (Nat.le_of_ble_eq_true rfl) 0 (Nat.le_of_ble_eq_true rfl) ?_
    refine wp_eq (st2 := .long (((ctQ ((uqM (z_TR S) 0 N 8)) ((lqM (z_TR S) 0 N 8)) 6).1)) :: _) rfl ?_
    refine wp_topl (y := gAM (z_TR S) 0 N) rfl ?_
    refine q_lst2 dX10_gradeOf_21 (Nat.le_of_ble_eq_true rfl) rfl ?_
    refine q_aload_n dX10_gradeOf_22 rfl ?_
    refine q_aload_n dX10_gradeOf_23 rfl ?_
    refine q_bipush (v := 8) dX10_gradeOf_24 rfl ?_
    refine q_iconst (v := 1) dX10_gradeOf_26 rfl ?_
    refine q_callVg (ν := mX10_findFlow) dX10_gradeOf_27 uw_1149 vX10_findFlow (c_X10_findFlow_28 hG (s_UP (s_LO (s_MX (s_RT (s_MO S mo) rt) mx) (lqM (z_TR S) 0 N 8)) (uqM (z_TR S) 0 N 8)) (8) (1) (N) h1 h2 (by decide) h3.2.1 (by decide)) (Nat.le_of_ble_eq_true rfl) rfl rfl rfl rfl (Nat.le_of_ble_eq_true rfl) (Nat.le_of_ble_eq_true rfl) (Nat.le_of_ble_eq_true rfl) 0 (Nat.le_of_ble_eq_true rfl) rfl (fun _ _ z => z.elim) (fun v w1 hv => ?_)
    obtain ⟨rfl, mx2, rt2, mo2, rfl⟩ := hv
    · refine wp_eq (st2 := []) rfl ?_
      rw [sc_MO_UP, sc_MO_LO, sc_MO_MX, sc_MO_RT, ss_MO, sc_RT_UP, sc_RT_LO, sc_RT_MX, ss_RT, sc_MX_UP, sc_MX_LO, ss_MX, sc_LO_UP, ss_LO, ss_UP]
      refine wp_w (w2 := mixW g (s_UP (s_LO (s_MX (s_RT (s_MO S mo2) rt2) mx2) (lqM (z_TR S) 1 N 8)) (uqM (z_TR S) 1 N 8))) rfl ?_
      refine q_aload_n dX10_gradeOf_30 rfl ?_
      refine q_get (j := 19) (v := .long ((uqM (z_TR S) 1 N 8))) dX10_gradeOf_31 (Nat.le_of_ble_eq_true rfl) rfl rfl iuX10 (Nat.le_of_ble_eq_true rfl) uw_943 rfl rfl ?_
      refine q_aload_n dX10_gradeOf_34 rfl ?_
      refine q_get (j := 20) (v := .long ((lqM (z_TR S) 1 N 8))) dX10_gradeOf_35 (Nat.le_of_ble_eq_true rfl) rfl rfl iuX10 (Nat.le_of_ble_eq_true rfl) uw_944 rfl rfl ?_
      refine q_bipush (v := 6) dX10_gradeOf_38 rfl ?_
      refine q_callSv (ν := mX10_cut) dX10_gradeOf_40 uw_1179 vX10_cut (c_X10_cut hG (s_UP (s_LO (s_MX (s_RT (s_MO S mo2) rt2) mx2) (lqM (z_TR S) 1 N 8)) (uqM (z_TR S) 1 N 8)) (((uqM (z_TR S) 1 N 8))) (((lqM (z_TR S) 1 N 8))) (6) h3.2.2 (by decide)) rfl rfl (Nat.le_of_ble_eq_true rfl) (Nat.le_of_ble_eq_true rfl) (Nat.le_of_ble_eq_true rfl) 0 (Nat.le_of_ble_eq_true rfl) ?_
      refine wp_eq (st2 := .long (((ctQ ((uqM (z_TR S) 1 N 8)) ((lqM (z_TR S) 1 N 8)) 6).1)) :: _) rfl ?_
      refine wp_topl (y := gAM (z_TR S) 1 N) rfl ?_
      refine q_lst4 dX10_gradeOf_43 (Nat.le_of_ble_eq_true rfl) rfl ?_
      refine q_lload_n dX10_gradeOf_45 rfl ?_
      refine q_lload dX10_gradeOf_46 rfl ?_
      refine q_ladd dX10_gradeOf_48 ?_
      refine q_lconst (v := 0) dX10_gradeOf_49 rfl ?_
      refine q_lcmp_ne 58 dX10_gradeOf_50 dX10_gradeOf_51 rfl (fun c50 => ?_) (fun c50 => ?_)
      · refine q_ldc2 dX10_gradeOf_58 uw_1191 ?_
        refine q_lload_n dX10_gradeOf_61 rfl ?_
        refine q_lmul dX10_gradeOf_62 ?_
        refine q_lload_n dX10_gradeOf_63 rfl ?_
        refine q_lload dX10_gradeOf_64 rfl ?_
        refine q_ladd dX10_gradeOf_66 ?_
        refine q_ldiv dX10_gradeOf_67 c50 ?_
        refine q_l2i dX10_gradeOf_68 ?_
        exact q_iret dX10_gradeOf_69 rfl ⟨by rw [graM, if_neg c50], _, _, _, _, _, rfl⟩
      · refine q_iconst (v := 0) dX10_gradeOf_54 rfl ?_
        refine q_goto 69 dX10_gradeOf_55 rfl ?_
        exact q_iret dX10_gradeOf_69 rfl ⟨by rw [graM, if_pos c50], _, _, _, _, _, rfl⟩
