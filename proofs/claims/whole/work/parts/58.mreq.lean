noncomputable def uqM (f : Nat → Int32) (d N q : Nat) : Int64 := fuM f d N q / fgM f d N q
noncomputable def lqM (f : Nat → Int32) (d N q : Nat) : Int64 := flM f d N q / fgM f d N q
noncomputable def recM (f : Nat → Int32) (N : Nat) : Int32 := if f 26 = 0 then 0 else ((ctQ (uqM f 0 N 8) (lqM f 0 N 8 * (f 26).toInt64) 3).1).toInt32
def rOk (f : Nat → Int32) (N : Nat) : Prop := ¬ f 26 = 0 → fOk f 0 N 8 ∧ ¬ lqM f 0 N 8 * (f 26).toInt64 = 0
noncomputable def gAM (f : Nat → Int32) (d N : Nat) : Int64 := (ctQ (uqM f d N 8) (lqM f d N 8) 6).1
noncomputable def graM (f : Nat → Int32) (N : Nat) : Int32 := if gAM f 0 N + gAM f 1 N = 0 then 0 else (1000 * gAM f 0 N / (gAM f 0 N + gAM f 1 N)).toInt32
def gOk (f : Nat → Int32) (N : Nat) : Prop := (fOk f 0 N 8 ∧ ¬ lqM f 0 N 8 = 0) ∧ (fOk f 1 N 8 ∧ ¬ lqM f 1 N 8 = 0)
set_option maxRecDepth 100000 in
set_option maxHeartbeats 4000000 in
theorem c_X10_recoveryOf_27 {g : G0} (hG : Gd g) (S : SS)  (N : Nat) (h1 : (z_NW S) 0 = nI N) (h2 : N ≤ 6) (h3 : rOk (z_NW S) N) : ct g mX10_recoveryOf [.ref 26, .ref 27] (mixW g S) (fun v w1 => v = some (.int (recM (z_NW S) N)) ∧ ∃ mx rt mo u l, w1 = mixW g (s_UP (s_LO (s_MX (s_RT (s_MO S mo) rt) mx) l) u)) (fun _ _ => False) := by
  refine ct_of hG [some (.ref 26), some (.ref 27), none] rfl rfl rfl (Nat.le_of_ble_eq_true rfl) (fun h => ?_) rfl
  refine q_aload_n dX10_recoveryOf_0 rfl ?_
  refine q_bipush (v := 26) dX10_recoveryOf_1 rfl ?_
  refine q_iald (f := (z_NW S)) dX10_recoveryOf_3 (Nat.le_of_ble_eq_true rfl) rfl (26) rfl (Nat.le_of_ble_eq_true rfl) (Nat.le_of_ble_eq_true rfl) ?_
  refine q_ist2 dX10_recoveryOf_4 (Nat.le_of_ble_eq_true rfl) rfl ?_
  refine q_iload_n dX10_recoveryOf_5 rfl ?_
  refine q_if_ne 11 dX10_recoveryOf_6 rfl (fun c6 => ?_) (fun c6 => ?_)
  · refine q_aload_n dX10_recoveryOf_11 rfl ?_
    refine q_aload_n dX10_recoveryOf_12 rfl ?_
    refine q_bipush (v := 8) dX10_recoveryOf_13 rfl ?_
    refine q_iconst (v := 0) dX10_recoveryOf_15 rfl ?_
    refine q_callVg (ν := mX10_findFlow) dX10_recoveryOf_16 uw_1149 vX10_findFlow (c_X10_findFlow_27 hG S (8) (0) (N) h1 h2 (by decide) (h3 c6).1 (by decide)) (Nat.le_of_ble_eq_true rfl) rfl rfl rfl rfl (Nat.le_of_ble_eq_true rfl) (Nat.le_of_ble_eq_true rfl) (Nat.le_of_ble_eq_true rfl) 0 (Nat.le_of_ble_eq_true rfl) rfl (fun _ _ z => z.elim) (fun v w1 hv => ?_)
    obtain ⟨rfl, mx, rt, mo, rfl⟩ := hv
    · refine wp_eq (st2 := []) rfl ?_
      refine wp_w (w2 := mixW g (s_UP (s_LO (s_MX (s_RT (s_MO S mo) rt) mx) (lqM (z_NW S) 0 N 8)) (uqM (z_NW S) 0 N 8))) rfl ?_
      refine q_aload_n dX10_recoveryOf_19 rfl ?_
      refine q_get (j := 19) (v := .long ((uqM (z_NW S) 0 N 8))) dX10_recoveryOf_20 (Nat.le_of_ble_eq_true rfl) rfl rfl iuX10 (Nat.le_of_ble_eq_true rfl) uw_943 rfl rfl ?_
      refine q_aload_n dX10_recoveryOf_23 rfl ?_
      refine q_get (j := 20) (v := .long ((lqM (z_NW S) 0 N 8))) dX10_recoveryOf_24 (Nat.le_of_ble_eq_true rfl) rfl rfl iuX10 (Nat.le_of_ble_eq_true rfl) uw_944 rfl rfl ?_
      refine q_iload_n dX10_recoveryOf_27 rfl ?_
      refine q_i2l dX10_recoveryOf_28 ?_
      refine q_lmul dX10_recoveryOf_29 ?_
      refine q_iconst (v := 3) dX10_recoveryOf_30 rfl ?_
      refine q_callSv (ν := mX10_cut) dX10_recoveryOf_31 uw_1179 vX10_cut (c_X10_cut hG (s_UP (s_LO (s_MX (s_RT (s_MO S mo) rt) mx) (lqM (z_NW S) 0 N 8)) (uqM (z_NW S) 0 N 8)) (((uqM (z_NW S) 0 N 8))) ((((lqM (z_NW S) 0 N 8) * (((z_NW S) (26)) : Int32).toInt64))) (3) (h3 c6).2 (by decide)) rfl rfl (Nat.le_of_ble_eq_true rfl) (Nat.le_of_ble_eq_true rfl) (Nat.le_of_ble_eq_true rfl) 0 (Nat.le_of_ble_eq_true rfl) ?_
      refine wp_eq (st2 := .long (((ctQ ((uqM (z_NW S) 0 N 8)) (((lqM (z_NW S) 0 N 8) * (((z_NW S) (26)) : Int32).toInt64)) 3).1)) :: _) rfl ?_
      refine q_l2i dX10_recoveryOf_34 ?_
      exact q_iret dX10_recoveryOf_35 rfl ⟨by rw [recM, if_neg c6], _, _, _, _, _, rfl⟩
  · refine q_iconst (v := 0) dX10_recoveryOf_9 rfl ?_
    exact q_iret dX10_recoveryOf_10 rfl ⟨by rw [recM, if_pos c6], z_MX S, z_RT S, z_MO S, z_UP S, z_LO S, (by rw [se_MO, se_RT, se_MX, se_LO, se_UP])⟩
set_option maxRecDepth 100000 in
set_option maxHeartbeats 4000000 in
theorem c_X10_gradeOf_27 {g : G0} (hG : Gd g) (S : SS)  (N : Nat) (h1 : (z_NW S) 0 = nI N) (h2 : N ≤ 6) (h3 : gOk (z_NW S) N) : ct g mX10_gradeOf [.ref 26, .ref 27] (mixW g S) (fun v w1 => v = some (.int (graM (z_NW S) N)) ∧ ∃ mx rt mo u l, w1 = mixW g (s_UP (s_LO (s_MX (s_RT (s_MO S mo) rt) mx) l) u)) (fun _ _ => False) := by
  refine ct_of hG [some (.ref 26), some (.ref 27), none, none, none, none] rfl rfl rfl (Nat.le_of_ble_eq_true rfl) (fun h => ?_) rfl
  refine q_aload_n dX10_gradeOf_0 rfl ?_
  refine q_aload_n dX10_gradeOf_1 rfl ?_
  refine q_bipush (v := 8) dX10_gradeOf_2 rfl ?_
  refine q_iconst (v := 0) dX10_gradeOf_4 rfl ?_
  refine q_callVg (ν := mX10_findFlow) dX10_gradeOf_5 uw_1149 vX10_findFlow (c_X10_findFlow_27 hG S (8) (0) (N) h1 h2 (by decide) h3.1.1 (by decide)) (Nat.le_of_ble_eq_true rfl) rfl rfl rfl rfl (Nat.le_of_ble_eq_true rfl) (Nat.le_of_ble_eq_true rfl) (Nat.le_of_ble_eq_true rfl) 0 (Nat.le_of_ble_eq_true rfl) rfl (fun _ _ z => z.elim) (fun v w1 hv => ?_)
  obtain ⟨rfl, mx, rt, mo, rfl⟩ := hv
  · refine wp_eq (st2 := []) rfl ?_
    refine wp_w (w2 := mixW g (s_UP (s_LO (s_MX (s_RT (s_MO S mo) rt) mx) (lqM (z_NW S) 0 N 8)) (uqM (z_NW S) 0 N 8))) rfl ?_
    refine q_aload_n dX10_gradeOf_8 rfl ?_
    refine q_get (j := 19) (v := .long ((uqM (z_NW S) 0 N 8))) dX10_gradeOf_9 (Nat.le_of_ble_eq_true rfl) rfl rfl iuX10 (Nat.le_of_ble_eq_true rfl) uw_943 rfl rfl ?_
    refine q_aload_n dX10_gradeOf_12 rfl ?_
    refine q_get (j := 20) (v := .long ((lqM (z_NW S) 0 N 8))) dX10_gradeOf_13 (Nat.le_of_ble_eq_true rfl) rfl rfl iuX10 (Nat.le_of_ble_eq_true rfl) uw_944 rfl rfl ?_
    refine q_bipush (v := 6) dX10_gradeOf_16 rfl ?_
    refine q_callSv (ν := mX10_cut) dX10_gradeOf_18 uw_1179 vX10_cut (c_X10_cut hG (s_UP (s_LO (s_MX (s_RT (s_MO S mo) rt) mx) (lqM (z_NW S) 0 N 8)) (uqM (z_NW S) 0 N 8)) (((uqM (z_NW S) 0 N 8))) (((lqM (z_NW S) 0 N 8))) (6) h3.1.2 (by decide)) rfl rfl (Nat.le_of_ble_eq_true rfl) (Nat.le_of_ble_eq_true rfl) (Nat.le_of_ble_eq_true rfl) 0 (Nat.le_of_ble_eq_true rfl) ?_
    refine wp_eq (st2 := .long (((ctQ ((uqM (z_NW S) 0 N 8)) ((lqM (z_NW S) 0 N 8)) 6).1)) :: _) rfl ?_
    refine wp_topl (y := gAM (z_NW S) 0 N) rfl ?_
    refine q_lst2 dX10_gradeOf_21 (Nat.le_of_ble_eq_true rfl) rfl ?_
    refine q_aload_n dX10_gradeOf_22 rfl ?_
    refine q_aload_n dX10_gradeOf_23 rfl ?_
    refine q_bipush (v := 8) dX10_gradeOf_24 rfl ?_
    refine q_iconst (v := 1) dX10_gradeOf_26 rfl ?_
    refine q_callVg (ν := mX10_findFlow) dX10_gradeOf_27 uw_1149 vX10_findFlow (c_X10_findFlow_27 hG (s_UP (s_LO (s_MX (s_RT (s_MO S mo) rt) mx) (lqM (z_NW S) 0 N 8)) (uqM (z_NW S) 0 N 8)) (8) (1) (N) h1 h2 (by decide) h3.2.1 (by decide)) (Nat.le_of_ble_eq_true rfl) rfl rfl rfl rfl (Nat.le_of_ble_eq_true rfl) (Nat.le_of_ble_eq_true rfl) (Nat.le_of_ble_eq_true rfl) 0 (Nat.le_of_ble_eq_true rfl) rfl (fun _ _ z => z.elim) (fun v w1 hv => ?_)
    obtain ⟨rfl, mx2, rt2, mo2, rfl⟩ := hv
    · refine wp_eq (st2 := []) rfl ?_
      rw [sc_MO_UP, sc_MO_LO, sc_MO_MX, sc_MO_RT, ss_MO, sc_RT_UP, sc_RT_LO, sc_RT_MX, ss_RT, sc_MX_UP, sc_MX_LO, ss_MX, sc_LO_UP, ss_LO, ss_UP]
      refine wp_w (w2 := mixW g (s_UP (s_LO (s_MX (s_RT (s_MO S mo2) rt2) mx2) (lqM (z_NW S) 1 N 8)) (uqM (z_NW S) 1 N 8))) rfl ?_
      refine q_aload_n dX10_gradeOf_30 rfl ?_
      refine q_get (j := 19) (v := .long ((uqM (z_NW S) 1 N 8))) dX10_gradeOf_31 (Nat.le_of_ble_eq_true rfl) rfl rfl iuX10 (Nat.le_of_ble_eq_true rfl) uw_943 rfl rfl ?_
      refine q_aload_n dX10_gradeOf_34 rfl ?_
      refine q_get (j := 20) (v := .long ((lqM (z_NW S) 1 N 8))) dX10_gradeOf_35 (Nat.le_of_ble_eq_true rfl) rfl rfl iuX10 (Nat.le_of_ble_eq_true rfl) uw_944 rfl rfl ?_
      refine q_bipush (v := 6) dX10_gradeOf_38 rfl ?_
      refine q_callSv (ν := mX10_cut) dX10_gradeOf_40 uw_1179 vX10_cut (c_X10_cut hG (s_UP (s_LO (s_MX (s_RT (s_MO S mo2) rt2) mx2) (lqM (z_NW S) 1 N 8)) (uqM (z_NW S) 1 N 8)) (((uqM (z_NW S) 1 N 8))) (((lqM (z_NW S) 1 N 8))) (6) h3.2.2 (by decide)) rfl rfl (Nat.le_of_ble_eq_true rfl) (Nat.le_of_ble_eq_true rfl) (Nat.le_of_ble_eq_true rfl) 0 (Nat.le_of_ble_eq_true rfl) ?_
      refine wp_eq (st2 := .long (((ctQ ((uqM (z_NW S) 1 N 8)) ((lqM (z_NW S) 1 N 8)) 6).1)) :: _) rfl ?_
      refine wp_topl (y := gAM (z_NW S) 1 N) rfl ?_
      refine q_lst4 dX10_gradeOf_43 (Nat.le_of_ble_eq_true rfl) rfl ?_
      refine q_lload_n dX10_gradeOf_45 rfl ?_
      refine q_lload dX10_gradeOf_46 rfl ?_
      refine q_ladd dX10_gradeOf_48 ?_
      refine q_lconst (v := 0) dX10_gradeOf_49 rfl ?_
      refine q_lcmp_ne 58 dX10_gradeOf_50 dX10_gradeOf_51 rfl (fun c50 => ?_) (fun c50 => ?_)
      · refine q_ldc2 dX10_gradeOf_58 uw_1191 ?_
        refine q_lload_n dX10_gradeOf_61 rfl ?_
        refine q_lmul dX10_gradeOf_62 ?_
        refine q_lload_n dX10_gradeOf_63 rfl ?_
        refine q_lload dX10_gradeOf_64 rfl ?_
        refine q_ladd dX10_gradeOf_66 ?_
        refine q_ldiv dX10_gradeOf_67 c50 ?_
        refine q_l2i dX10_gradeOf_68 ?_
        exact q_iret dX10_gradeOf_69 rfl ⟨by rw [graM, if_neg c50], _, _, _, _, _, rfl⟩
      · refine q_iconst (v := 0) dX10_gradeOf_54 rfl ?_
        refine q_goto 69 dX10_gradeOf_55 rfl ?_
        exact q_iret dX10_gradeOf_69 rfl ⟨by rw [graM, if_pos c50], _, _, _, _, _, rfl⟩
set_option maxRecDepth 100000 in
set_option maxHeartbeats 4000000 in
theorem c_X10_recoveryOf_28 {g : G0} (hG : Gd g) (S : SS)  (N : Nat) (h1 : (z_TR S) 0 = nI N) (h2 : N ≤ 6) (h3 : rOk (z_TR S) N) : ct g mX10_recoveryOf [.ref 26, .ref 28] (mixW g S) (fun v w1 => v = some (.int (recM (z_TR S) N)) ∧ ∃ mx rt mo u l, w1 = mixW g (s_UP (s_LO (s_MX (s_RT (s_MO S mo) rt) mx) l) u)) (fun _ _ => False) := by
  refine ct_of hG [some (.ref 26), some (.ref 28), none] rfl rfl rfl (Nat.le_of_ble_eq_true rfl) (fun h => ?_) rfl
  refine q_aload_n dX10_recoveryOf_0 rfl ?_
  refine q_bipush (v := 26) dX10_recoveryOf_1 rfl ?_
  refine q_iald (f := (z_TR S)) dX10_recoveryOf_3 (Nat.le_of_ble_eq_true rfl) rfl (26) rfl (Nat.le_of_ble_eq_true rfl) (Nat.le_of_ble_eq_true rfl) ?_
  refine q_ist2 dX10_recoveryOf_4 (Nat.le_of_ble_eq_true rfl) rfl ?_
  refine q_iload_n dX10_recoveryOf_5 rfl ?_
  refine q_if_ne 11 dX10_recoveryOf_6 rfl (fun c6 => ?_) (fun c6 => ?_)
  · refine q_aload_n dX10_recoveryOf_11 rfl ?_
    refine q_aload_n dX10_recoveryOf_12 rfl ?_
    refine q_bipush (v := 8) dX10_recoveryOf_13 rfl ?_
    refine q_iconst (v := 0) dX10_recoveryOf_15 rfl ?_
    refine q_callVg (ν := mX10_findFlow) dX10_recoveryOf_16 uw_1149 vX10_findFlow (c_X10_findFlow_28 hG S (8) (0) (N) h1 h2 (by decide) (h3 c6).1 (by decide)) (Nat.le_of_ble_eq_true rfl) rfl rfl rfl rfl (Nat.le_of_ble_eq_true rfl) (Nat.le_of_ble_eq_true rfl) (Nat.le_of_ble_eq_true rfl) 0 (Nat.le_of_ble_eq_true rfl) rfl (fun _ _ z => z.elim) (fun v w1 hv => ?_)
    obtain ⟨rfl, mx, rt, mo, rfl⟩ := hv
    · refine wp_eq (st2 := []) rfl ?_
      refine wp_w (w2 := mixW g (s_UP (s_LO (s_MX (s_RT (s_MO S mo) rt) mx) (lqM (z_TR S) 0 N 8)) (uqM (z_TR S) 0 N 8))) rfl ?_
      refine q_aload_n dX10_recoveryOf_19 rfl ?_
      refine q_get (j := 19) (v := .long ((uqM (z_TR S) 0 N 8))) dX10_recoveryOf_20 (Nat.le_of_ble_eq_true rfl) rfl rfl iuX10 (Nat.le_of_ble_eq_true rfl) uw_943 rfl rfl ?_
      refine q_aload_n dX10_recoveryOf_23 rfl ?_
      refine q_get (j := 20) (v := .long ((lqM (z_TR S) 0 N 8))) dX10_recoveryOf_24 (Nat.le_of_ble_eq_true rfl) rfl rfl iuX10 (Nat.le_of_ble_eq_true rfl) uw_944 rfl rfl ?_
      refine q_iload_n dX10_recoveryOf_27 rfl ?_
      refine q_i2l dX10_recoveryOf_28 ?_
      refine q_lmul dX10_recoveryOf_29 ?_
      refine q_iconst (v := 3) dX10_recoveryOf_30 rfl ?_
      refine q_callSv (ν := mX10_cut) dX10_recoveryOf_31 uw_1179 vX10_cut (c_X10_cut hG (s_UP (s_LO (s_MX (s_RT (s_MO S mo) rt) mx) (lqM (z_TR S) 0 N 8)) (uqM (z_TR S) 0 N 8)) (((uqM (z_TR S) 0 N 8))) ((((lqM (z_TR S) 0 N 8) * (((z_TR S) (26)) : Int32).toInt64))) (3) (h3 c6).2 (by decide)) rfl rfl (Nat.le_of_ble_eq_true rfl) (Nat.le_of_ble_eq_true rfl) (Nat.le_of_ble_eq_true rfl) 0 (Nat.le_of_ble_eq_true rfl) ?_
      refine wp_eq (st2 := .long (((ctQ ((uqM (z_TR S) 0 N 8)) (((lqM (z_TR S) 0 N 8) * (((z_TR S) (26)) : Int32).toInt64)) 3).1)) :: _) rfl ?_
      refine q_l2i dX10_recoveryOf_34 ?_
      exact q_iret dX10_recoveryOf_35 rfl ⟨by rw [recM, if_neg c6], _, _, _, _, _, rfl⟩
  · refine q_iconst (v := 0) dX10_recoveryOf_9 rfl ?_
    exact q_iret dX10_recoveryOf_10 rfl ⟨by rw [recM, if_pos c6], z_MX S, z_RT S, z_MO S, z_UP S, z_LO S, (by rw [se_MO, se_RT, se_MX, se_LO, se_UP])⟩
set_option maxRecDepth 100000 in
set_option maxHeartbeats 4000000 in
theorem c_X10_gradeOf_28 {g : G0} (hG : Gd g) (S : SS)  (N : Nat) (h1 : (z_TR S) 0 = nI N) (h2 : N ≤ 6) (h3 : gOk (z_TR S) N) : ct g mX10_gradeOf [.ref 26, .ref 28] (mixW g S) (fun v w1 => v = some (.int (graM (z_TR S) N)) ∧ ∃ mx rt mo u l, w1 = mixW g (s_UP (s_LO (s_MX (s_RT (s_MO S mo) rt) mx) l) u)) (fun _ _ => False) := by
  refine ct_of hG [some (.ref 26), some (.ref 28), none, none, none, none] rfl rfl rfl (Nat.le_of_ble_eq_true rfl) (fun h => ?_) rfl
  refine q_aload_n dX10_gradeOf_0 rfl ?_
  refine q_aload_n dX10_gradeOf_1 rfl ?_
  refine q_bipush (v := 8) dX10_gradeOf_2 rfl ?_
  refine q_iconst (v := 0) dX10_gradeOf_4 rfl ?_
  refine q_callVg (ν := mX10_findFlow) dX10_gradeOf_5 uw_1149 vX10_findFlow (c_X10_findFlow_28 hG S (8) (0) (N) h1 h2 (by decide) h3.1.1 (by decide)) (Nat.le_of_ble_eq_true rfl) rfl rfl rfl rfl (Nat.le_of_ble_eq_true rfl) (Nat.le_of_ble_eq_true rfl) (Nat.le_of_ble_eq_true rfl) 0 (Nat.le_of_ble_eq_true rfl) rfl (fun _ _ z => z.elim) (fun v w1 hv => ?_)
  obtain ⟨rfl, mx, rt, mo, rfl⟩ := hv
  · refine wp_eq (st2 := []) rfl ?_
    refine wp_w (w2 := mixW g (s_UP (s_LO (s_MX (s_RT (s_MO S mo) rt) mx) (lqM (z_TR S) 0 N 8)) (uqM (z_TR S) 0 N 8))) rfl ?_
    refine q_aload_n dX10_gradeOf_8 rfl ?_
    refine q_get (j := 19) (v := .long ((uqM (z_TR S) 0 N 8))) dX10_gradeOf_9 (Nat.le_of_ble_eq_true rfl) rfl rfl iuX10 (Nat.le_of_ble_eq_true rfl) uw_943 rfl rfl ?_
    refine q_aload_n dX10_gradeOf_12 rfl ?_
    refine q_get (j := 20) (v := .long ((lqM (z_TR S) 0 N 8))) dX10_gradeOf_13 (Nat.le_of_ble_eq_true rfl) rfl rfl iuX10 (Nat.le_of_ble_eq_true rfl) uw_944 rfl rfl ?_
    refine q_bipush (v := 6) dX10_gradeOf_16 rfl ?_
    refine q_callSv (ν := mX10_cut) dX10_gradeOf_18 uw_1179 vX10_cut (c_X10_cut hG (s_UP (s_LO (s_MX (s_RT (s_MO S mo) rt) mx) (lqM (z_TR S) 0 N 8)) (uqM (z_TR S) 0 N 8)) (((uqM (z_TR S) 0 N 8))) (((lqM (z_TR S) 0 N 8))) (6) h3.1.2 (by decide)) rfl rfl (Nat.le_of_ble_eq_true rfl) (Nat.le_of_ble_eq_true rfl) (Nat.le_of_ble_eq_true rfl) 0 (Nat.le_of_ble_eq_true rfl) ?_
    refine wp_eq (st2 := .long (((ctQ ((uqM (z_TR S) 0 N 8)) ((lqM (z_TR S) 0 N 8)) 6).1)) :: _) rfl ?_
    refine wp_topl (y := gAM (z_TR S) 0 N) rfl ?_
    refine q_lst2 dX10_gradeOf_21 (Nat.le_of_ble_eq_true rfl) rfl ?_
    refine q_aload_n dX10_gradeOf_22 rfl ?_
    refine q_aload_n dX10_gradeOf_23 rfl ?_
    refine q_bipush (v := 8) dX10_gradeOf_24 rfl ?_
    refine q_iconst (v := 1) dX10_gradeOf_26 rfl ?_
    refine q_callVg (ν := mX10_findFlow) dX10_gradeOf_27 uw_1149 vX10_findFlow (c_X10_findFlow_28 hG (s_UP (s_LO (s_MX (s_RT (s_MO S mo) rt) mx) (lqM (z_TR S) 0 N 8)) (uqM (z_TR S) 0 N 8)) (8) (1) (N) h1 h2 (by decide) h3.2.1 (by decide)) (Nat.le_of_ble_eq_true rfl) rfl rfl rfl rfl (Nat.le_of_ble_eq_true rfl) (Nat.le_of_ble_eq_true rfl) (Nat.le_of_ble_eq_true rfl) 0 (Nat.le_of_ble_eq_true rfl) rfl (fun _ _ z => z.elim) (fun v w1 hv => ?_)
    obtain ⟨rfl, mx2, rt2, mo2, rfl⟩ := hv
    · refine wp_eq (st2 := []) rfl ?_
      rw [sc_MO_UP, sc_MO_LO, sc_MO_MX, sc_MO_RT, ss_MO, sc_RT_UP, sc_RT_LO, sc_RT_MX, ss_RT, sc_MX_UP, sc_MX_LO, ss_MX, sc_LO_UP, ss_LO, ss_UP]
      refine wp_w (w2 := mixW g (s_UP (s_LO (s_MX (s_RT (s_MO S mo2) rt2) mx2) (lqM (z_TR S) 1 N 8)) (uqM (z_TR S) 1 N 8))) rfl ?_
      refine q_aload_n dX10_gradeOf_30 rfl ?_
      refine q_get (j := 19) (v := .long ((uqM (z_TR S) 1 N 8))) dX10_gradeOf_31 (Nat.le_of_ble_eq_true rfl) rfl rfl iuX10 (Nat.le_of_ble_eq_true rfl) uw_943 rfl rfl ?_
      refine q_aload_n dX10_gradeOf_34 rfl ?_
      refine q_get (j := 20) (v := .long ((lqM (z_TR S) 1 N 8))) dX10_gradeOf_35 (Nat.le_of_ble_eq_true rfl) rfl rfl iuX10 (Nat.le_of_ble_eq_true rfl) uw_944 rfl rfl ?_
      refine q_bipush (v := 6) dX10_gradeOf_38 rfl ?_
      refine q_callSv (ν := mX10_cut) dX10_gradeOf_40 uw_1179 vX10_cut (c_X10_cut hG (s_UP (s_LO (s_MX (s_RT (s_MO S mo2) rt2) mx2) (lqM (z_TR S) 1 N 8)) (uqM (z_TR S) 1 N 8)) (((uqM (z_TR S) 1 N 8))) (((lqM (z_TR S) 1 N 8))) (6) h3.2.2 (by decide)) rfl rfl (Nat.le_of_ble_eq_true rfl) (Nat.le_of_ble_eq_true rfl) (Nat.le_of_ble_eq_true rfl) 0 (Nat.le_of_ble_eq_true rfl) ?_
      refine wp_eq (st2 := .long (((ctQ ((uqM (z_TR S) 1 N 8)) ((lqM (z_TR S) 1 N 8)) 6).1)) :: _) rfl ?_
      refine wp_topl (y := gAM (z_TR S) 1 N) rfl ?_
      refine q_lst4 dX10_gradeOf_43 (Nat.le_of_ble_eq_true rfl) rfl ?_
      refine q_lload_n dX10_gradeOf_45 rfl ?_
      refine q_lload dX10_gradeOf_46 rfl ?_
      refine q_ladd dX10_gradeOf_48 ?_
      refine q_lconst (v := 0) dX10_gradeOf_49 rfl ?_
      refine q_lcmp_ne 58 dX10_gradeOf_50 dX10_gradeOf_51 rfl (fun c50 => ?_) (fun c50 => ?_)
      · refine q_ldc2 dX10_gradeOf_58 uw_1191 ?_
        refine q_lload_n dX10_gradeOf_61 rfl ?_
        refine q_lmul dX10_gradeOf_62 ?_
        refine q_lload_n dX10_gradeOf_63 rfl ?_
        refine q_lload dX10_gradeOf_64 rfl ?_
        refine q_ladd dX10_gradeOf_66 ?_
        refine q_ldiv dX10_gradeOf_67 c50 ?_
        refine q_l2i dX10_gradeOf_68 ?_
        exact q_iret dX10_gradeOf_69 rfl ⟨by rw [graM, if_neg c50], _, _, _, _, _, rfl⟩
      · refine q_iconst (v := 0) dX10_gradeOf_54 rfl ?_
        refine q_goto 69 dX10_gradeOf_55 rfl ?_
        exact q_iret dX10_gradeOf_69 rfl ⟨by rw [graM, if_pos c50], _, _, _, _, _, rfl⟩
set_option maxRecDepth 100000 in
set_option maxHeartbeats 4000000 in
theorem c_X10_hasSteadyState {g : G0} (hG : Gd g) (S : SS)  (N : Nat) (h1 : (z_NW S) 0 = nI N) (h2 : N ≤ 6) : ctv g mX10_hasSteadyState [.ref 26] (mixW g S) (.int (pI (SM (z_NW S) N 0 ∧ SM (z_NW S) N 1))) (mixW g (s_RF S (0))) := by
  refine ct_of hG [some (.ref 26)] rfl rfl rfl (Nat.le_of_ble_eq_true rfl) (fun h => ?_) rfl
  refine q_aload_n dX10_hasSteadyState_0 rfl ?_
  refine q_iconst (v := 0) dX10_hasSteadyState_1 rfl ?_
  refine q_put (j := 0) (ty := .int) dX10_hasSteadyState_2 (Nat.le_of_ble_eq_true rfl) rfl rfl iuX10 tyX10_ok nmX10 (Nat.le_of_ble_eq_true rfl) uw_924 rfl rfl rfl rfl rfl (Nat.le_of_ble_eq_true rfl) ?_
  refine wp_w (u_RF g _ _) ?_
  refine q_aload_n dX10_hasSteadyState_5 rfl ?_
  refine q_get (j := 1) (v := .ref 27) dX10_hasSteadyState_6 (Nat.le_of_ble_eq_true rfl) rfl rfl iuX10 (Nat.le_of_ble_eq_true rfl) uw_925 rfl rfl ?_
  refine q_callSv (ν := mX10_isSteadyAll) dX10_hasSteadyState_9 uw_1132 vX10_isSteadyAll (c_X10_isSteadyAll_27 hG (s_RF S (0)) (N) h1 h2) rfl rfl (Nat.le_of_ble_eq_true rfl) (Nat.le_of_ble_eq_true rfl) (Nat.le_of_ble_eq_true rfl) 0 (Nat.le_of_ble_eq_true rfl) ?_
  refine wp_eq (st2 := .int ((pI (SM (z_NW S) N 0 ∧ SM (z_NW S) N 1))) :: _) rfl ?_
  exact q_zret dX10_hasSteadyState_12 rfl pI_z ⟨rfl, rfl⟩
set_option maxRecDepth 100000 in
set_option maxHeartbeats 4000000 in
theorem c_X10_noFlow {g : G0} (hG : Gd g) (S : SS) (q : Nat) (d : Nat) (N : Nat) (h1 : (z_NW S) 0 = nI N) (h2 : N ≤ 6) (h3 : (q < N ∨ q = 8 ∨ q = 9)) (h4 : d < 2) (h5 : SM (z_NW S) N d) : ctv g mX10_noFlow [.ref 26, .int (nI q), .int (nI d)] (mixW g S) (.int (0)) (mixW g (s_RF S (0))) := by
  refine ct_of hG [some (.ref 26), some (.int (nI q)), some (.int (nI d)), none] rfl rfl rfl (Nat.le_of_ble_eq_true rfl) (fun h => ?_) rfl
  refine q_aload_n dX10_noFlow_0 rfl ?_
  refine q_iload_n dX10_noFlow_1 rfl ?_
  refine q_callVv (ν := mX10_isCell) dX10_noFlow_2 uw_1053 vX10_isCell (c_X10_isCell hG S ((nI q)) (N) h1 h2) (Nat.le_of_ble_eq_true rfl) rfl rfl rfl rfl (Nat.le_of_ble_eq_true rfl) (Nat.le_of_ble_eq_true rfl) (Nat.le_of_ble_eq_true rfl) 0 (Nat.le_of_ble_eq_true rfl) ?_
  refine q_if_ne 22 dX10_noFlow_5 rfl (fun c5 => ?_) (fun c5 => ?_)
  · refine q_iload_n dX10_noFlow_22 rfl ?_
    refine q_callSv (ν := mX10_isBit) dX10_noFlow_23 uw_1057 vX10_isBit (c_X10_isBit hG S ((nI d))) rfl rfl (Nat.le_of_ble_eq_true rfl) (Nat.le_of_ble_eq_true rfl) (Nat.le_of_ble_eq_true rfl) 0 (Nat.le_of_ble_eq_true rfl) ?_
    refine q_if_eq 33 dX10_noFlow_26 rfl (fun c26 => ?_) (fun c26 => ?_)
    · exact absurd (two_ok h4) (pI_0 c26)
    · refine q_iconst (v := 1) dX10_noFlow_29 rfl ?_
      refine q_goto 34 dX10_noFlow_30 rfl ?_
      refine q_ist3 dX10_noFlow_34 (Nat.le_of_ble_eq_true rfl) rfl ?_
      refine q_aload_n dX10_noFlow_35 rfl ?_
      refine q_iload_n dX10_noFlow_36 rfl ?_
      refine q_if_ne 44 dX10_noFlow_37 rfl (fun c37 => ?_) (fun c37 => ?_)
      · refine q_aload_n dX10_noFlow_44 rfl ?_
        refine q_get (j := 1) (v := .ref 27) dX10_noFlow_45 (Nat.le_of_ble_eq_true rfl) rfl rfl iuX10 (Nat.le_of_ble_eq_true rfl) uw_925 rfl rfl ?_
        refine q_iload_n dX10_noFlow_48 rfl ?_
        refine q_callSv (ν := mX10_isSteady) dX10_noFlow_49 uw_1135 vX10_isSteady (c_X10_isSteady_27 hG S (d) (N) h1 h2 h4) rfl rfl (Nat.le_of_ble_eq_true rfl) (Nat.le_of_ble_eq_true rfl) (Nat.le_of_ble_eq_true rfl) 0 (Nat.le_of_ble_eq_true rfl) ?_
        refine q_if_ne 59 dX10_noFlow_52 rfl (fun c52 => ?_) (fun c52 => ?_)
        · refine q_iconst (v := 0) dX10_noFlow_59 rfl ?_
          refine q_callVv (ν := mX10_refused) dX10_noFlow_60 uw_1000 vX10_refused (c_X10_refused hG S (0)) (Nat.le_of_ble_eq_true rfl) rfl rfl rfl rfl (Nat.le_of_ble_eq_true rfl) (Nat.le_of_ble_eq_true rfl) (Nat.le_of_ble_eq_true rfl) 0 (Nat.le_of_ble_eq_true rfl) ?_
          refine wp_w (w2 := mixW g (s_RF S (0))) rfl ?_
          refine wp_top (y := 0) (pI_f (by decide)) ?_
          exact q_zret dX10_noFlow_63 rfl rfl ⟨rfl, rfl⟩
        · exact absurd h5 (pI_0 c52)
      · first | exact absurd (by decide) c37 | exact absurd c37 (by decide)
  · refine q_iload_n dX10_noFlow_8 rfl ?_
    refine q_i2l dX10_noFlow_9 ?_
    refine q_ldc2 dX10_noFlow_10 uw_1028 ?_
    refine q_ldc2 dX10_noFlow_13 uw_1029 ?_
    refine q_callSv (ν := mX10_in) dX10_noFlow_16 uw_997 vX10_in (c_X10_in hG S (((nI q : Int32).toInt64)) (8) (9)) rfl rfl (Nat.le_of_ble_eq_true rfl) (Nat.le_of_ble_eq_true rfl) (Nat.le_of_ble_eq_true rfl) 0 (Nat.le_of_ble_eq_true rfl) ?_
    refine wp_top (y := pI (8 ≤ (nI q) ∧ (nI q) ≤ 9)) (inI (l2 := 8) (u2 := 9) rfl rfl) ?_
    refine q_if_eq 33 dX10_noFlow_19 rfl (fun c19 => ?_) (fun c19 => ?_)
    · by_cases hq : q < N
      · exact absurd (cel_ok h1 h2 hq) (pI_0 c5)
      · exact absurd (rng_ok (v := q) (lo := 8) (hi := 9) (by omega) (by omega) (by omega)) (pI_0 c19)
    · refine q_iload_n dX10_noFlow_22 rfl ?_
      refine q_callSv (ν := mX10_isBit) dX10_noFlow_23 uw_1057 vX10_isBit (c_X10_isBit hG S ((nI d))) rfl rfl (Nat.le_of_ble_eq_true rfl) (Nat.le_of_ble_eq_true rfl) (Nat.le_of_ble_eq_true rfl) 0 (Nat.le_of_ble_eq_true rfl) ?_
      refine q_if_eq 33 dX10_noFlow_26 rfl (fun c26 => ?_) (fun c26 => ?_)
      · exact absurd (two_ok h4) (pI_0 c26)
      · refine q_iconst (v := 1) dX10_noFlow_29 rfl ?_
        refine q_goto 34 dX10_noFlow_30 rfl ?_
        refine q_ist3 dX10_noFlow_34 (Nat.le_of_ble_eq_true rfl) rfl ?_
        refine q_aload_n dX10_noFlow_35 rfl ?_
        refine q_iload_n dX10_noFlow_36 rfl ?_
        refine q_if_ne 44 dX10_noFlow_37 rfl (fun c37 => ?_) (fun c37 => ?_)
        · refine q_aload_n dX10_noFlow_44 rfl ?_
          refine q_get (j := 1) (v := .ref 27) dX10_noFlow_45 (Nat.le_of_ble_eq_true rfl) rfl rfl iuX10 (Nat.le_of_ble_eq_true rfl) uw_925 rfl rfl ?_
          refine q_iload_n dX10_noFlow_48 rfl ?_
          refine q_callSv (ν := mX10_isSteady) dX10_noFlow_49 uw_1135 vX10_isSteady (c_X10_isSteady_27 hG S (d) (N) h1 h2 h4) rfl rfl (Nat.le_of_ble_eq_true rfl) (Nat.le_of_ble_eq_true rfl) (Nat.le_of_ble_eq_true rfl) 0 (Nat.le_of_ble_eq_true rfl) ?_
          refine q_if_ne 59 dX10_noFlow_52 rfl (fun c52 => ?_) (fun c52 => ?_)
          · refine q_iconst (v := 0) dX10_noFlow_59 rfl ?_
            refine q_callVv (ν := mX10_refused) dX10_noFlow_60 uw_1000 vX10_refused (c_X10_refused hG S (0)) (Nat.le_of_ble_eq_true rfl) rfl rfl rfl rfl (Nat.le_of_ble_eq_true rfl) (Nat.le_of_ble_eq_true rfl) (Nat.le_of_ble_eq_true rfl) 0 (Nat.le_of_ble_eq_true rfl) ?_
            refine wp_w (w2 := mixW g (s_RF S (0))) rfl ?_
            refine wp_top (y := 0) (pI_f (by decide)) ?_
            exact q_zret dX10_noFlow_63 rfl rfl ⟨rfl, rfl⟩
          · exact absurd h5 (pI_0 c52)
        · first | exact absurd (by decide) c37 | exact absurd c37 (by decide)
set_option maxRecDepth 100000 in
set_option maxHeartbeats 4000000 in
theorem c_X10_noFlow_x2 {g : G0} (hG : Gd g) (S : SS) (q : Nat) (d : Nat) (N : Nat) (h1 : (z_NW S) 0 = nI N) (h2 : N ≤ 6) (h3 : (q < N ∨ q = 8 ∨ q = 9)) (h4 : d < 2) (h5 : ¬ SM (z_NW S) N d) : ctv g mX10_noFlow [.ref 26, .int (nI q), .int (nI d)] (mixW g S) (.int (1)) (mixW g (s_RF S (2))) := by
  refine ct_of hG [some (.ref 26), some (.int (nI q)), some (.int (nI d)), none] rfl rfl rfl (Nat.le_of_ble_eq_true rfl) (fun h => ?_) rfl
  refine q_aload_n dX10_noFlow_0 rfl ?_
  refine q_iload_n dX10_noFlow_1 rfl ?_
  refine q_callVv (ν := mX10_isCell) dX10_noFlow_2 uw_1053 vX10_isCell (c_X10_isCell hG S ((nI q)) (N) h1 h2) (Nat.le_of_ble_eq_true rfl) rfl rfl rfl rfl (Nat.le_of_ble_eq_true rfl) (Nat.le_of_ble_eq_true rfl) (Nat.le_of_ble_eq_true rfl) 0 (Nat.le_of_ble_eq_true rfl) ?_
  refine q_if_ne 22 dX10_noFlow_5 rfl (fun c5 => ?_) (fun c5 => ?_)
  · refine q_iload_n dX10_noFlow_22 rfl ?_
    refine q_callSv (ν := mX10_isBit) dX10_noFlow_23 uw_1057 vX10_isBit (c_X10_isBit hG S ((nI d))) rfl rfl (Nat.le_of_ble_eq_true rfl) (Nat.le_of_ble_eq_true rfl) (Nat.le_of_ble_eq_true rfl) 0 (Nat.le_of_ble_eq_true rfl) ?_
    refine q_if_eq 33 dX10_noFlow_26 rfl (fun c26 => ?_) (fun c26 => ?_)
    · exact absurd (two_ok h4) (pI_0 c26)
    · refine q_iconst (v := 1) dX10_noFlow_29 rfl ?_
      refine q_goto 34 dX10_noFlow_30 rfl ?_
      refine q_ist3 dX10_noFlow_34 (Nat.le_of_ble_eq_true rfl) rfl ?_
      refine q_aload_n dX10_noFlow_35 rfl ?_
      refine q_iload_n dX10_noFlow_36 rfl ?_
      refine q_if_ne 44 dX10_noFlow_37 rfl (fun c37 => ?_) (fun c37 => ?_)
      · refine q_aload_n dX10_noFlow_44 rfl ?_
        refine q_get (j := 1) (v := .ref 27) dX10_noFlow_45 (Nat.le_of_ble_eq_true rfl) rfl rfl iuX10 (Nat.le_of_ble_eq_true rfl) uw_925 rfl rfl ?_
        refine q_iload_n dX10_noFlow_48 rfl ?_
        refine q_callSv (ν := mX10_isSteady) dX10_noFlow_49 uw_1135 vX10_isSteady (c_X10_isSteady_27 hG S (d) (N) h1 h2 h4) rfl rfl (Nat.le_of_ble_eq_true rfl) (Nat.le_of_ble_eq_true rfl) (Nat.le_of_ble_eq_true rfl) 0 (Nat.le_of_ble_eq_true rfl) ?_
        refine q_if_ne 59 dX10_noFlow_52 rfl (fun c52 => ?_) (fun c52 => ?_)
        · exact absurd (pI_1 c52) h5
        · refine q_iconst (v := 2) dX10_noFlow_55 rfl ?_
          refine q_goto 60 dX10_noFlow_56 rfl ?_
          refine q_callVv (ν := mX10_refused) dX10_noFlow_60 uw_1000 vX10_refused (c_X10_refused hG S (2)) (Nat.le_of_ble_eq_true rfl) rfl rfl rfl rfl (Nat.le_of_ble_eq_true rfl) (Nat.le_of_ble_eq_true rfl) (Nat.le_of_ble_eq_true rfl) 0 (Nat.le_of_ble_eq_true rfl) ?_
          refine wp_w (w2 := mixW g (s_RF S (2))) rfl ?_
          refine wp_top (y := 1) (pI_t (by decide)) ?_
          exact q_zret dX10_noFlow_63 rfl rfl ⟨rfl, rfl⟩
      · first | exact absurd (by decide) c37 | exact absurd c37 (by decide)
  · refine q_iload_n dX10_noFlow_8 rfl ?_
    refine q_i2l dX10_noFlow_9 ?_
    refine q_ldc2 dX10_noFlow_10 uw_1028 ?_
    refine q_ldc2 dX10_noFlow_13 uw_1029 ?_
    refine q_callSv (ν := mX10_in) dX10_noFlow_16 uw_997 vX10_in (c_X10_in hG S (((nI q : Int32).toInt64)) (8) (9)) rfl rfl (Nat.le_of_ble_eq_true rfl) (Nat.le_of_ble_eq_true rfl) (Nat.le_of_ble_eq_true rfl) 0 (Nat.le_of_ble_eq_true rfl) ?_
    refine wp_top (y := pI (8 ≤ (nI q) ∧ (nI q) ≤ 9)) (inI (l2 := 8) (u2 := 9) rfl rfl) ?_
    refine q_if_eq 33 dX10_noFlow_19 rfl (fun c19 => ?_) (fun c19 => ?_)
    · by_cases hq : q < N
      · exact absurd (cel_ok h1 h2 hq) (pI_0 c5)
      · exact absurd (rng_ok (v := q) (lo := 8) (hi := 9) (by omega) (by omega) (by omega)) (pI_0 c19)
    · refine q_iload_n dX10_noFlow_22 rfl ?_
      refine q_callSv (ν := mX10_isBit) dX10_noFlow_23 uw_1057 vX10_isBit (c_X10_isBit hG S ((nI d))) rfl rfl (Nat.le_of_ble_eq_true rfl) (Nat.le_of_ble_eq_true rfl) (Nat.le_of_ble_eq_true rfl) 0 (Nat.le_of_ble_eq_true rfl) ?_
      refine q_if_eq 33 dX10_noFlow_26 rfl (fun c26 => ?_) (fun c26 => ?_)
      · exact absurd (two_ok h4) (pI_0 c26)
      · refine q_iconst (v := 1) dX10_noFlow_29 rfl ?_
        refine q_goto 34 dX10_noFlow_30 rfl ?_
        refine q_ist3 dX10_noFlow_34 (Nat.le_of_ble_eq_true rfl) rfl ?_
        refine q_aload_n dX10_noFlow_35 rfl ?_
        refine q_iload_n dX10_noFlow_36 rfl ?_
        refine q_if_ne 44 dX10_noFlow_37 rfl (fun c37 => ?_) (fun c37 => ?_)
        · refine q_aload_n dX10_noFlow_44 rfl ?_
          refine q_get (j := 1) (v := .ref 27) dX10_noFlow_45 (Nat.le_of_ble_eq_true rfl) rfl rfl iuX10 (Nat.le_of_ble_eq_true rfl) uw_925 rfl rfl ?_
          refine q_iload_n dX10_noFlow_48 rfl ?_
          refine q_callSv (ν := mX10_isSteady) dX10_noFlow_49 uw_1135 vX10_isSteady (c_X10_isSteady_27 hG S (d) (N) h1 h2 h4) rfl rfl (Nat.le_of_ble_eq_true rfl) (Nat.le_of_ble_eq_true rfl) (Nat.le_of_ble_eq_true rfl) 0 (Nat.le_of_ble_eq_true rfl) ?_
          refine q_if_ne 59 dX10_noFlow_52 rfl (fun c52 => ?_) (fun c52 => ?_)
          · exact absurd (pI_1 c52) h5
          · refine q_iconst (v := 2) dX10_noFlow_55 rfl ?_
            refine q_goto 60 dX10_noFlow_56 rfl ?_
            refine q_callVv (ν := mX10_refused) dX10_noFlow_60 uw_1000 vX10_refused (c_X10_refused hG S (2)) (Nat.le_of_ble_eq_true rfl) rfl rfl rfl rfl (Nat.le_of_ble_eq_true rfl) (Nat.le_of_ble_eq_true rfl) (Nat.le_of_ble_eq_true rfl) 0 (Nat.le_of_ble_eq_true rfl) ?_
            refine wp_w (w2 := mixW g (s_RF S (2))) rfl ?_
            refine wp_top (y := 1) (pI_t (by decide)) ?_
            exact q_zret dX10_noFlow_63 rfl rfl ⟨rfl, rfl⟩
        · first | exact absurd (by decide) c37 | exact absurd c37 (by decide)
set_option maxRecDepth 100000 in
set_option maxHeartbeats 4000000 in
theorem c_X10_noFlow_x1 {g : G0} (hG : Gd g) (S : SS) (x : Int32) (y : Int32) (N : Nat) (h1 : (z_NW S) 0 = nI N) (h2 : N ≤ 6) (h3 : ¬ (((0 ≤ x ∧ x < (z_NW S) 0) ∨ (8 ≤ x ∧ x ≤ 9)) ∧ (y = 0 ∨ y = 1))) : ctv g mX10_noFlow [.ref 26, .int x, .int y] (mixW g S) (.int (1)) (mixW g (s_RF S (1))) := by
  refine ct_of hG [some (.ref 26), some (.int (x)), some (.int (y)), none] rfl rfl rfl (Nat.le_of_ble_eq_true rfl) (fun h => ?_) rfl
  refine q_aload_n dX10_noFlow_0 rfl ?_
  refine q_iload_n dX10_noFlow_1 rfl ?_
  refine q_callVv (ν := mX10_isCell) dX10_noFlow_2 uw_1053 vX10_isCell (c_X10_isCell hG S (x) (N) h1 h2) (Nat.le_of_ble_eq_true rfl) rfl rfl rfl rfl (Nat.le_of_ble_eq_true rfl) (Nat.le_of_ble_eq_true rfl) (Nat.le_of_ble_eq_true rfl) 0 (Nat.le_of_ble_eq_true rfl) ?_
  refine q_if_ne 22 dX10_noFlow_5 rfl (fun c5 => ?_) (fun c5 => ?_)
  · refine q_iload_n dX10_noFlow_22 rfl ?_
    refine q_callSv (ν := mX10_isBit) dX10_noFlow_23 uw_1057 vX10_isBit (c_X10_isBit hG S (y)) rfl rfl (Nat.le_of_ble_eq_true rfl) (Nat.le_of_ble_eq_true rfl) (Nat.le_of_ble_eq_true rfl) 0 (Nat.le_of_ble_eq_true rfl) ?_
    refine q_if_eq 33 dX10_noFlow_26 rfl (fun c26 => ?_) (fun c26 => ?_)
    · refine q_iconst (v := 0) dX10_noFlow_33 rfl ?_
      refine q_ist3 dX10_noFlow_34 (Nat.le_of_ble_eq_true rfl) rfl ?_
      refine q_aload_n dX10_noFlow_35 rfl ?_
      refine q_iload_n dX10_noFlow_36 rfl ?_
      refine q_if_ne 44 dX10_noFlow_37 rfl (fun c37 => ?_) (fun c37 => ?_)
      · first | exact absurd (by decide) c37 | exact absurd c37 (by decide)
      · refine q_iconst (v := 1) dX10_noFlow_40 rfl ?_
        refine q_goto 60 dX10_noFlow_41 rfl ?_
        refine q_callVv (ν := mX10_refused) dX10_noFlow_60 uw_1000 vX10_refused (c_X10_refused hG S (1)) (Nat.le_of_ble_eq_true rfl) rfl rfl rfl rfl (Nat.le_of_ble_eq_true rfl) (Nat.le_of_ble_eq_true rfl) (Nat.le_of_ble_eq_true rfl) 0 (Nat.le_of_ble_eq_true rfl) ?_
        refine wp_w (w2 := mixW g (s_RF S (1))) rfl ?_
        refine wp_top (y := 1) (pI_t (by decide)) ?_
        exact q_zret dX10_noFlow_63 rfl rfl ⟨rfl, rfl⟩
    · first | exact (h3 ⟨Or.inl (pI_1 c5), pI_1 c26⟩).elim | exact (h3 ⟨Or.inr (pI_1 c19), pI_1 c26⟩).elim
  · refine q_iload_n dX10_noFlow_8 rfl ?_
    refine q_i2l dX10_noFlow_9 ?_
    refine q_ldc2 dX10_noFlow_10 uw_1028 ?_
    refine q_ldc2 dX10_noFlow_13 uw_1029 ?_
    refine q_callSv (ν := mX10_in) dX10_noFlow_16 uw_997 vX10_in (c_X10_in hG S (((x : Int32).toInt64)) (8) (9)) rfl rfl (Nat.le_of_ble_eq_true rfl) (Nat.le_of_ble_eq_true rfl) (Nat.le_of_ble_eq_true rfl) 0 (Nat.le_of_ble_eq_true rfl) ?_
    refine wp_top (y := pI (8 ≤ x ∧ x ≤ 9)) (inI (l2 := 8) (u2 := 9) rfl rfl) ?_
    refine q_if_eq 33 dX10_noFlow_19 rfl (fun c19 => ?_) (fun c19 => ?_)
    · refine q_iconst (v := 0) dX10_noFlow_33 rfl ?_
      refine q_ist3 dX10_noFlow_34 (Nat.le_of_ble_eq_true rfl) rfl ?_
      refine q_aload_n dX10_noFlow_35 rfl ?_
      refine q_iload_n dX10_noFlow_36 rfl ?_
      refine q_if_ne 44 dX10_noFlow_37 rfl (fun c37 => ?_) (fun c37 => ?_)
      · first | exact absurd (by decide) c37 | exact absurd c37 (by decide)
      · refine q_iconst (v := 1) dX10_noFlow_40 rfl ?_
        refine q_goto 60 dX10_noFlow_41 rfl ?_
        refine q_callVv (ν := mX10_refused) dX10_noFlow_60 uw_1000 vX10_refused (c_X10_refused hG S (1)) (Nat.le_of_ble_eq_true rfl) rfl rfl rfl rfl (Nat.le_of_ble_eq_true rfl) (Nat.le_of_ble_eq_true rfl) (Nat.le_of_ble_eq_true rfl) 0 (Nat.le_of_ble_eq_true rfl) ?_
        refine wp_w (w2 := mixW g (s_RF S (1))) rfl ?_
        refine wp_top (y := 1) (pI_t (by decide)) ?_
        exact q_zret dX10_noFlow_63 rfl rfl ⟨rfl, rfl⟩
    · refine q_iload_n dX10_noFlow_22 rfl ?_
      refine q_callSv (ν := mX10_isBit) dX10_noFlow_23 uw_1057 vX10_isBit (c_X10_isBit hG S (y)) rfl rfl (Nat.le_of_ble_eq_true rfl) (Nat.le_of_ble_eq_true rfl) (Nat.le_of_ble_eq_true rfl) 0 (Nat.le_of_ble_eq_true rfl) ?_
      refine q_if_eq 33 dX10_noFlow_26 rfl (fun c26 => ?_) (fun c26 => ?_)
      · refine q_iconst (v := 0) dX10_noFlow_33 rfl ?_
        refine q_ist3 dX10_noFlow_34 (Nat.le_of_ble_eq_true rfl) rfl ?_
        refine q_aload_n dX10_noFlow_35 rfl ?_
        refine q_iload_n dX10_noFlow_36 rfl ?_
        refine q_if_ne 44 dX10_noFlow_37 rfl (fun c37 => ?_) (fun c37 => ?_)
        · first | exact absurd (by decide) c37 | exact absurd c37 (by decide)
        · refine q_iconst (v := 1) dX10_noFlow_40 rfl ?_
          refine q_goto 60 dX10_noFlow_41 rfl ?_
          refine q_callVv (ν := mX10_refused) dX10_noFlow_60 uw_1000 vX10_refused (c_X10_refused hG S (1)) (Nat.le_of_ble_eq_true rfl) rfl rfl rfl rfl (Nat.le_of_ble_eq_true rfl) (Nat.le_of_ble_eq_true rfl) (Nat.le_of_ble_eq_true rfl) 0 (Nat.le_of_ble_eq_true rfl) ?_
          refine wp_w (w2 := mixW g (s_RF S (1))) rfl ?_
          refine wp_top (y := 1) (pI_t (by decide)) ?_
          exact q_zret dX10_noFlow_63 rfl rfl ⟨rfl, rfl⟩
      · first | exact (h3 ⟨Or.inl (pI_1 c5), pI_1 c26⟩).elim | exact (h3 ⟨Or.inr (pI_1 c19), pI_1 c26⟩).elim
set_option maxRecDepth 100000 in
set_option maxHeartbeats 4000000 in
theorem c_X10_flowNumerator {g : G0} (hG : Gd g) (S : SS) (q : Nat) (d : Nat) (N : Nat) (h1 : (z_NW S) 0 = nI N) (h2 : N ≤ 6) (h3 : (q < N ∨ q = 8 ∨ q = 9)) (h4 : d < 2) (h5 : SM (z_NW S) N d) (h6 : fOk (z_NW S) d N q) : ct g mX10_flowNumerator [.ref 26, .int (nI q), .int (nI d)] (mixW g S) (fun v w1 => v = some (.long (uqM (z_NW S) d N q)) ∧ ∃ mx rt mo u l, w1 = mixW g (s_RF (s_UP (s_LO (s_MX (s_RT (s_MO S mo) rt) mx) l) u) 0)) (fun _ _ => False) := by
  refine ct_of hG [some (.ref 26), some (.int (nI q)), some (.int (nI d))] rfl rfl rfl (Nat.le_of_ble_eq_true rfl) (fun h => ?_) rfl
  refine q_aload_n dX10_flowNumerator_0 rfl ?_
  refine q_iload_n dX10_flowNumerator_1 rfl ?_
  refine q_iload_n dX10_flowNumerator_2 rfl ?_
  refine q_callVv (ν := mX10_noFlow) dX10_flowNumerator_3 uw_1145 vX10_noFlow (c_X10_noFlow hG S (q) (d) (N) h1 h2 h3 h4 h5) (Nat.le_of_ble_eq_true rfl) rfl rfl rfl rfl (Nat.le_of_ble_eq_true rfl) (Nat.le_of_ble_eq_true rfl) (Nat.le_of_ble_eq_true rfl) 0 (Nat.le_of_ble_eq_true rfl) ?_
  refine wp_w (w2 := mixW g (s_RF S (0))) rfl ?_
  refine q_if_eq 11 dX10_flowNumerator_6 rfl (fun c6 => ?_) (fun c6 => ?_)
  · refine q_aload_n dX10_flowNumerator_11 rfl ?_
    refine q_aload_n dX10_flowNumerator_12 rfl ?_
    refine q_get (j := 1) (v := .ref 27) dX10_flowNumerator_13 (Nat.le_of_ble_eq_true rfl) rfl rfl iuX10 (Nat.le_of_ble_eq_true rfl) uw_925 rfl rfl ?_
    refine q_iload_n dX10_flowNumerator_16 rfl ?_
    refine q_iload_n dX10_flowNumerator_17 rfl ?_
    refine q_callVg (ν := mX10_findFlow) dX10_flowNumerator_18 uw_1149 vX10_findFlow (c_X10_findFlow_27 hG (s_RF S (0)) (q) (d) (N) h1 h2 h4 h6 (by omega)) (Nat.le_of_ble_eq_true rfl) rfl rfl rfl rfl (Nat.le_of_ble_eq_true rfl) (Nat.le_of_ble_eq_true rfl) (Nat.le_of_ble_eq_true rfl) 0 (Nat.le_of_ble_eq_true rfl) rfl (fun _ _ z => z.elim) (fun v w1 hv => ?_)
    obtain ⟨rfl, mx, rt, mo, rfl⟩ := hv
    · refine wp_eq (st2 := []) rfl ?_
      rw [sc_MO_RF, sc_RT_RF, sc_MX_RF, sc_LO_RF, sc_UP_RF]
      refine wp_w (w2 := mixW g (s_RF (s_UP (s_LO (s_MX (s_RT (s_MO S mo) rt) mx) (lqM (z_NW S) d N q)) (uqM (z_NW S) d N q)) (0))) rfl ?_
      refine q_aload_n dX10_flowNumerator_21 rfl ?_
      refine q_get (j := 19) (v := .long ((uqM (z_NW S) d N q))) dX10_flowNumerator_22 (Nat.le_of_ble_eq_true rfl) rfl rfl iuX10 (Nat.le_of_ble_eq_true rfl) uw_943 rfl rfl ?_
      exact q_lret dX10_flowNumerator_25 rfl ⟨rfl, _, _, _, _, _, rfl⟩
  · first | exact absurd (by decide) c6 | exact absurd c6 (by decide)
set_option maxRecDepth 100000 in
set_option maxHeartbeats 4000000 in
theorem c_X10_flowNumerator_x2 {g : G0} (hG : Gd g) (S : SS) (q : Nat) (d : Nat) (N : Nat) (h1 : (z_NW S) 0 = nI N) (h2 : N ≤ 6) (h3 : (q < N ∨ q = 8 ∨ q = 9)) (h4 : d < 2) (h5 : ¬ SM (z_NW S) N d) : ctv g mX10_flowNumerator [.ref 26, .int (nI q), .int (nI d)] (mixW g S) (.long (0)) (mixW g (s_RF S (2))) := by
  refine ct_of hG [some (.ref 26), some (.int (nI q)), some (.int (nI d))] rfl rfl rfl (Nat.le_of_ble_eq_true rfl) (fun h => ?_) rfl
  refine q_aload_n dX10_flowNumerator_0 rfl ?_
  refine q_iload_n dX10_flowNumerator_1 rfl ?_
  refine q_iload_n dX10_flowNumerator_2 rfl ?_
  refine q_callVv (ν := mX10_noFlow) dX10_flowNumerator_3 uw_1145 vX10_noFlow (c_X10_noFlow_x2 hG S (q) (d) (N) h1 h2 h3 h4 h5) (Nat.le_of_ble_eq_true rfl) rfl rfl rfl rfl (Nat.le_of_ble_eq_true rfl) (Nat.le_of_ble_eq_true rfl) (Nat.le_of_ble_eq_true rfl) 0 (Nat.le_of_ble_eq_true rfl) ?_
  refine wp_w (w2 := mixW g (s_RF S (2))) rfl ?_
  refine q_if_eq 11 dX10_flowNumerator_6 rfl (fun c6 => ?_) (fun c6 => ?_)
  · first | exact absurd (by decide) c6 | exact absurd c6 (by decide)
  · refine q_lconst (v := 0) dX10_flowNumerator_9 rfl ?_
    exact q_lret dX10_flowNumerator_10 rfl ⟨rfl, rfl⟩
set_option maxRecDepth 100000 in
set_option maxHeartbeats 4000000 in
theorem c_X10_flowNumerator_x1 {g : G0} (hG : Gd g) (S : SS) (x : Int32) (y : Int32) (N : Nat) (h1 : (z_NW S) 0 = nI N) (h2 : N ≤ 6) (h3 : ¬ (((0 ≤ x ∧ x < (z_NW S) 0) ∨ (8 ≤ x ∧ x ≤ 9)) ∧ (y = 0 ∨ y = 1))) : ctv g mX10_flowNumerator [.ref 26, .int x, .int y] (mixW g S) (.long (0)) (mixW g (s_RF S (1))) := by
  refine ct_of hG [some (.ref 26), some (.int (x)), some (.int (y))] rfl rfl rfl (Nat.le_of_ble_eq_true rfl) (fun h => ?_) rfl
  refine q_aload_n dX10_flowNumerator_0 rfl ?_
  refine q_iload_n dX10_flowNumerator_1 rfl ?_
  refine q_iload_n dX10_flowNumerator_2 rfl ?_
  refine q_callVv (ν := mX10_noFlow) dX10_flowNumerator_3 uw_1145 vX10_noFlow (c_X10_noFlow_x1 hG S (x) (y) (N) h1 h2 h3) (Nat.le_of_ble_eq_true rfl) rfl rfl rfl rfl (Nat.le_of_ble_eq_true rfl) (Nat.le_of_ble_eq_true rfl) (Nat.le_of_ble_eq_true rfl) 0 (Nat.le_of_ble_eq_true rfl) ?_
  refine wp_w (w2 := mixW g (s_RF S (1))) rfl ?_
  refine q_if_eq 11 dX10_flowNumerator_6 rfl (fun c6 => ?_) (fun c6 => ?_)
  · first | exact absurd (by decide) c6 | exact absurd c6 (by decide)
  · refine q_lconst (v := 0) dX10_flowNumerator_9 rfl ?_
    exact q_lret dX10_flowNumerator_10 rfl ⟨rfl, rfl⟩
set_option maxRecDepth 100000 in
set_option maxHeartbeats 4000000 in
theorem c_X10_flowDenominator {g : G0} (hG : Gd g) (S : SS) (q : Nat) (d : Nat) (N : Nat) (h1 : (z_NW S) 0 = nI N) (h2 : N ≤ 6) (h3 : (q < N ∨ q = 8 ∨ q = 9)) (h4 : d < 2) (h5 : SM (z_NW S) N d) (h6 : fOk (z_NW S) d N q) : ct g mX10_flowDenominator [.ref 26, .int (nI q), .int (nI d)] (mixW g S) (fun v w1 => v = some (.long (lqM (z_NW S) d N q)) ∧ ∃ mx rt mo u l, w1 = mixW g (s_RF (s_UP (s_LO (s_MX (s_RT (s_MO S mo) rt) mx) l) u) 0)) (fun _ _ => False) := by
  refine ct_of hG [some (.ref 26), some (.int (nI q)), some (.int (nI d))] rfl rfl rfl (Nat.le_of_ble_eq_true rfl) (fun h => ?_) rfl
  refine q_aload_n dX10_flowDenominator_0 rfl ?_
  refine q_iload_n dX10_flowDenominator_1 rfl ?_
  refine q_iload_n dX10_flowDenominator_2 rfl ?_
  refine q_callVv (ν := mX10_noFlow) dX10_flowDenominator_3 uw_1145 vX10_noFlow (c_X10_noFlow hG S (q) (d) (N) h1 h2 h3 h4 h5) (Nat.le_of_ble_eq_true rfl) rfl rfl rfl rfl (Nat.le_of_ble_eq_true rfl) (Nat.le_of_ble_eq_true rfl) (Nat.le_of_ble_eq_true rfl) 0 (Nat.le_of_ble_eq_true rfl) ?_
  refine wp_w (w2 := mixW g (s_RF S (0))) rfl ?_
  refine q_if_eq 11 dX10_flowDenominator_6 rfl (fun c6 => ?_) (fun c6 => ?_)
  · refine q_aload_n dX10_flowDenominator_11 rfl ?_
    refine q_aload_n dX10_flowDenominator_12 rfl ?_
    refine q_get (j := 1) (v := .ref 27) dX10_flowDenominator_13 (Nat.le_of_ble_eq_true rfl) rfl rfl iuX10 (Nat.le_of_ble_eq_true rfl) uw_925 rfl rfl ?_
    refine q_iload_n dX10_flowDenominator_16 rfl ?_
    refine q_iload_n dX10_flowDenominator_17 rfl ?_
    refine q_callVg (ν := mX10_findFlow) dX10_flowDenominator_18 uw_1149 vX10_findFlow (c_X10_findFlow_27 hG (s_RF S (0)) (q) (d) (N) h1 h2 h4 h6 (by omega)) (Nat.le_of_ble_eq_true rfl) rfl rfl rfl rfl (Nat.le_of_ble_eq_true rfl) (Nat.le_of_ble_eq_true rfl) (Nat.le_of_ble_eq_true rfl) 0 (Nat.le_of_ble_eq_true rfl) rfl (fun _ _ z => z.elim) (fun v w1 hv => ?_)
    obtain ⟨rfl, mx, rt, mo, rfl⟩ := hv
    · refine wp_eq (st2 := []) rfl ?_
      rw [sc_MO_RF, sc_RT_RF, sc_MX_RF, sc_LO_RF, sc_UP_RF]
      refine wp_w (w2 := mixW g (s_RF (s_UP (s_LO (s_MX (s_RT (s_MO S mo) rt) mx) (lqM (z_NW S) d N q)) (uqM (z_NW S) d N q)) (0))) rfl ?_
      refine q_aload_n dX10_flowDenominator_21 rfl ?_
      refine q_get (j := 20) (v := .long ((lqM (z_NW S) d N q))) dX10_flowDenominator_22 (Nat.le_of_ble_eq_true rfl) rfl rfl iuX10 (Nat.le_of_ble_eq_true rfl) uw_944 rfl rfl ?_
      exact q_lret dX10_flowDenominator_25 rfl ⟨rfl, _, _, _, _, _, rfl⟩
  · first | exact absurd (by decide) c6 | exact absurd c6 (by decide)
set_option maxRecDepth 100000 in
set_option maxHeartbeats 4000000 in
theorem c_X10_flowDenominator_x2 {g : G0} (hG : Gd g) (S : SS) (q : Nat) (d : Nat) (N : Nat) (h1 : (z_NW S) 0 = nI N) (h2 : N ≤ 6) (h3 : (q < N ∨ q = 8 ∨ q = 9)) (h4 : d < 2) (h5 : ¬ SM (z_NW S) N d) : ctv g mX10_flowDenominator [.ref 26, .int (nI q), .int (nI d)] (mixW g S) (.long (0)) (mixW g (s_RF S (2))) := by
  refine ct_of hG [some (.ref 26), some (.int (nI q)), some (.int (nI d))] rfl rfl rfl (Nat.le_of_ble_eq_true rfl) (fun h => ?_) rfl
  refine q_aload_n dX10_flowDenominator_0 rfl ?_
  refine q_iload_n dX10_flowDenominator_1 rfl ?_
  refine q_iload_n dX10_flowDenominator_2 rfl ?_
  refine q_callVv (ν := mX10_noFlow) dX10_flowDenominator_3 uw_1145 vX10_noFlow (c_X10_noFlow_x2 hG S (q) (d) (N) h1 h2 h3 h4 h5) (Nat.le_of_ble_eq_true rfl) rfl rfl rfl rfl (Nat.le_of_ble_eq_true rfl) (Nat.le_of_ble_eq_true rfl) (Nat.le_of_ble_eq_true rfl) 0 (Nat.le_of_ble_eq_true rfl) ?_
  refine wp_w (w2 := mixW g (s_RF S (2))) rfl ?_
  refine q_if_eq 11 dX10_flowDenominator_6 rfl (fun c6 => ?_) (fun c6 => ?_)
  · first | exact absurd (by decide) c6 | exact absurd c6 (by decide)
  · refine q_lconst (v := 0) dX10_flowDenominator_9 rfl ?_
    exact q_lret dX10_flowDenominator_10 rfl ⟨rfl, rfl⟩
set_option maxRecDepth 100000 in
set_option maxHeartbeats 4000000 in
theorem c_X10_flowDenominator_x1 {g : G0} (hG : Gd g) (S : SS) (x : Int32) (y : Int32) (N : Nat) (h1 : (z_NW S) 0 = nI N) (h2 : N ≤ 6) (h3 : ¬ (((0 ≤ x ∧ x < (z_NW S) 0) ∨ (8 ≤ x ∧ x ≤ 9)) ∧ (y = 0 ∨ y = 1))) : ctv g mX10_flowDenominator [.ref 26, .int x, .int y] (mixW g S) (.long (0)) (mixW g (s_RF S (1))) := by
  refine ct_of hG [some (.ref 26), some (.int (x)), some (.int (y))] rfl rfl rfl (Nat.le_of_ble_eq_true rfl) (fun h => ?_) rfl
  refine q_aload_n dX10_flowDenominator_0 rfl ?_
  refine q_iload_n dX10_flowDenominator_1 rfl ?_
  refine q_iload_n dX10_flowDenominator_2 rfl ?_
  refine q_callVv (ν := mX10_noFlow) dX10_flowDenominator_3 uw_1145 vX10_noFlow (c_X10_noFlow_x1 hG S (x) (y) (N) h1 h2 h3) (Nat.le_of_ble_eq_true rfl) rfl rfl rfl rfl (Nat.le_of_ble_eq_true rfl) (Nat.le_of_ble_eq_true rfl) (Nat.le_of_ble_eq_true rfl) 0 (Nat.le_of_ble_eq_true rfl) ?_
  refine wp_w (w2 := mixW g (s_RF S (1))) rfl ?_
  refine q_if_eq 11 dX10_flowDenominator_6 rfl (fun c6 => ?_) (fun c6 => ?_)
  · first | exact absurd (by decide) c6 | exact absurd c6 (by decide)
  · refine q_lconst (v := 0) dX10_flowDenominator_9 rfl ?_
    exact q_lret dX10_flowDenominator_10 rfl ⟨rfl, rfl⟩
set_option maxRecDepth 100000 in
set_option maxHeartbeats 4000000 in
theorem c_X10_totalRecovery {g : G0} (hG : Gd g) (S : SS)  (N : Nat) (h1 : (z_NW S) 0 = nI N) (h2 : N ≤ 6) (h3 : SM (z_NW S) N 0 ∧ SM (z_NW S) N 1) (h4 : rOk (z_NW S) N) : ct g mX10_totalRecovery [.ref 26] (mixW g S) (fun v w1 => v = some (.int (recM (z_NW S) N)) ∧ ∃ mx rt mo u l, w1 = mixW g (s_RF (s_UP (s_LO (s_MX (s_RT (s_MO S mo) rt) mx) l) u) 0)) (fun _ _ => False) := by
  refine ct_of hG [some (.ref 26)] rfl rfl rfl (Nat.le_of_ble_eq_true rfl) (fun h => ?_) rfl
  refine q_aload_n dX10_totalRecovery_0 rfl ?_
  refine q_aload_n dX10_totalRecovery_1 rfl ?_
  refine q_get (j := 1) (v := .ref 27) dX10_totalRecovery_2 (Nat.le_of_ble_eq_true rfl) rfl rfl iuX10 (Nat.le_of_ble_eq_true rfl) uw_925 rfl rfl ?_
  refine q_callSv (ν := mX10_isSteadyAll) dX10_totalRecovery_5 uw_1132 vX10_isSteadyAll (c_X10_isSteadyAll_27 hG S (N) h1 h2) rfl rfl (Nat.le_of_ble_eq_true rfl) (Nat.le_of_ble_eq_true rfl) (Nat.le_of_ble_eq_true rfl) 0 (Nat.le_of_ble_eq_true rfl) ?_
  refine q_if_eq 15 dX10_totalRecovery_8 rfl (fun c8 => ?_) (fun c8 => ?_)
  · exact absurd h3 (pI_0 c8)
  · refine q_iconst (v := 0) dX10_totalRecovery_11 rfl ?_
    refine q_goto 16 dX10_totalRecovery_12 rfl ?_
    refine q_callVv (ν := mX10_refused) dX10_totalRecovery_16 uw_1000 vX10_refused (c_X10_refused hG S (0)) (Nat.le_of_ble_eq_true rfl) rfl rfl rfl rfl (Nat.le_of_ble_eq_true rfl) (Nat.le_of_ble_eq_true rfl) (Nat.le_of_ble_eq_true rfl) 0 (Nat.le_of_ble_eq_true rfl) ?_
    refine wp_w (w2 := mixW g (s_RF S (0))) rfl ?_
    refine wp_top (y := 0) (pI_f (by decide)) ?_
    refine q_if_eq 24 dX10_totalRecovery_19 rfl (fun c19 => ?_) (fun c19 => ?_)
    · refine q_aload_n dX10_totalRecovery_24 rfl ?_
      refine q_aload_n dX10_totalRecovery_25 rfl ?_
      refine q_get (j := 1) (v := .ref 27) dX10_totalRecovery_26 (Nat.le_of_ble_eq_true rfl) rfl rfl iuX10 (Nat.le_of_ble_eq_true rfl) uw_925 rfl rfl ?_
      refine q_callVg (ν := mX10_recoveryOf) dX10_totalRecovery_29 uw_1175 vX10_recoveryOf (c_X10_recoveryOf_27 hG (s_RF S (0)) (N) h1 h2 h4) (Nat.le_of_ble_eq_true rfl) rfl rfl rfl rfl (Nat.le_of_ble_eq_true rfl) (Nat.le_of_ble_eq_true rfl) (Nat.le_of_ble_eq_true rfl) 0 (Nat.le_of_ble_eq_true rfl) rfl (fun _ _ z => z.elim) (fun v w1 hv => ?_)
      obtain ⟨rfl, mx, rt, mo, u, l, rfl⟩ := hv
      · refine wp_eq (st2 := [.int ((recM (z_NW S) N))]) rfl ?_
        rw [sc_MO_RF, sc_RT_RF, sc_MX_RF, sc_LO_RF, sc_UP_RF]
        refine wp_w (w2 := mixW g (s_RF (s_UP (s_LO (s_MX (s_RT (s_MO S mo) rt) mx) l) u) (0))) rfl ?_
        exact q_iret dX10_totalRecovery_32 rfl ⟨rfl, _, _, _, _, _, rfl⟩
    · first | exact absurd (by decide) c19 | exact absurd c19 (by decide)
set_option maxRecDepth 100000 in
set_option maxHeartbeats 4000000 in
theorem c_X10_totalRecovery_x {g : G0} (hG : Gd g) (S : SS)  (N : Nat) (h1 : (z_NW S) 0 = nI N) (h2 : N ≤ 6) (h3 : ¬ (SM (z_NW S) N 0 ∧ SM (z_NW S) N 1)) : ctv g mX10_totalRecovery [.ref 26] (mixW g S) (.int (0)) (mixW g (s_RF S (1))) := by
  refine ct_of hG [some (.ref 26)] rfl rfl rfl (Nat.le_of_ble_eq_true rfl) (fun h => ?_) rfl
  refine q_aload_n dX10_totalRecovery_0 rfl ?_
  refine q_aload_n dX10_totalRecovery_1 rfl ?_
  refine q_get (j := 1) (v := .ref 27) dX10_totalRecovery_2 (Nat.le_of_ble_eq_true rfl) rfl rfl iuX10 (Nat.le_of_ble_eq_true rfl) uw_925 rfl rfl ?_
  refine q_callSv (ν := mX10_isSteadyAll) dX10_totalRecovery_5 uw_1132 vX10_isSteadyAll (c_X10_isSteadyAll_27 hG S (N) h1 h2) rfl rfl (Nat.le_of_ble_eq_true rfl) (Nat.le_of_ble_eq_true rfl) (Nat.le_of_ble_eq_true rfl) 0 (Nat.le_of_ble_eq_true rfl) ?_
  refine q_if_eq 15 dX10_totalRecovery_8 rfl (fun c8 => ?_) (fun c8 => ?_)
  · refine q_iconst (v := 1) dX10_totalRecovery_15 rfl ?_
    refine q_callVv (ν := mX10_refused) dX10_totalRecovery_16 uw_1000 vX10_refused (c_X10_refused hG S (1)) (Nat.le_of_ble_eq_true rfl) rfl rfl rfl rfl (Nat.le_of_ble_eq_true rfl) (Nat.le_of_ble_eq_true rfl) (Nat.le_of_ble_eq_true rfl) 0 (Nat.le_of_ble_eq_true rfl) ?_
    refine wp_w (w2 := mixW g (s_RF S (1))) rfl ?_
    refine wp_top (y := 1) (pI_t (by decide)) ?_
    refine q_if_eq 24 dX10_totalRecovery_19 rfl (fun c19 => ?_) (fun c19 => ?_)
    · first | exact absurd (by decide) c19 | exact absurd c19 (by decide)
    · refine q_iconst (v := 0) dX10_totalRecovery_22 rfl ?_
      exact q_iret dX10_totalRecovery_23 rfl ⟨rfl, rfl⟩
  · exact absurd (pI_1 c8) h3
set_option maxRecDepth 100000 in
set_option maxHeartbeats 4000000 in
theorem c_X10_grade {g : G0} (hG : Gd g) (S : SS)  (N : Nat) (h1 : (z_NW S) 0 = nI N) (h2 : N ≤ 6) (h3 : SM (z_NW S) N 0 ∧ SM (z_NW S) N 1) (h4 : gOk (z_NW S) N) : ct g mX10_grade [.ref 26] (mixW g S) (fun v w1 => v = some (.int (graM (z_NW S) N)) ∧ ∃ mx rt mo u l, w1 = mixW g (s_RF (s_UP (s_LO (s_MX (s_RT (s_MO S mo) rt) mx) l) u) 0)) (fun _ _ => False) := by
  refine ct_of hG [some (.ref 26)] rfl rfl rfl (Nat.le_of_ble_eq_true rfl) (fun h => ?_) rfl
  refine q_aload_n dX10_grade_0 rfl ?_
  refine q_aload_n dX10_grade_1 rfl ?_
  refine q_get (j := 1) (v := .ref 27) dX10_grade_2 (Nat.le_of_ble_eq_true rfl) rfl rfl iuX10 (Nat.le_of_ble_eq_true rfl) uw_925 rfl rfl ?_
  refine q_callSv (ν := mX10_isSteadyAll) dX10_grade_5 uw_1132 vX10_isSteadyAll (c_X10_isSteadyAll_27 hG S (N) h1 h2) rfl rfl (Nat.le_of_ble_eq_true rfl) (Nat.le_of_ble_eq_true rfl) (Nat.le_of_ble_eq_true rfl) 0 (Nat.le_of_ble_eq_true rfl) ?_
  refine q_if_eq 15 dX10_grade_8 rfl (fun c8 => ?_) (fun c8 => ?_)
  · exact absurd h3 (pI_0 c8)
  · refine q_iconst (v := 0) dX10_grade_11 rfl ?_
    refine q_goto 16 dX10_grade_12 rfl ?_
    refine q_callVv (ν := mX10_refused) dX10_grade_16 uw_1000 vX10_refused (c_X10_refused hG S (0)) (Nat.le_of_ble_eq_true rfl) rfl rfl rfl rfl (Nat.le_of_ble_eq_true rfl) (Nat.le_of_ble_eq_true rfl) (Nat.le_of_ble_eq_true rfl) 0 (Nat.le_of_ble_eq_true rfl) ?_
    refine wp_w (w2 := mixW g (s_RF S (0))) rfl ?_
    refine wp_top (y := 0) (pI_f (by decide)) ?_
    refine q_if_eq 24 dX10_grade_19 rfl (fun c19 => ?_) (fun c19 => ?_)
    · refine q_aload_n dX10_grade_24 rfl ?_
      refine q_aload_n dX10_grade_25 rfl ?_
      refine q_get (j := 1) (v := .ref 27) dX10_grade_26 (Nat.le_of_ble_eq_true rfl) rfl rfl iuX10 (Nat.le_of_ble_eq_true rfl) uw_925 rfl rfl ?_
      refine q_callVg (ν := mX10_gradeOf) dX10_grade_29 uw_1187 vX10_gradeOf (c_X10_gradeOf_27 hG (s_RF S (0)) (N) h1 h2 h4) (Nat.le_of_ble_eq_true rfl) rfl rfl rfl rfl (Nat.le_of_ble_eq_true rfl) (Nat.le_of_ble_eq_true rfl) (Nat.le_of_ble_eq_true rfl) 0 (Nat.le_of_ble_eq_true rfl) rfl (fun _ _ z => z.elim) (fun v w1 hv => ?_)
      obtain ⟨rfl, mx, rt, mo, u, l, rfl⟩ := hv
      · refine wp_eq (st2 := [.int ((graM (z_NW S) N))]) rfl ?_
        rw [sc_MO_RF, sc_RT_RF, sc_MX_RF, sc_LO_RF, sc_UP_RF]
        refine wp_w (w2 := mixW g (s_RF (s_UP (s_LO (s_MX (s_RT (s_MO S mo) rt) mx) l) u) (0))) rfl ?_
        exact q_iret dX10_grade_32 rfl ⟨rfl, _, _, _, _, _, rfl⟩
    · first | exact absurd (by decide) c19 | exact absurd c19 (by decide)
set_option maxRecDepth 100000 in
set_option maxHeartbeats 4000000 in
theorem c_X10_grade_x {g : G0} (hG : Gd g) (S : SS)  (N : Nat) (h1 : (z_NW S) 0 = nI N) (h2 : N ≤ 6) (h3 : ¬ (SM (z_NW S) N 0 ∧ SM (z_NW S) N 1)) : ctv g mX10_grade [.ref 26] (mixW g S) (.int (0)) (mixW g (s_RF S (1))) := by
  refine ct_of hG [some (.ref 26)] rfl rfl rfl (Nat.le_of_ble_eq_true rfl) (fun h => ?_) rfl
  refine q_aload_n dX10_grade_0 rfl ?_
  refine q_aload_n dX10_grade_1 rfl ?_
  refine q_get (j := 1) (v := .ref 27) dX10_grade_2 (Nat.le_of_ble_eq_true rfl) rfl rfl iuX10 (Nat.le_of_ble_eq_true rfl) uw_925 rfl rfl ?_
  refine q_callSv (ν := mX10_isSteadyAll) dX10_grade_5 uw_1132 vX10_isSteadyAll (c_X10_isSteadyAll_27 hG S (N) h1 h2) rfl rfl (Nat.le_of_ble_eq_true rfl) (Nat.le_of_ble_eq_true rfl) (Nat.le_of_ble_eq_true rfl) 0 (Nat.le_of_ble_eq_true rfl) ?_
  refine q_if_eq 15 dX10_grade_8 rfl (fun c8 => ?_) (fun c8 => ?_)
  · refine q_iconst (v := 1) dX10_grade_15 rfl ?_
    refine q_callVv (ν := mX10_refused) dX10_grade_16 uw_1000 vX10_refused (c_X10_refused hG S (1)) (Nat.le_of_ble_eq_true rfl) rfl rfl rfl rfl (Nat.le_of_ble_eq_true rfl) (Nat.le_of_ble_eq_true rfl) (Nat.le_of_ble_eq_true rfl) 0 (Nat.le_of_ble_eq_true rfl) ?_
    refine wp_w (w2 := mixW g (s_RF S (1))) rfl ?_
    refine wp_top (y := 1) (pI_t (by decide)) ?_
    refine q_if_eq 24 dX10_grade_19 rfl (fun c19 => ?_) (fun c19 => ?_)
    · first | exact absurd (by decide) c19 | exact absurd c19 (by decide)
    · refine q_iconst (v := 0) dX10_grade_22 rfl ?_
      exact q_iret dX10_grade_23 rfl ⟨rfl, rfl⟩
  · exact absurd (pI_1 c8) h3
