def svD (f : Nat → Int32) (d N : Nat) (tg : Nat → Nat) (e m : Nat → Int64) : Int64 := detF (eqF f d N tg e N) m N
def svE (f : Nat → Int32) (d go ft N : Nat) (tg : Nat → Nat) (e : Nat → Int64) : Nat → Int64 := if ft < N then fcF f d ft go tg (eqF f d N tg e N) N else eqF f d N tg e N
def svM (f : Nat → Int32) (d go ft N : Nat) (tg : Nat → Nat) (e m : Nat → Int64) : Nat → Int64 := if ft < N then mnF (fcF f d ft go tg (eqF f d N tg e N) N) (mnF (eqF f d N tg e N) m (2 ^ N - 1)) (2 ^ N - 1) else mnF (eqF f d N tg e N) m (2 ^ N - 1)
def svN (f : Nat → Int32) (d go ft N : Nat) (tg : Nat → Nat) (e m : Nat → Int64) : Int64 := if ft < N then detF (fcF f d ft go tg (eqF f d N tg e N) N) (mnF (eqF f d N tg e N) m (2 ^ N - 1)) N else if ft = go then svD f d N tg e m else 0
def milF (feed : Int32) (s w : Int64) : Int64 := if 0 < w then 1000000 * (feed.toInt64 * s / w) + 1000000 * (feed.toInt64 * s - feed.toInt64 * s / w * w) / w else 0
def recF (fm : Int32) (a w : Int64) : Int32 := if 0 < fm ∧ 0 < w then (1000 * a / w).toInt32 else 0
def graF (fm fg : Int32) (a w c v : Int64) : Int32 := if 0 < milF fm a w + milF fg c v then (1000 * milF fm a w / (milF fm a w + milF fg c v)).toInt32 else 0
set_option maxRecDepth 100000 in
set_option maxHeartbeats 4000000 in
theorem c_X0_solve_3 {g : G0} (hG : Gd g) (S : SS) (d : Nat) (go : Nat) (ft : Nat) (N : Nat) (tg : Nat → Nat) (h1 : d < 2) (h2 : go < 10) (h3 : tgts (z_SV S) N ft tg) : ctu g mX0_solve [.ref 15, .ref 3, .int (nI d), .int (nI go)] (mixW g S) (mixW g (s_BN (s_BD (s_EQ (s_MI S (svM (z_SV S) d go ft N tg (z_EQ S) (z_MI S))) (svE (z_SV S) d go ft N tg (z_EQ S))) (svD (z_SV S) d N tg (z_EQ S) (z_MI S))) (svN (z_SV S) d go ft N tg (z_EQ S) (z_MI S)))) := by
  refine ct_of hG [some (.ref 15), some (.ref 3), some (.int (nI d)), some (.int (nI go)), none] rfl rfl rfl (Nat.le_of_ble_eq_true rfl) (fun h => ?_) rfl
  have t1 := h3.1
  have t2 := h3.2.1
  have t4 := h3.2.2.2.1
  refine q_aload_n dX0_solve_0 rfl ?_
  refine q_aload_n dX0_solve_1 rfl ?_
  refine q_iload_n dX0_solve_2 rfl ?_
  refine q_callVu (ν := mX0_fillEquations) dX0_solve_3 uw_334 vX0_fillEquations (c_X0_fillE_3 hG S (d) (ft) (N) (tg) h1 h3) (Nat.le_of_ble_eq_true rfl) rfl rfl rfl rfl (Nat.le_of_ble_eq_true rfl) (Nat.le_of_ble_eq_true rfl) (Nat.le_of_ble_eq_true rfl) 0 (Nat.le_of_ble_eq_true rfl) ?_
  refine wp_w (w2 := mixW g (s_EQ S (eqF (z_SV S) d N tg (z_EQ S) N))) rfl ?_
  refine q_aload_n dX0_solve_6 rfl ?_
  refine q_aload_n dX0_solve_7 rfl ?_
  refine q_aload_n dX0_solve_8 rfl ?_
  refine q_callVv (ν := mX7_count) dX0_solve_9 uw_341 vX7_count (c_X7_count_3 hG (s_EQ S (eqF (z_SV S) d N tg (z_EQ S) N)) ) (Nat.le_of_ble_eq_true rfl) rfl rfl rfl rfl (Nat.le_of_ble_eq_true rfl) (Nat.le_of_ble_eq_true rfl) (Nat.le_of_ble_eq_true rfl) 0 (Nat.le_of_ble_eq_true rfl) ?_
  refine wp_eq (st2 := .int (((z_SV S) 0)) :: _) rfl ?_
  refine wp_top (y := nI N) t1 ?_
  refine q_callVv (ν := mX0_determinant) dX0_solve_12 uw_367 vX0_determinant (c_X0_det hG (s_EQ S (eqF (z_SV S) d N tg (z_EQ S) N)) (N) t2) (Nat.le_of_ble_eq_true rfl) rfl rfl rfl rfl (Nat.le_of_ble_eq_true rfl) (Nat.le_of_ble_eq_true rfl) (Nat.le_of_ble_eq_true rfl) 0 (Nat.le_of_ble_eq_true rfl) ?_
  refine wp_eq (st2 := .long ((detF (eqF (z_SV S) d N tg (z_EQ S) N) (z_MI S) N)) :: _) rfl ?_
  rw [sc_MI_EQ]
  refine wp_w (w2 := mixW g (s_EQ (s_MI S (mnF (eqF (z_SV S) d N tg (z_EQ S) N) (z_MI S) (2 ^ N - 1))) (eqF (z_SV S) d N tg (z_EQ S) N))) rfl ?_
  refine q_put (j := 3) (ty := .long) dX0_solve_15 (Nat.le_of_ble_eq_true rfl) rfl rfl iuX0 tyX0_ok nmX0 (Nat.le_of_ble_eq_true rfl) uw_148 rfl rfl rfl rfl rfl (Nat.le_of_ble_eq_true rfl) ?_
  refine wp_w (u_BD g _ _) ?_
  refine q_aload_n dX0_solve_18 rfl ?_
  refine q_callVv (ν := mX7_feedTarget) dX0_solve_19 uw_382 vX7_feedTarget (c_X7_feedTarget_3 hG (s_BD (s_EQ (s_MI S (mnF (eqF (z_SV S) d N tg (z_EQ S) N) (z_MI S) (2 ^ N - 1))) (eqF (z_SV S) d N tg (z_EQ S) N)) ((detF (eqF (z_SV S) d N tg (z_EQ S) N) (z_MI S) N))) ) (Nat.le_of_ble_eq_true rfl) rfl rfl rfl rfl (Nat.le_of_ble_eq_true rfl) (Nat.le_of_ble_eq_true rfl) (Nat.le_of_ble_eq_true rfl) 0 (Nat.le_of_ble_eq_true rfl) ?_
  refine wp_eq (st2 := .int ((presF ((z_SV S) 0) ((z_SV S) 1))) :: _) rfl ?_
  refine wp_top (y := nI ft) h3.2.2.1 ?_
  refine q_ist4 dX0_solve_22 (Nat.le_of_ble_eq_true rfl) rfl ?_
  refine q_aload_n dX0_solve_24 rfl ?_
  refine q_iload dX0_solve_25 rfl ?_
  refine q_callVv (ν := mX7_has) dX0_solve_27 uw_355 vX7_has (c_X7_has_3 hG (s_BD (s_EQ (s_MI S (mnF (eqF (z_SV S) d N tg (z_EQ S) N) (z_MI S) (2 ^ N - 1))) (eqF (z_SV S) d N tg (z_EQ S) N)) ((detF (eqF (z_SV S) d N tg (z_EQ S) N) (z_MI S) N))) ((nI ft))) (Nat.le_of_ble_eq_true rfl) rfl rfl rfl rfl (Nat.le_of_ble_eq_true rfl) (Nat.le_of_ble_eq_true rfl) (Nat.le_of_ble_eq_true rfl) 0 (Nat.le_of_ble_eq_true rfl) ?_
  refine wp_eq (st2 := .int ((bI (0 ≤ (nI ft) ∧ (nI ft) < (z_SV S) 0))) :: _) rfl ?_
  refine wp_top (y := pI (ft < N)) (has_nI t1 (by omega) (by omega)) ?_
  refine q_if_eq 57 dX0_solve_30 rfl (fun c30 => ?_) (fun c30 => ?_)
  · have hf := pI_0 c30
    refine q_aload_n dX0_solve_57 rfl ?_
    refine q_iload dX0_solve_58 rfl ?_
    refine q_iload_n dX0_solve_60 rfl ?_
    refine q_icmp_ne 71 dX0_solve_61 rfl (fun c61 => ?_) (fun c61 => ?_)
    · have n61 := mt (nI_eq (a := ft) (b := go) (by omega) (by omega)).mpr c61
      refine q_lconst (v := 0) dX0_solve_71 rfl ?_
      refine q_put (j := 2) (ty := .long) dX0_solve_72 (Nat.le_of_ble_eq_true rfl) rfl rfl iuX0 tyX0_ok nmX0 (Nat.le_of_ble_eq_true rfl) uw_146 rfl rfl rfl rfl rfl (Nat.le_of_ble_eq_true rfl) ?_
      refine wp_w (u_BN g _ _) ?_
      exact q_vret dX0_solve_75 rfl ⟨rfl, by unfold svN svE svM svD; simp only [if_neg hf, if_neg n61]⟩
    · have n61 := (nI_eq (a := ft) (b := go) (by omega) (by omega)).mp c61
      refine q_aload_n dX0_solve_64 rfl ?_
      refine q_get (j := 3) (v := .long (((detF (eqF (z_SV S) d N tg (z_EQ S) N) (z_MI S) N)))) dX0_solve_65 (Nat.le_of_ble_eq_true rfl) rfl rfl iuX0 (Nat.le_of_ble_eq_true rfl) uw_148 rfl rfl ?_
      refine q_goto 72 dX0_solve_68 rfl ?_
      refine q_put (j := 2) (ty := .long) dX0_solve_72 (Nat.le_of_ble_eq_true rfl) rfl rfl iuX0 tyX0_ok nmX0 (Nat.le_of_ble_eq_true rfl) uw_146 rfl rfl rfl rfl rfl (Nat.le_of_ble_eq_true rfl) ?_
      refine wp_w (u_BN g _ _) ?_
      exact q_vret dX0_solve_75 rfl ⟨rfl, by unfold svN svE svM svD; simp only [if_neg hf, if_pos n61]⟩
  · have hf := pI_1 c30
    refine q_aload_n dX0_solve_33 rfl ?_
    refine q_aload_n dX0_solve_34 rfl ?_
    refine q_iload_n dX0_solve_35 rfl ?_
    refine q_iload dX0_solve_36 rfl ?_
    refine q_iload_n dX0_solve_38 rfl ?_
    refine q_callVu (ν := mX0_fillColumn) dX0_solve_39 uw_386 vX0_fillColumn (c_X0_fillC_3 hG (s_BD (s_EQ (s_MI S (mnF (eqF (z_SV S) d N tg (z_EQ S) N) (z_MI S) (2 ^ N - 1))) (eqF (z_SV S) d N tg (z_EQ S) N)) ((detF (eqF (z_SV S) d N tg (z_EQ S) N) (z_MI S) N))) (d) (ft) (go) (ft) (N) (tg) h1 (by omega) h2 h3) (Nat.le_of_ble_eq_true rfl) rfl rfl rfl rfl (Nat.le_of_ble_eq_true rfl) (Nat.le_of_ble_eq_true rfl) (Nat.le_of_ble_eq_true rfl) 0 (Nat.le_of_ble_eq_true rfl) ?_
    rw [sc_EQ_BD, ss_EQ]
    refine wp_w (w2 := mixW g (s_BD (s_EQ (s_MI S (mnF (eqF (z_SV S) d N tg (z_EQ S) N) (z_MI S) (2 ^ N - 1))) (fcF (z_SV S) d ft go tg (eqF (z_SV S) d N tg (z_EQ S) N) N)) ((detF (eqF (z_SV S) d N tg (z_EQ S) N) (z_MI S) N)))) rfl ?_
    refine q_aload_n dX0_solve_42 rfl ?_
    refine q_aload_n dX0_solve_43 rfl ?_
    refine q_aload_n dX0_solve_44 rfl ?_
    refine q_callVv (ν := mX7_count) dX0_solve_45 uw_341 vX7_count (c_X7_count_3 hG (s_BD (s_EQ (s_MI S (mnF (eqF (z_SV S) d N tg (z_EQ S) N) (z_MI S) (2 ^ N - 1))) (fcF (z_SV S) d ft go tg (eqF (z_SV S) d N tg (z_EQ S) N) N)) ((detF (eqF (z_SV S) d N tg (z_EQ S) N) (z_MI S) N))) ) (Nat.le_of_ble_eq_true rfl) rfl rfl rfl rfl (Nat.le_of_ble_eq_true rfl) (Nat.le_of_ble_eq_true rfl) (Nat.le_of_ble_eq_true rfl) 0 (Nat.le_of_ble_eq_true rfl) ?_
    refine wp_eq (st2 := .int (((z_SV S) 0)) :: _) rfl ?_
    refine wp_top (y := nI N) t1 ?_
    refine q_callVv (ν := mX0_determinant) dX0_solve_48 uw_367 vX0_determinant (c_X0_det hG (s_BD (s_EQ (s_MI S (mnF (eqF (z_SV S) d N tg (z_EQ S) N) (z_MI S) (2 ^ N - 1))) (fcF (z_SV S) d ft go tg (eqF (z_SV S) d N tg (z_EQ S) N) N)) ((detF (eqF (z_SV S) d N tg (z_EQ S) N) (z_MI S) N))) (N) t2) (Nat.le_of_ble_eq_true rfl) rfl rfl rfl rfl (Nat.le_of_ble_eq_true rfl) (Nat.le_of_ble_eq_true rfl) (Nat.le_of_ble_eq_true rfl) 0 (Nat.le_of_ble_eq_true rfl) ?_
    refine wp_eq (st2 := .long ((detF (fcF (z_SV S) d ft go tg (eqF (z_SV S) d N tg (z_EQ S) N) N) (mnF (eqF (z_SV S) d N tg (z_EQ S) N) (z_MI S) (2 ^ N - 1)) N)) :: _) rfl ?_
    rw [sc_MI_BD, sc_MI_EQ, ss_MI]
    refine wp_w (w2 := mixW g (s_BD (s_EQ (s_MI S (mnF (fcF (z_SV S) d ft go tg (eqF (z_SV S) d N tg (z_EQ S) N) N) (mnF (eqF (z_SV S) d N tg (z_EQ S) N) (z_MI S) (2 ^ N - 1)) (2 ^ N - 1))) (fcF (z_SV S) d ft go tg (eqF (z_SV S) d N tg (z_EQ S) N) N)) ((detF (eqF (z_SV S) d N tg (z_EQ S) N) (z_MI S) N)))) rfl ?_
    refine q_put (j := 2) (ty := .long) dX0_solve_51 (Nat.le_of_ble_eq_true rfl) rfl rfl iuX0 tyX0_ok nmX0 (Nat.le_of_ble_eq_true rfl) uw_146 rfl rfl rfl rfl rfl (Nat.le_of_ble_eq_true rfl) ?_
    refine wp_w (u_BN g _ _) ?_
    refine q_goto 75 dX0_solve_54 rfl ?_
    exact q_vret dX0_solve_75 rfl ⟨rfl, by unfold svN svE svM svD; simp only [if_pos hf]⟩
set_option maxRecDepth 100000 in
set_option maxHeartbeats 4000000 in
theorem c_X0_solve_5 {g : G0} (hG : Gd g) (S : SS) (d : Nat) (go : Nat) (ft : Nat) (N : Nat) (tg : Nat → Nat) (h1 : d < 2) (h2 : go < 10) (h3 : tgts (z_TV S) N ft tg) : ctu g mX0_solve [.ref 15, .ref 5, .int (nI d), .int (nI go)] (mixW g S) (mixW g (s_BN (s_BD (s_EQ (s_MI S (svM (z_TV S) d go ft N tg (z_EQ S) (z_MI S))) (svE (z_TV S) d go ft N tg (z_EQ S))) (svD (z_TV S) d N tg (z_EQ S) (z_MI S))) (svN (z_TV S) d go ft N tg (z_EQ S) (z_MI S)))) := by
  refine ct_of hG [some (.ref 15), some (.ref 5), some (.int (nI d)), some (.int (nI go)), none] rfl rfl rfl (Nat.le_of_ble_eq_true rfl) (fun h => ?_) rfl
  have t1 := h3.1
  have t2 := h3.2.1
  have t4 := h3.2.2.2.1
  refine q_aload_n dX0_solve_0 rfl ?_
  refine q_aload_n dX0_solve_1 rfl ?_
  refine q_iload_n dX0_solve_2 rfl ?_
  refine q_callVu (ν := mX0_fillEquations) dX0_solve_3 uw_334 vX0_fillEquations (c_X0_fillE_5 hG S (d) (ft) (N) (tg) h1 h3) (Nat.le_of_ble_eq_true rfl) rfl rfl rfl rfl (Nat.le_of_ble_eq_true rfl) (Nat.le_of_ble_eq_true rfl) (Nat.le_of_ble_eq_true rfl) 0 (Nat.le_of_ble_eq_true rfl) ?_
  refine wp_w (w2 := mixW g (s_EQ S (eqF (z_TV S) d N tg (z_EQ S) N))) rfl ?_
  refine q_aload_n dX0_solve_6 rfl ?_
  refine q_aload_n dX0_solve_7 rfl ?_
  refine q_aload_n dX0_solve_8 rfl ?_
  refine q_callVv (ν := mX7_count) dX0_solve_9 uw_341 vX7_count (c_X7_count_5 hG (s_EQ S (eqF (z_TV S) d N tg (z_EQ S) N)) ) (Nat.le_of_ble_eq_true rfl) rfl rfl rfl rfl (Nat.le_of_ble_eq_true rfl) (Nat.le_of_ble_eq_true rfl) (Nat.le_of_ble_eq_true rfl) 0 (Nat.le_of_ble_eq_true rfl) ?_
  refine wp_eq (st2 := .int (((z_TV S) 0)) :: _) rfl ?_
  refine wp_top (y := nI N) t1 ?_
  refine q_callVv (ν := mX0_determinant) dX0_solve_12 uw_367 vX0_determinant (c_X0_det hG (s_EQ S (eqF (z_TV S) d N tg (z_EQ S) N)) (N) t2) (Nat.le_of_ble_eq_true rfl) rfl rfl rfl rfl (Nat.le_of_ble_eq_true rfl) (Nat.le_of_ble_eq_true rfl) (Nat.le_of_ble_eq_true rfl) 0 (Nat.le_of_ble_eq_true rfl) ?_
  refine wp_eq (st2 := .long ((detF (eqF (z_TV S) d N tg (z_EQ S) N) (z_MI S) N)) :: _) rfl ?_
  rw [sc_MI_EQ]
  refine wp_w (w2 := mixW g (s_EQ (s_MI S (mnF (eqF (z_TV S) d N tg (z_EQ S) N) (z_MI S) (2 ^ N - 1))) (eqF (z_TV S) d N tg (z_EQ S) N))) rfl ?_
  refine q_put (j := 3) (ty := .long) dX0_solve_15 (Nat.le_of_ble_eq_true rfl) rfl rfl iuX0 tyX0_ok nmX0 (Nat.le_of_ble_eq_true rfl) uw_148 rfl rfl rfl rfl rfl (Nat.le_of_ble_eq_true rfl) ?_
  refine wp_w (u_BD g _ _) ?_
  refine q_aload_n dX0_solve_18 rfl ?_
  refine q_callVv (ν := mX7_feedTarget) dX0_solve_19 uw_382 vX7_feedTarget (c_X7_feedTarget_5 hG (s_BD (s_EQ (s_MI S (mnF (eqF (z_TV S) d N tg (z_EQ S) N) (z_MI S) (2 ^ N - 1))) (eqF (z_TV S) d N tg (z_EQ S) N)) ((detF (eqF (z_TV S) d N tg (z_EQ S) N) (z_MI S) N))) ) (Nat.le_of_ble_eq_true rfl) rfl rfl rfl rfl (Nat.le_of_ble_eq_true rfl) (Nat.le_of_ble_eq_true rfl) (Nat.le_of_ble_eq_true rfl) 0 (Nat.le_of_ble_eq_true rfl) ?_
  refine wp_eq (st2 := .int ((presF ((z_TV S) 0) ((z_TV S) 1))) :: _) rfl ?_
  refine wp_top (y := nI ft) h3.2.2.1 ?_
  refine q_ist4 dX0_solve_22 (Nat.le_of_ble_eq_true rfl) rfl ?_
  refine q_aload_n dX0_solve_24 rfl ?_
  refine q_iload dX0_solve_25 rfl ?_
  refine q_callVv (ν := mX7_has) dX0_solve_27 uw_355 vX7_has (c_X7_has_5 hG (s_BD (s_EQ (s_MI S (mnF (eqF (z_TV S) d N tg (z_EQ S) N) (z_MI S) (2 ^ N - 1))) (eqF (z_TV S) d N tg (z_EQ S) N)) ((detF (eqF (z_TV S) d N tg (z_EQ S) N) (z_MI S) N))) ((nI ft))) (Nat.le_of_ble_eq_true rfl) rfl rfl rfl rfl (Nat.le_of_ble_eq_true rfl) (Nat.le_of_ble_eq_true rfl) (Nat.le_of_ble_eq_true rfl) 0 (Nat.le_of_ble_eq_true rfl) ?_
  refine wp_eq (st2 := .int ((bI (0 ≤ (nI ft) ∧ (nI ft) < (z_TV S) 0))) :: _) rfl ?_
  refine wp_top (y := pI (ft < N)) (has_nI t1 (by omega) (by omega)) ?_
  refine q_if_eq 57 dX0_solve_30 rfl (fun c30 => ?_) (fun c30 => ?_)
  · have hf := pI_0 c30
    refine q_aload_n dX0_solve_57 rfl ?_
    refine q_iload dX0_solve_58 rfl ?_
    refine q_iload_n dX0_solve_60 rfl ?_
    refine q_icmp_ne 71 dX0_solve_61 rfl (fun c61 => ?_) (fun c61 => ?_)
    · have n61 := mt (nI_eq (a := ft) (b := go) (by omega) (by omega)).mpr c61
      refine q_lconst (v := 0) dX0_solve_71 rfl ?_
      refine q_put (j := 2) (ty := .long) dX0_solve_72 (Nat.le_of_ble_eq_true rfl) rfl rfl iuX0 tyX0_ok nmX0 (Nat.le_of_ble_eq_true rfl) uw_146 rfl rfl rfl rfl rfl (Nat.le_of_ble_eq_true rfl) ?_
      refine wp_w (u_BN g _ _) ?_
      exact q_vret dX0_solve_75 rfl ⟨rfl, by unfold svN svE svM svD; simp only [if_neg hf, if_neg n61]⟩
    · have n61 := (nI_eq (a := ft) (b := go) (by omega) (by omega)).mp c61
      refine q_aload_n dX0_solve_64 rfl ?_
      refine q_get (j := 3) (v := .long (((detF (eqF (z_TV S) d N tg (z_EQ S) N) (z_MI S) N)))) dX0_solve_65 (Nat.le_of_ble_eq_true rfl) rfl rfl iuX0 (Nat.le_of_ble_eq_true rfl) uw_148 rfl rfl ?_
      refine q_goto 72 dX0_solve_68 rfl ?_
      refine q_put (j := 2) (ty := .long) dX0_solve_72 (Nat.le_of_ble_eq_true rfl) rfl rfl iuX0 tyX0_ok nmX0 (Nat.le_of_ble_eq_true rfl) uw_146 rfl rfl rfl rfl rfl (Nat.le_of_ble_eq_true rfl) ?_
      refine wp_w (u_BN g _ _) ?_
      exact q_vret dX0_solve_75 rfl ⟨rfl, by unfold svN svE svM svD; simp only [if_neg hf, if_pos n61]⟩
  · have hf := pI_1 c30
    refine q_aload_n dX0_solve_33 rfl ?_
    refine q_aload_n dX0_solve_34 rfl ?_
    refine q_iload_n dX0_solve_35 rfl ?_
    refine q_iload dX0_solve_36 rfl ?_
    refine q_iload_n dX0_solve_38 rfl ?_
    refine q_callVu (ν := mX0_fillColumn) dX0_solve_39 uw_386 vX0_fillColumn (c_X0_fillC_5 hG (s_BD (s_EQ (s_MI S (mnF (eqF (z_TV S) d N tg (z_EQ S) N) (z_MI S) (2 ^ N - 1))) (eqF (z_TV S) d N tg (z_EQ S) N)) ((detF (eqF (z_TV S) d N tg (z_EQ S) N) (z_MI S) N))) (d) (ft) (go) (ft) (N) (tg) h1 (by omega) h2 h3) (Nat.le_of_ble_eq_true rfl) rfl rfl rfl rfl (Nat.le_of_ble_eq_true rfl) (Nat.le_of_ble_eq_true rfl) (Nat.le_of_ble_eq_true rfl) 0 (Nat.le_of_ble_eq_true rfl) ?_
    rw [sc_EQ_BD, ss_EQ]
    refine wp_w (w2 := mixW g (s_BD (s_EQ (s_MI S (mnF (eqF (z_TV S) d N tg (z_EQ S) N) (z_MI S) (2 ^ N - 1))) (fcF (z_TV S) d ft go tg (eqF (z_TV S) d N tg (z_EQ S) N) N)) ((detF (eqF (z_TV S) d N tg (z_EQ S) N) (z_MI S) N)))) rfl ?_
    refine q_aload_n dX0_solve_42 rfl ?_
    refine q_aload_n dX0_solve_43 rfl ?_
    refine q_aload_n dX0_solve_44 rfl ?_
    refine q_callVv (ν := mX7_count) dX0_solve_45 uw_341 vX7_count (c_X7_count_5 hG (s_BD (s_EQ (s_MI S (mnF (eqF (z_TV S) d N tg (z_EQ S) N) (z_MI S) (2 ^ N - 1))) (fcF (z_TV S) d ft go tg (eqF (z_TV S) d N tg (z_EQ S) N) N)) ((detF (eqF (z_TV S) d N tg (z_EQ S) N) (z_MI S) N))) ) (Nat.le_of_ble_eq_true rfl) rfl rfl rfl rfl (Nat.le_of_ble_eq_true rfl) (Nat.le_of_ble_eq_true rfl) (Nat.le_of_ble_eq_true rfl) 0 (Nat.le_of_ble_eq_true rfl) ?_
    refine wp_eq (st2 := .int (((z_TV S) 0)) :: _) rfl ?_
    refine wp_top (y := nI N) t1 ?_
    refine q_callVv (ν := mX0_determinant) dX0_solve_48 uw_367 vX0_determinant (c_X0_det hG (s_BD (s_EQ (s_MI S (mnF (eqF (z_TV S) d N tg (z_EQ S) N) (z_MI S) (2 ^ N - 1))) (fcF (z_TV S) d ft go tg (eqF (z_TV S) d N tg (z_EQ S) N) N)) ((detF (eqF (z_TV S) d N tg (z_EQ S) N) (z_MI S) N))) (N) t2) (Nat.le_of_ble_eq_true rfl) rfl rfl rfl rfl (Nat.le_of_ble_eq_true rfl) (Nat.le_of_ble_eq_true rfl) (Nat.le_of_ble_eq_true rfl) 0 (Nat.le_of_ble_eq_true rfl) ?_
    refine wp_eq (st2 := .long ((detF (fcF (z_TV S) d ft go tg (eqF (z_TV S) d N tg (z_EQ S) N) N) (mnF (eqF (z_TV S) d N tg (z_EQ S) N) (z_MI S) (2 ^ N - 1)) N)) :: _) rfl ?_
    rw [sc_MI_BD, sc_MI_EQ, ss_MI]
    refine wp_w (w2 := mixW g (s_BD (s_EQ (s_MI S (mnF (fcF (z_TV S) d ft go tg (eqF (z_TV S) d N tg (z_EQ S) N) N) (mnF (eqF (z_TV S) d N tg (z_EQ S) N) (z_MI S) (2 ^ N - 1)) (2 ^ N - 1))) (fcF (z_TV S) d ft go tg (eqF (z_TV S) d N tg (z_EQ S) N) N)) ((detF (eqF (z_TV S) d N tg (z_EQ S) N) (z_MI S) N)))) rfl ?_
    refine q_put (j := 2) (ty := .long) dX0_solve_51 (Nat.le_of_ble_eq_true rfl) rfl rfl iuX0 tyX0_ok nmX0 (Nat.le_of_ble_eq_true rfl) uw_146 rfl rfl rfl rfl rfl (Nat.le_of_ble_eq_true rfl) ?_
    refine wp_w (u_BN g _ _) ?_
    refine q_goto 75 dX0_solve_54 rfl ?_
    exact q_vret dX0_solve_75 rfl ⟨rfl, by unfold svN svE svM svD; simp only [if_pos hf]⟩
set_option maxRecDepth 100000 in
set_option maxHeartbeats 4000000 in
theorem c_X5_mil {g : G0} (hG : Gd g) (S : SS) (x : Int32) (s : Int64) (w : Int64)   : ctv g mX5_millionths [.int x, .long s, .long w] (mixW g S) (.long (milF x s w)) (mixW g S) := by
  refine ct_of hG [some (.int (x)), some (.long (s)), none, some (.long (w)), none, none, none] rfl rfl rfl (Nat.le_of_ble_eq_true rfl) (fun h => ?_) rfl
  refine q_lload_n dX5_millionths_0 rfl ?_
  refine q_lconst (v := 0) dX5_millionths_1 rfl ?_
  refine q_lcmp_gt 8 dX5_millionths_2 dX5_millionths_3 rfl (fun c2 => ?_) (fun c2 => ?_)
  · refine q_iload_n dX5_millionths_8 rfl ?_
    refine q_i2l dX5_millionths_9 ?_
    refine q_lload_n dX5_millionths_10 rfl ?_
    refine q_lmul dX5_millionths_11 ?_
    refine q_lst5 dX5_millionths_12 (Nat.le_of_ble_eq_true rfl) rfl ?_
    refine q_ldc2 dX5_millionths_14 uw_841 ?_
    refine q_lload dX5_millionths_17 rfl ?_
    refine q_lload_n dX5_millionths_19 rfl ?_
    refine q_ldiv dX5_millionths_20 (fun z => absurd c2 (by rw [z]; decide)) ?_
    refine q_lmul dX5_millionths_21 ?_
    refine q_ldc2 dX5_millionths_22 uw_841 ?_
    refine q_lload dX5_millionths_25 rfl ?_
    refine q_lload_n dX5_millionths_27 rfl ?_
    refine q_lrem dX5_millionths_28 (fun z => absurd c2 (by rw [z]; decide)) ?_
    refine q_lmul dX5_millionths_29 ?_
    refine q_lload_n dX5_millionths_30 rfl ?_
    refine q_ldiv dX5_millionths_31 (fun z => absurd c2 (by rw [z]; decide)) ?_
    refine q_ladd dX5_millionths_32 ?_
    exact q_lret dX5_millionths_33 rfl ⟨by rw [milF, if_pos c2], rfl⟩
  · refine q_lconst (v := 0) dX5_millionths_6 rfl ?_
    exact q_lret dX5_millionths_7 rfl ⟨by rw [milF, if_neg c2], rfl⟩
set_option maxRecDepth 100000 in
set_option maxHeartbeats 4000000 in
theorem c_X5_compute_23_3 {g : G0} (hG : Gd g) (S : SS)  (ft : Nat) (N : Nat) (tg : Nat → Nat) (h1 : tgts (z_SV S) N ft tg) : ctu g mX5_compute [.ref 23, .ref 3, .ref 15] (mixW g S) (mixW g (s_BN (s_BD (s_EQ (s_MI (s_A0 (s_A1 (s_A2 (s_A3 S (svD (z_SV S) 1 N tg (svE (z_SV S) 0 8 ft N tg (z_EQ S)) (svM (z_SV S) 0 8 ft N tg (z_EQ S) (z_MI S)))) (svN (z_SV S) 1 8 ft N tg (svE (z_SV S) 0 8 ft N tg (z_EQ S)) (svM (z_SV S) 0 8 ft N tg (z_EQ S) (z_MI S)))) (svD (z_SV S) 0 N tg (z_EQ S) (z_MI S))) (svN (z_SV S) 0 8 ft N tg (z_EQ S) (z_MI S))) (svM (z_SV S) 1 8 ft N tg (svE (z_SV S) 0 8 ft N tg (z_EQ S)) (svM (z_SV S) 0 8 ft N tg (z_EQ S) (z_MI S)))) (svE (z_SV S) 1 8 ft N tg (svE (z_SV S) 0 8 ft N tg (z_EQ S)))) (svD (z_SV S) 1 N tg (svE (z_SV S) 0 8 ft N tg (z_EQ S)) (svM (z_SV S) 0 8 ft N tg (z_EQ S) (z_MI S)))) (svN (z_SV S) 1 8 ft N tg (svE (z_SV S) 0 8 ft N tg (z_EQ S)) (svM (z_SV S) 0 8 ft N tg (z_EQ S) (z_MI S))))) := by
  refine ct_of hG [some (.ref 23), some (.ref 3), some (.ref 15)] rfl rfl rfl (Nat.le_of_ble_eq_true rfl) (fun h => ?_) rfl
  refine q_aload_n dX5_compute_0 rfl ?_
  refine q_aload_n dX5_compute_1 rfl ?_
  refine q_iconst (v := 0) dX5_compute_2 rfl ?_
  refine q_bipush (v := 8) dX5_compute_3 rfl ?_
  refine q_callVu (ν := mX0_solve) dX5_compute_5 uw_330 vX0_solve (c_X0_solve_3 hG S (0) (8) (ft) (N) (tg) (by omega) (by omega) h1) (Nat.le_of_ble_eq_true rfl) rfl rfl rfl rfl (Nat.le_of_ble_eq_true rfl) (Nat.le_of_ble_eq_true rfl) (Nat.le_of_ble_eq_true rfl) 0 (Nat.le_of_ble_eq_true rfl) ?_
  refine wp_w (w2 := mixW g (s_BN (s_BD (s_EQ (s_MI S (svM (z_SV S) 0 8 ft N tg (z_EQ S) (z_MI S))) (svE (z_SV S) 0 8 ft N tg (z_EQ S))) (svD (z_SV S) 0 N tg (z_EQ S) (z_MI S))) (svN (z_SV S) 0 8 ft N tg (z_EQ S) (z_MI S)))) rfl ?_
  refine q_aload_n dX5_compute_8 rfl ?_
  refine q_aload_n dX5_compute_9 rfl ?_
  refine q_getN (j := 2) (v := .long ((svN (z_SV S) 0 8 ft N tg (z_EQ S) (z_MI S)))) dX5_compute_10 (Nat.le_of_ble_eq_true rfl) rfl rfl iuX0 (Nat.le_of_ble_eq_true rfl) (List.mem_of_getElem? (i := 1) rfl) rfl rfl ?_
  refine q_put (j := 0) (ty := .long) dX5_compute_13 (Nat.le_of_ble_eq_true rfl) rfl rfl iuX5 tyX5_ok nmX5 (Nat.le_of_ble_eq_true rfl) uw_195 rfl rfl rfl rfl rfl (Nat.le_of_ble_eq_true rfl) ?_
  refine wp_w (u_A0 g _ _) ?_
  rw [sc_A0_BN, sc_A0_BD, sc_A0_EQ, sc_A0_MI]
  refine q_aload_n dX5_compute_16 rfl ?_
  refine q_aload_n dX5_compute_17 rfl ?_
  refine q_getN (j := 3) (v := .long ((svD (z_SV S) 0 N tg (z_EQ S) (z_MI S)))) dX5_compute_18 (Nat.le_of_ble_eq_true rfl) rfl rfl iuX0 (Nat.le_of_ble_eq_true rfl) (List.mem_of_getElem? (i := 2) rfl) rfl rfl ?_
  refine q_put (j := 1) (ty := .long) dX5_compute_21 (Nat.le_of_ble_eq_true rfl) rfl rfl iuX5 tyX5_ok nmX5 (Nat.le_of_ble_eq_true rfl) uw_196 rfl rfl rfl rfl rfl (Nat.le_of_ble_eq_true rfl) ?_
  refine wp_w (u_A1 g _ _) ?_
  rw [sc_A1_BN, sc_A1_BD, sc_A1_EQ, sc_A1_MI, sc_A1_A0]
  refine q_aload_n dX5_compute_24 rfl ?_
  refine q_aload_n dX5_compute_25 rfl ?_
  refine q_iconst (v := 1) dX5_compute_26 rfl ?_
  refine q_bipush (v := 8) dX5_compute_27 rfl ?_
  refine q_callVu (ν := mX0_solve) dX5_compute_29 uw_330 vX0_solve (c_X0_solve_3 hG (s_BN (s_BD (s_EQ (s_MI (s_A0 (s_A1 S ((svD (z_SV S) 0 N tg (z_EQ S) (z_MI S)))) ((svN (z_SV S) 0 8 ft N tg (z_EQ S) (z_MI S)))) (svM (z_SV S) 0 8 ft N tg (z_EQ S) (z_MI S))) (svE (z_SV S) 0 8 ft N tg (z_EQ S))) (svD (z_SV S) 0 N tg (z_EQ S) (z_MI S))) (svN (z_SV S) 0 8 ft N tg (z_EQ S) (z_MI S))) (1) (8) (ft) (N) (tg) (by omega) (by omega) h1) (Nat.le_of_ble_eq_true rfl) rfl rfl rfl rfl (Nat.le_of_ble_eq_true rfl) (Nat.le_of_ble_eq_true rfl) (Nat.le_of_ble_eq_true rfl) 0 (Nat.le_of_ble_eq_true rfl) ?_
  rw [sc_MI_BN, sc_MI_BD, sc_MI_EQ, ss_MI, sc_EQ_BN, sc_EQ_BD, ss_EQ, sc_BD_BN, ss_BD, ss_BN]
  refine wp_w (w2 := mixW g (s_BN (s_BD (s_EQ (s_MI (s_A0 (s_A1 S ((svD (z_SV S) 0 N tg (z_EQ S) (z_MI S)))) ((svN (z_SV S) 0 8 ft N tg (z_EQ S) (z_MI S)))) (svM (z_SV S) 1 8 ft N tg (svE (z_SV S) 0 8 ft N tg (z_EQ S)) (svM (z_SV S) 0 8 ft N tg (z_EQ S) (z_MI S)))) (svE (z_SV S) 1 8 ft N tg (svE (z_SV S) 0 8 ft N tg (z_EQ S)))) (svD (z_SV S) 1 N tg (svE (z_SV S) 0 8 ft N tg (z_EQ S)) (svM (z_SV S) 0 8 ft N tg (z_EQ S) (z_MI S)))) (svN (z_SV S) 1 8 ft N tg (svE (z_SV S) 0 8 ft N tg (z_EQ S)) (svM (z_SV S) 0 8 ft N tg (z_EQ S) (z_MI S))))) rfl ?_
  refine q_aload_n dX5_compute_32 rfl ?_
  refine q_aload_n dX5_compute_33 rfl ?_
  refine q_getN (j := 2) (v := .long ((svN (z_SV S) 1 8 ft N tg (svE (z_SV S) 0 8 ft N tg (z_EQ S)) (svM (z_SV S) 0 8 ft N tg (z_EQ S) (z_MI S))))) dX5_compute_34 (Nat.le_of_ble_eq_true rfl) rfl rfl iuX0 (Nat.le_of_ble_eq_true rfl) (List.mem_of_getElem? (i := 1) rfl) rfl rfl ?_
  refine q_put (j := 2) (ty := .long) dX5_compute_37 (Nat.le_of_ble_eq_true rfl) rfl rfl iuX5 tyX5_ok nmX5 (Nat.le_of_ble_eq_true rfl) uw_197 rfl rfl rfl rfl rfl (Nat.le_of_ble_eq_true rfl) ?_
  refine wp_w (u_A2 g _ _) ?_
  rw [sc_A2_BN, sc_A2_BD, sc_A2_EQ, sc_A2_MI, sc_A2_A0, sc_A2_A1]
  refine q_aload_n dX5_compute_40 rfl ?_
  refine q_aload_n dX5_compute_41 rfl ?_
  refine q_getN (j := 3) (v := .long ((svD (z_SV S) 1 N tg (svE (z_SV S) 0 8 ft N tg (z_EQ S)) (svM (z_SV S) 0 8 ft N tg (z_EQ S) (z_MI S))))) dX5_compute_42 (Nat.le_of_ble_eq_true rfl) rfl rfl iuX0 (Nat.le_of_ble_eq_true rfl) (List.mem_of_getElem? (i := 2) rfl) rfl rfl ?_
  refine q_put (j := 3) (ty := .long) dX5_compute_45 (Nat.le_of_ble_eq_true rfl) rfl rfl iuX5 tyX5_ok nmX5 (Nat.le_of_ble_eq_true rfl) uw_198 rfl rfl rfl rfl rfl (Nat.le_of_ble_eq_true rfl) ?_
  refine wp_w (u_A3 g _ _) ?_
  rw [sc_A3_BN, sc_A3_BD, sc_A3_EQ, sc_A3_MI, sc_A3_A0, sc_A3_A1, sc_A3_A2]
  exact q_vret dX5_compute_48 rfl ⟨rfl, rfl⟩
set_option maxRecDepth 100000 in
set_option maxHeartbeats 4000000 in
theorem c_X5_compute_23_5 {g : G0} (hG : Gd g) (S : SS)  (ft : Nat) (N : Nat) (tg : Nat → Nat) (h1 : tgts (z_TV S) N ft tg) : ctu g mX5_compute [.ref 23, .ref 5, .ref 15] (mixW g S) (mixW g (s_BN (s_BD (s_EQ (s_MI (s_A0 (s_A1 (s_A2 (s_A3 S (svD (z_TV S) 1 N tg (svE (z_TV S) 0 8 ft N tg (z_EQ S)) (svM (z_TV S) 0 8 ft N tg (z_EQ S) (z_MI S)))) (svN (z_TV S) 1 8 ft N tg (svE (z_TV S) 0 8 ft N tg (z_EQ S)) (svM (z_TV S) 0 8 ft N tg (z_EQ S) (z_MI S)))) (svD (z_TV S) 0 N tg (z_EQ S) (z_MI S))) (svN (z_TV S) 0 8 ft N tg (z_EQ S) (z_MI S))) (svM (z_TV S) 1 8 ft N tg (svE (z_TV S) 0 8 ft N tg (z_EQ S)) (svM (z_TV S) 0 8 ft N tg (z_EQ S) (z_MI S)))) (svE (z_TV S) 1 8 ft N tg (svE (z_TV S) 0 8 ft N tg (z_EQ S)))) (svD (z_TV S) 1 N tg (svE (z_TV S) 0 8 ft N tg (z_EQ S)) (svM (z_TV S) 0 8 ft N tg (z_EQ S) (z_MI S)))) (svN (z_TV S) 1 8 ft N tg (svE (z_TV S) 0 8 ft N tg (z_EQ S)) (svM (z_TV S) 0 8 ft N tg (z_EQ S) (z_MI S))))) := by
  refine ct_of hG [some (.ref 23), some (.ref 5), some (.ref 15)] rfl rfl rfl (Nat.le_of_ble_eq_true rfl) (fun h => ?_) rfl
  refine q_aload_n dX5_compute_0 rfl ?_
  refine q_aload_n dX5_compute_1 rfl ?_
  refine q_iconst (v := 0) dX5_compute_2 rfl ?_
  refine q_bipush (v := 8) dX5_compute_3 rfl ?_
  refine q_callVu (ν := mX0_solve) dX5_compute_5 uw_330 vX0_solve (c_X0_solve_5 hG S (0) (8) (ft) (N) (tg) (by omega) (by omega) h1) (Nat.le_of_ble_eq_true rfl) rfl rfl rfl rfl (Nat.le_of_ble_eq_true rfl) (Nat.le_of_ble_eq_true rfl) (Nat.le_of_ble_eq_true rfl) 0 (Nat.le_of_ble_eq_true rfl) ?_
  refine wp_w (w2 := mixW g (s_BN (s_BD (s_EQ (s_MI S (svM (z_TV S) 0 8 ft N tg (z_EQ S) (z_MI S))) (svE (z_TV S) 0 8 ft N tg (z_EQ S))) (svD (z_TV S) 0 N tg (z_EQ S) (z_MI S))) (svN (z_TV S) 0 8 ft N tg (z_EQ S) (z_MI S)))) rfl ?_
  refine q_aload_n dX5_compute_8 rfl ?_
  refine q_aload_n dX5_compute_9 rfl ?_
  refine q_getN (j := 2) (v := .long ((svN (z_TV S) 0 8 ft N tg (z_EQ S) (z_MI S)))) dX5_compute_10 (Nat.le_of_ble_eq_true rfl) rfl rfl iuX0 (Nat.le_of_ble_eq_true rfl) (List.mem_of_getElem? (i := 1) rfl) rfl rfl ?_
  refine q_put (j := 0) (ty := .long) dX5_compute_13 (Nat.le_of_ble_eq_true rfl) rfl rfl iuX5 tyX5_ok nmX5 (Nat.le_of_ble_eq_true rfl) uw_195 rfl rfl rfl rfl rfl (Nat.le_of_ble_eq_true rfl) ?_
  refine wp_w (u_A0 g _ _) ?_
  rw [sc_A0_BN, sc_A0_BD, sc_A0_EQ, sc_A0_MI]
  refine q_aload_n dX5_compute_16 rfl ?_
  refine q_aload_n dX5_compute_17 rfl ?_
  refine q_getN (j := 3) (v := .long ((svD (z_TV S) 0 N tg (z_EQ S) (z_MI S)))) dX5_compute_18 (Nat.le_of_ble_eq_true rfl) rfl rfl iuX0 (Nat.le_of_ble_eq_true rfl) (List.mem_of_getElem? (i := 2) rfl) rfl rfl ?_
  refine q_put (j := 1) (ty := .long) dX5_compute_21 (Nat.le_of_ble_eq_true rfl) rfl rfl iuX5 tyX5_ok nmX5 (Nat.le_of_ble_eq_true rfl) uw_196 rfl rfl rfl rfl rfl (Nat.le_of_ble_eq_true rfl) ?_
  refine wp_w (u_A1 g _ _) ?_
  rw [sc_A1_BN, sc_A1_BD, sc_A1_EQ, sc_A1_MI, sc_A1_A0]
  refine q_aload_n dX5_compute_24 rfl ?_
  refine q_aload_n dX5_compute_25 rfl ?_
  refine q_iconst (v := 1) dX5_compute_26 rfl ?_
  refine q_bipush (v := 8) dX5_compute_27 rfl ?_
  refine q_callVu (ν := mX0_solve) dX5_compute_29 uw_330 vX0_solve (c_X0_solve_5 hG (s_BN (s_BD (s_EQ (s_MI (s_A0 (s_A1 S ((svD (z_TV S) 0 N tg (z_EQ S) (z_MI S)))) ((svN (z_TV S) 0 8 ft N tg (z_EQ S) (z_MI S)))) (svM (z_TV S) 0 8 ft N tg (z_EQ S) (z_MI S))) (svE (z_TV S) 0 8 ft N tg (z_EQ S))) (svD (z_TV S) 0 N tg (z_EQ S) (z_MI S))) (svN (z_TV S) 0 8 ft N tg (z_EQ S) (z_MI S))) (1) (8) (ft) (N) (tg) (by omega) (by omega) h1) (Nat.le_of_ble_eq_true rfl) rfl rfl rfl rfl (Nat.le_of_ble_eq_true rfl) (Nat.le_of_ble_eq_true rfl) (Nat.le_of_ble_eq_true rfl) 0 (Nat.le_of_ble_eq_true rfl) ?_
  rw [sc_MI_BN, sc_MI_BD, sc_MI_EQ, ss_MI, sc_EQ_BN, sc_EQ_BD, ss_EQ, sc_BD_BN, ss_BD, ss_BN]
  refine wp_w (w2 := mixW g (s_BN (s_BD (s_EQ (s_MI (s_A0 (s_A1 S ((svD (z_TV S) 0 N tg (z_EQ S) (z_MI S)))) ((svN (z_TV S) 0 8 ft N tg (z_EQ S) (z_MI S)))) (svM (z_TV S) 1 8 ft N tg (svE (z_TV S) 0 8 ft N tg (z_EQ S)) (svM (z_TV S) 0 8 ft N tg (z_EQ S) (z_MI S)))) (svE (z_TV S) 1 8 ft N tg (svE (z_TV S) 0 8 ft N tg (z_EQ S)))) (svD (z_TV S) 1 N tg (svE (z_TV S) 0 8 ft N tg (z_EQ S)) (svM (z_TV S) 0 8 ft N tg (z_EQ S) (z_MI S)))) (svN (z_TV S) 1 8 ft N tg (svE (z_TV S) 0 8 ft N tg (z_EQ S)) (svM (z_TV S) 0 8 ft N tg (z_EQ S) (z_MI S))))) rfl ?_
  refine q_aload_n dX5_compute_32 rfl ?_
  refine q_aload_n dX5_compute_33 rfl ?_
  refine q_getN (j := 2) (v := .long ((svN (z_TV S) 1 8 ft N tg (svE (z_TV S) 0 8 ft N tg (z_EQ S)) (svM (z_TV S) 0 8 ft N tg (z_EQ S) (z_MI S))))) dX5_compute_34 (Nat.le_of_ble_eq_true rfl) rfl rfl iuX0 (Nat.le_of_ble_eq_true rfl) (List.mem_of_getElem? (i := 1) rfl) rfl rfl ?_
  refine q_put (j := 2) (ty := .long) dX5_compute_37 (Nat.le_of_ble_eq_true rfl) rfl rfl iuX5 tyX5_ok nmX5 (Nat.le_of_ble_eq_true rfl) uw_197 rfl rfl rfl rfl rfl (Nat.le_of_ble_eq_true rfl) ?_
  refine wp_w (u_A2 g _ _) ?_
  rw [sc_A2_BN, sc_A2_BD, sc_A2_EQ, sc_A2_MI, sc_A2_A0, sc_A2_A1]
  refine q_aload_n dX5_compute_40 rfl ?_
  refine q_aload_n dX5_compute_41 rfl ?_
  refine q_getN (j := 3) (v := .long ((svD (z_TV S) 1 N tg (svE (z_TV S) 0 8 ft N tg (z_EQ S)) (svM (z_TV S) 0 8 ft N tg (z_EQ S) (z_MI S))))) dX5_compute_42 (Nat.le_of_ble_eq_true rfl) rfl rfl iuX0 (Nat.le_of_ble_eq_true rfl) (List.mem_of_getElem? (i := 2) rfl) rfl rfl ?_
  refine q_put (j := 3) (ty := .long) dX5_compute_45 (Nat.le_of_ble_eq_true rfl) rfl rfl iuX5 tyX5_ok nmX5 (Nat.le_of_ble_eq_true rfl) uw_198 rfl rfl rfl rfl rfl (Nat.le_of_ble_eq_true rfl) ?_
  refine wp_w (u_A3 g _ _) ?_
  rw [sc_A3_BN, sc_A3_BD, sc_A3_EQ, sc_A3_MI, sc_A3_A0, sc_A3_A1, sc_A3_A2]
  exact q_vret dX5_compute_48 rfl ⟨rfl, rfl⟩
set_option maxRecDepth 100000 in
set_option maxHeartbeats 4000000 in
theorem c_X5_compute_24_5 {g : G0} (hG : Gd g) (S : SS)  (ft : Nat) (N : Nat) (tg : Nat → Nat) (h1 : tgts (z_TV S) N ft tg) : ctu g mX5_compute [.ref 24, .ref 5, .ref 15] (mixW g S) (mixW g (s_BN (s_BD (s_EQ (s_MI (s_B0 (s_B1 (s_B2 (s_B3 S (svD (z_TV S) 1 N tg (svE (z_TV S) 0 8 ft N tg (z_EQ S)) (svM (z_TV S) 0 8 ft N tg (z_EQ S) (z_MI S)))) (svN (z_TV S) 1 8 ft N tg (svE (z_TV S) 0 8 ft N tg (z_EQ S)) (svM (z_TV S) 0 8 ft N tg (z_EQ S) (z_MI S)))) (svD (z_TV S) 0 N tg (z_EQ S) (z_MI S))) (svN (z_TV S) 0 8 ft N tg (z_EQ S) (z_MI S))) (svM (z_TV S) 1 8 ft N tg (svE (z_TV S) 0 8 ft N tg (z_EQ S)) (svM (z_TV S) 0 8 ft N tg (z_EQ S) (z_MI S)))) (svE (z_TV S) 1 8 ft N tg (svE (z_TV S) 0 8 ft N tg (z_EQ S)))) (svD (z_TV S) 1 N tg (svE (z_TV S) 0 8 ft N tg (z_EQ S)) (svM (z_TV S) 0 8 ft N tg (z_EQ S) (z_MI S)))) (svN (z_TV S) 1 8 ft N tg (svE (z_TV S) 0 8 ft N tg (z_EQ S)) (svM (z_TV S) 0 8 ft N tg (z_EQ S) (z_MI S))))) := by
  refine ct_of hG [some (.ref 24), some (.ref 5), some (.ref 15)] rfl rfl rfl (Nat.le_of_ble_eq_true rfl) (fun h => ?_) rfl
  refine q_aload_n dX5_compute_0 rfl ?_
  refine q_aload_n dX5_compute_1 rfl ?_
  refine q_iconst (v := 0) dX5_compute_2 rfl ?_
  refine q_bipush (v := 8) dX5_compute_3 rfl ?_
  refine q_callVu (ν := mX0_solve) dX5_compute_5 uw_330 vX0_solve (c_X0_solve_5 hG S (0) (8) (ft) (N) (tg) (by omega) (by omega) h1) (Nat.le_of_ble_eq_true rfl) rfl rfl rfl rfl (Nat.le_of_ble_eq_true rfl) (Nat.le_of_ble_eq_true rfl) (Nat.le_of_ble_eq_true rfl) 0 (Nat.le_of_ble_eq_true rfl) ?_
  refine wp_w (w2 := mixW g (s_BN (s_BD (s_EQ (s_MI S (svM (z_TV S) 0 8 ft N tg (z_EQ S) (z_MI S))) (svE (z_TV S) 0 8 ft N tg (z_EQ S))) (svD (z_TV S) 0 N tg (z_EQ S) (z_MI S))) (svN (z_TV S) 0 8 ft N tg (z_EQ S) (z_MI S)))) rfl ?_
  refine q_aload_n dX5_compute_8 rfl ?_
  refine q_aload_n dX5_compute_9 rfl ?_
  refine q_getN (j := 2) (v := .long ((svN (z_TV S) 0 8 ft N tg (z_EQ S) (z_MI S)))) dX5_compute_10 (Nat.le_of_ble_eq_true rfl) rfl rfl iuX0 (Nat.le_of_ble_eq_true rfl) (List.mem_of_getElem? (i := 1) rfl) rfl rfl ?_
  refine q_put (j := 0) (ty := .long) dX5_compute_13 (Nat.le_of_ble_eq_true rfl) rfl rfl iuX5 tyX5_ok nmX5 (Nat.le_of_ble_eq_true rfl) uw_195 rfl rfl rfl rfl rfl (Nat.le_of_ble_eq_true rfl) ?_
  refine wp_w (u_B0 g _ _) ?_
  rw [sc_B0_BN, sc_B0_BD, sc_B0_EQ, sc_B0_MI]
  refine q_aload_n dX5_compute_16 rfl ?_
  refine q_aload_n dX5_compute_17 rfl ?_
  refine q_getN (j := 3) (v := .long ((svD (z_TV S) 0 N tg (z_EQ S) (z_MI S)))) dX5_compute_18 (Nat.le_of_ble_eq_true rfl) rfl rfl iuX0 (Nat.le_of_ble_eq_true rfl) (List.mem_of_getElem? (i := 2) rfl) rfl rfl ?_
  refine q_put (j := 1) (ty := .long) dX5_compute_21 (Nat.le_of_ble_eq_true rfl) rfl rfl iuX5 tyX5_ok nmX5 (Nat.le_of_ble_eq_true rfl) uw_196 rfl rfl rfl rfl rfl (Nat.le_of_ble_eq_true rfl) ?_
  refine wp_w (u_B1 g _ _) ?_
  rw [sc_B1_BN, sc_B1_BD, sc_B1_EQ, sc_B1_MI, sc_B1_B0]
  refine q_aload_n dX5_compute_24 rfl ?_
  refine q_aload_n dX5_compute_25 rfl ?_
  refine q_iconst (v := 1) dX5_compute_26 rfl ?_
  refine q_bipush (v := 8) dX5_compute_27 rfl ?_
  refine q_callVu (ν := mX0_solve) dX5_compute_29 uw_330 vX0_solve (c_X0_solve_5 hG (s_BN (s_BD (s_EQ (s_MI (s_B0 (s_B1 S ((svD (z_TV S) 0 N tg (z_EQ S) (z_MI S)))) ((svN (z_TV S) 0 8 ft N tg (z_EQ S) (z_MI S)))) (svM (z_TV S) 0 8 ft N tg (z_EQ S) (z_MI S))) (svE (z_TV S) 0 8 ft N tg (z_EQ S))) (svD (z_TV S) 0 N tg (z_EQ S) (z_MI S))) (svN (z_TV S) 0 8 ft N tg (z_EQ S) (z_MI S))) (1) (8) (ft) (N) (tg) (by omega) (by omega) h1) (Nat.le_of_ble_eq_true rfl) rfl rfl rfl rfl (Nat.le_of_ble_eq_true rfl) (Nat.le_of_ble_eq_true rfl) (Nat.le_of_ble_eq_true rfl) 0 (Nat.le_of_ble_eq_true rfl) ?_
  rw [sc_MI_BN, sc_MI_BD, sc_MI_EQ, ss_MI, sc_EQ_BN, sc_EQ_BD, ss_EQ, sc_BD_BN, ss_BD, ss_BN]
  refine wp_w (w2 := mixW g (s_BN (s_BD (s_EQ (s_MI (s_B0 (s_B1 S ((svD (z_TV S) 0 N tg (z_EQ S) (z_MI S)))) ((svN (z_TV S) 0 8 ft N tg (z_EQ S) (z_MI S)))) (svM (z_TV S) 1 8 ft N tg (svE (z_TV S) 0 8 ft N tg (z_EQ S)) (svM (z_TV S) 0 8 ft N tg (z_EQ S) (z_MI S)))) (svE (z_TV S) 1 8 ft N tg (svE (z_TV S) 0 8 ft N tg (z_EQ S)))) (svD (z_TV S) 1 N tg (svE (z_TV S) 0 8 ft N tg (z_EQ S)) (svM (z_TV S) 0 8 ft N tg (z_EQ S) (z_MI S)))) (svN (z_TV S) 1 8 ft N tg (svE (z_TV S) 0 8 ft N tg (z_EQ S)) (svM (z_TV S) 0 8 ft N tg (z_EQ S) (z_MI S))))) rfl ?_
  refine q_aload_n dX5_compute_32 rfl ?_
  refine q_aload_n dX5_compute_33 rfl ?_
  refine q_getN (j := 2) (v := .long ((svN (z_TV S) 1 8 ft N tg (svE (z_TV S) 0 8 ft N tg (z_EQ S)) (svM (z_TV S) 0 8 ft N tg (z_EQ S) (z_MI S))))) dX5_compute_34 (Nat.le_of_ble_eq_true rfl) rfl rfl iuX0 (Nat.le_of_ble_eq_true rfl) (List.mem_of_getElem? (i := 1) rfl) rfl rfl ?_
  refine q_put (j := 2) (ty := .long) dX5_compute_37 (Nat.le_of_ble_eq_true rfl) rfl rfl iuX5 tyX5_ok nmX5 (Nat.le_of_ble_eq_true rfl) uw_197 rfl rfl rfl rfl rfl (Nat.le_of_ble_eq_true rfl) ?_
  refine wp_w (u_B2 g _ _) ?_
  rw [sc_B2_BN, sc_B2_BD, sc_B2_EQ, sc_B2_MI, sc_B2_B0, sc_B2_B1]
  refine q_aload_n dX5_compute_40 rfl ?_
  refine q_aload_n dX5_compute_41 rfl ?_
  refine q_getN (j := 3) (v := .long ((svD (z_TV S) 1 N tg (svE (z_TV S) 0 8 ft N tg (z_EQ S)) (svM (z_TV S) 0 8 ft N tg (z_EQ S) (z_MI S))))) dX5_compute_42 (Nat.le_of_ble_eq_true rfl) rfl rfl iuX0 (Nat.le_of_ble_eq_true rfl) (List.mem_of_getElem? (i := 2) rfl) rfl rfl ?_
  refine q_put (j := 3) (ty := .long) dX5_compute_45 (Nat.le_of_ble_eq_true rfl) rfl rfl iuX5 tyX5_ok nmX5 (Nat.le_of_ble_eq_true rfl) uw_198 rfl rfl rfl rfl rfl (Nat.le_of_ble_eq_true rfl) ?_
  refine wp_w (u_B3 g _ _) ?_
  rw [sc_B3_BN, sc_B3_BD, sc_B3_EQ, sc_B3_MI, sc_B3_B0, sc_B3_B1, sc_B3_B2]
  exact q_vret dX5_compute_48 rfl ⟨rfl, rfl⟩
set_option maxRecDepth 100000 in
set_option maxHeartbeats 4000000 in
theorem c_X5_compute_25_5 {g : G0} (hG : Gd g) (S : SS)  (ft : Nat) (N : Nat) (tg : Nat → Nat) (h1 : tgts (z_TV S) N ft tg) : ctu g mX5_compute [.ref 25, .ref 5, .ref 15] (mixW g S) (mixW g (s_BN (s_BD (s_EQ (s_MI (s_C0 (s_C1 (s_C2 (s_C3 S (svD (z_TV S) 1 N tg (svE (z_TV S) 0 8 ft N tg (z_EQ S)) (svM (z_TV S) 0 8 ft N tg (z_EQ S) (z_MI S)))) (svN (z_TV S) 1 8 ft N tg (svE (z_TV S) 0 8 ft N tg (z_EQ S)) (svM (z_TV S) 0 8 ft N tg (z_EQ S) (z_MI S)))) (svD (z_TV S) 0 N tg (z_EQ S) (z_MI S))) (svN (z_TV S) 0 8 ft N tg (z_EQ S) (z_MI S))) (svM (z_TV S) 1 8 ft N tg (svE (z_TV S) 0 8 ft N tg (z_EQ S)) (svM (z_TV S) 0 8 ft N tg (z_EQ S) (z_MI S)))) (svE (z_TV S) 1 8 ft N tg (svE (z_TV S) 0 8 ft N tg (z_EQ S)))) (svD (z_TV S) 1 N tg (svE (z_TV S) 0 8 ft N tg (z_EQ S)) (svM (z_TV S) 0 8 ft N tg (z_EQ S) (z_MI S)))) (svN (z_TV S) 1 8 ft N tg (svE (z_TV S) 0 8 ft N tg (z_EQ S)) (svM (z_TV S) 0 8 ft N tg (z_EQ S) (z_MI S))))) := by
  refine ct_of hG [some (.ref 25), some (.ref 5), some (.ref 15)] rfl rfl rfl (Nat.le_of_ble_eq_true rfl) (fun h => ?_) rfl
  refine q_aload_n dX5_compute_0 rfl ?_
  refine q_aload_n dX5_compute_1 rfl ?_
  refine q_iconst (v := 0) dX5_compute_2 rfl ?_
  refine q_bipush (v := 8) dX5_compute_3 rfl ?_
  refine q_callVu (ν := mX0_solve) dX5_compute_5 uw_330 vX0_solve (c_X0_solve_5 hG S (0) (8) (ft) (N) (tg) (by omega) (by omega) h1) (Nat.le_of_ble_eq_true rfl) rfl rfl rfl rfl (Nat.le_of_ble_eq_true rfl) (Nat.le_of_ble_eq_true rfl) (Nat.le_of_ble_eq_true rfl) 0 (Nat.le_of_ble_eq_true rfl) ?_
  refine wp_w (w2 := mixW g (s_BN (s_BD (s_EQ (s_MI S (svM (z_TV S) 0 8 ft N tg (z_EQ S) (z_MI S))) (svE (z_TV S) 0 8 ft N tg (z_EQ S))) (svD (z_TV S) 0 N tg (z_EQ S) (z_MI S))) (svN (z_TV S) 0 8 ft N tg (z_EQ S) (z_MI S)))) rfl ?_
  refine q_aload_n dX5_compute_8 rfl ?_
  refine q_aload_n dX5_compute_9 rfl ?_
  refine q_getN (j := 2) (v := .long ((svN (z_TV S) 0 8 ft N tg (z_EQ S) (z_MI S)))) dX5_compute_10 (Nat.le_of_ble_eq_true rfl) rfl rfl iuX0 (Nat.le_of_ble_eq_true rfl) (List.mem_of_getElem? (i := 1) rfl) rfl rfl ?_
  refine q_put (j := 0) (ty := .long) dX5_compute_13 (Nat.le_of_ble_eq_true rfl) rfl rfl iuX5 tyX5_ok nmX5 (Nat.le_of_ble_eq_true rfl) uw_195 rfl rfl rfl rfl rfl (Nat.le_of_ble_eq_true rfl) ?_
  refine wp_w (u_C0 g _ _) ?_
  rw [sc_C0_BN, sc_C0_BD, sc_C0_EQ, sc_C0_MI]
  refine q_aload_n dX5_compute_16 rfl ?_
  refine q_aload_n dX5_compute_17 rfl ?_
  refine q_getN (j := 3) (v := .long ((svD (z_TV S) 0 N tg (z_EQ S) (z_MI S)))) dX5_compute_18 (Nat.le_of_ble_eq_true rfl) rfl rfl iuX0 (Nat.le_of_ble_eq_true rfl) (List.mem_of_getElem? (i := 2) rfl) rfl rfl ?_
  refine q_put (j := 1) (ty := .long) dX5_compute_21 (Nat.le_of_ble_eq_true rfl) rfl rfl iuX5 tyX5_ok nmX5 (Nat.le_of_ble_eq_true rfl) uw_196 rfl rfl rfl rfl rfl (Nat.le_of_ble_eq_true rfl) ?_
  refine wp_w (u_C1 g _ _) ?_
  rw [sc_C1_BN, sc_C1_BD, sc_C1_EQ, sc_C1_MI, sc_C1_C0]
  refine q_aload_n dX5_compute_24 rfl ?_
  refine q_aload_n dX5_compute_25 rfl ?_
  refine q_iconst (v := 1) dX5_compute_26 rfl ?_
  refine q_bipush (v := 8) dX5_compute_27 rfl ?_
  refine q_callVu (ν := mX0_solve) dX5_compute_29 uw_330 vX0_solve (c_X0_solve_5 hG (s_BN (s_BD (s_EQ (s_MI (s_C0 (s_C1 S ((svD (z_TV S) 0 N tg (z_EQ S) (z_MI S)))) ((svN (z_TV S) 0 8 ft N tg (z_EQ S) (z_MI S)))) (svM (z_TV S) 0 8 ft N tg (z_EQ S) (z_MI S))) (svE (z_TV S) 0 8 ft N tg (z_EQ S))) (svD (z_TV S) 0 N tg (z_EQ S) (z_MI S))) (svN (z_TV S) 0 8 ft N tg (z_EQ S) (z_MI S))) (1) (8) (ft) (N) (tg) (by omega) (by omega) h1) (Nat.le_of_ble_eq_true rfl) rfl rfl rfl rfl (Nat.le_of_ble_eq_true rfl) (Nat.le_of_ble_eq_true rfl) (Nat.le_of_ble_eq_true rfl) 0 (Nat.le_of_ble_eq_true rfl) ?_
  rw [sc_MI_BN, sc_MI_BD, sc_MI_EQ, ss_MI, sc_EQ_BN, sc_EQ_BD, ss_EQ, sc_BD_BN, ss_BD, ss_BN]
  refine wp_w (w2 := mixW g (s_BN (s_BD (s_EQ (s_MI (s_C0 (s_C1 S ((svD (z_TV S) 0 N tg (z_EQ S) (z_MI S)))) ((svN (z_TV S) 0 8 ft N tg (z_EQ S) (z_MI S)))) (svM (z_TV S) 1 8 ft N tg (svE (z_TV S) 0 8 ft N tg (z_EQ S)) (svM (z_TV S) 0 8 ft N tg (z_EQ S) (z_MI S)))) (svE (z_TV S) 1 8 ft N tg (svE (z_TV S) 0 8 ft N tg (z_EQ S)))) (svD (z_TV S) 1 N tg (svE (z_TV S) 0 8 ft N tg (z_EQ S)) (svM (z_TV S) 0 8 ft N tg (z_EQ S) (z_MI S)))) (svN (z_TV S) 1 8 ft N tg (svE (z_TV S) 0 8 ft N tg (z_EQ S)) (svM (z_TV S) 0 8 ft N tg (z_EQ S) (z_MI S))))) rfl ?_
  refine q_aload_n dX5_compute_32 rfl ?_
  refine q_aload_n dX5_compute_33 rfl ?_
  refine q_getN (j := 2) (v := .long ((svN (z_TV S) 1 8 ft N tg (svE (z_TV S) 0 8 ft N tg (z_EQ S)) (svM (z_TV S) 0 8 ft N tg (z_EQ S) (z_MI S))))) dX5_compute_34 (Nat.le_of_ble_eq_true rfl) rfl rfl iuX0 (Nat.le_of_ble_eq_true rfl) (List.mem_of_getElem? (i := 1) rfl) rfl rfl ?_
  refine q_put (j := 2) (ty := .long) dX5_compute_37 (Nat.le_of_ble_eq_true rfl) rfl rfl iuX5 tyX5_ok nmX5 (Nat.le_of_ble_eq_true rfl) uw_197 rfl rfl rfl rfl rfl (Nat.le_of_ble_eq_true rfl) ?_
  refine wp_w (u_C2 g _ _) ?_
  rw [sc_C2_BN, sc_C2_BD, sc_C2_EQ, sc_C2_MI, sc_C2_C0, sc_C2_C1]
  refine q_aload_n dX5_compute_40 rfl ?_
  refine q_aload_n dX5_compute_41 rfl ?_
  refine q_getN (j := 3) (v := .long ((svD (z_TV S) 1 N tg (svE (z_TV S) 0 8 ft N tg (z_EQ S)) (svM (z_TV S) 0 8 ft N tg (z_EQ S) (z_MI S))))) dX5_compute_42 (Nat.le_of_ble_eq_true rfl) rfl rfl iuX0 (Nat.le_of_ble_eq_true rfl) (List.mem_of_getElem? (i := 2) rfl) rfl rfl ?_
  refine q_put (j := 3) (ty := .long) dX5_compute_45 (Nat.le_of_ble_eq_true rfl) rfl rfl iuX5 tyX5_ok nmX5 (Nat.le_of_ble_eq_true rfl) uw_198 rfl rfl rfl rfl rfl (Nat.le_of_ble_eq_true rfl) ?_
  refine wp_w (u_C3 g _ _) ?_
  rw [sc_C3_BN, sc_C3_BD, sc_C3_EQ, sc_C3_MI, sc_C3_C0, sc_C3_C1, sc_C3_C2]
  exact q_vret dX5_compute_48 rfl ⟨rfl, rfl⟩
set_option maxRecDepth 100000 in
set_option maxHeartbeats 4000000 in
theorem c_X5_exist {g : G0} (hG : Gd g) (S : SS)    : ctv g mX5_exist [.ref 23] (mixW g S) (.int (pI (0 < (z_A1 S) ∧ 0 < (z_A3 S)))) (mixW g S) := by
  refine ct_of hG [some (.ref 23)] rfl rfl rfl (Nat.le_of_ble_eq_true rfl) (fun h => ?_) rfl
  refine q_aload_n dX5_exist_0 rfl ?_
  refine q_get (j := 1) (v := .long ((z_A1 S))) dX5_exist_1 (Nat.le_of_ble_eq_true rfl) rfl rfl iuX5 (Nat.le_of_ble_eq_true rfl) uw_196 rfl rfl ?_
  refine q_lconst (v := 0) dX5_exist_4 rfl ?_
  refine q_lcmp_le 22 dX5_exist_5 dX5_exist_6 rfl (fun c5 => ?_) (fun c5 => ?_)
  · refine q_iconst (v := 0) dX5_exist_22 rfl ?_
    exact q_zret dX5_exist_23 rfl rfl ⟨by rw [pI_f (by first | exact fun z => absurd c5 (Int64.not_le.mpr z.1) | exact fun z => absurd c14 (Int64.not_le.mpr z.2))], rfl⟩
  · refine q_aload_n dX5_exist_9 rfl ?_
    refine q_get (j := 3) (v := .long ((z_A3 S))) dX5_exist_10 (Nat.le_of_ble_eq_true rfl) rfl rfl iuX5 (Nat.le_of_ble_eq_true rfl) uw_198 rfl rfl ?_
    refine q_lconst (v := 0) dX5_exist_13 rfl ?_
    refine q_lcmp_le 22 dX5_exist_14 dX5_exist_15 rfl (fun c14 => ?_) (fun c14 => ?_)
    · refine q_iconst (v := 0) dX5_exist_22 rfl ?_
      exact q_zret dX5_exist_23 rfl rfl ⟨by rw [pI_f (by first | exact fun z => absurd c5 (Int64.not_le.mpr z.1) | exact fun z => absurd c14 (Int64.not_le.mpr z.2))], rfl⟩
    · refine q_iconst (v := 1) dX5_exist_18 rfl ?_
      refine q_goto 23 dX5_exist_19 rfl ?_
      exact q_zret dX5_exist_23 rfl rfl ⟨by rw [pI_t ⟨Int64.not_le.mp c5, Int64.not_le.mp c14⟩], rfl⟩
set_option maxRecDepth 100000 in
set_option maxHeartbeats 4000000 in
theorem c_X5_rec_3 {g : G0} (hG : Gd g) (S : SS)    : ctv g mX5_recoveryPerMille [.ref 23, .ref 3] (mixW g S) (.int (recF ((z_SV S) (2 + 0)) (z_A0 S) (z_A1 S))) (mixW g S) := by
  refine ct_of hG [some (.ref 23), some (.ref 3)] rfl rfl rfl (Nat.le_of_ble_eq_true rfl) (fun h => ?_) rfl
  refine q_aload_n dX5_recoveryPerMille_0 rfl ?_
  refine q_iconst (v := 0) dX5_recoveryPerMille_1 rfl ?_
  refine q_callVv (ν := mX7_feed) dX5_recoveryPerMille_2 uw_458 vX7_feed (c_X7_feed_3 hG S (0) (by omega)) (Nat.le_of_ble_eq_true rfl) rfl rfl rfl rfl (Nat.le_of_ble_eq_true rfl) (Nat.le_of_ble_eq_true rfl) (Nat.le_of_ble_eq_true rfl) 0 (Nat.le_of_ble_eq_true rfl) ?_
  refine q_if_le 34 dX5_recoveryPerMille_5 rfl (fun c5 => ?_) (fun c5 => ?_)
  · refine q_iconst (v := 0) dX5_recoveryPerMille_34 rfl ?_
    exact q_iret dX5_recoveryPerMille_35 rfl ⟨by rw [recF, if_neg (by first | exact fun z => absurd c5 (Int32.not_le.mpr z.1) | exact fun z => absurd c13 (Int64.not_le.mpr z.2))], rfl⟩
  · refine q_aload_n dX5_recoveryPerMille_8 rfl ?_
    refine q_get (j := 1) (v := .long ((z_A1 S))) dX5_recoveryPerMille_9 (Nat.le_of_ble_eq_true rfl) rfl rfl iuX5 (Nat.le_of_ble_eq_true rfl) uw_196 rfl rfl ?_
    refine q_lconst (v := 0) dX5_recoveryPerMille_12 rfl ?_
    refine q_lcmp_le 34 dX5_recoveryPerMille_13 dX5_recoveryPerMille_14 rfl (fun c13 => ?_) (fun c13 => ?_)
    · refine q_iconst (v := 0) dX5_recoveryPerMille_34 rfl ?_
      exact q_iret dX5_recoveryPerMille_35 rfl ⟨by rw [recF, if_neg (by first | exact fun z => absurd c5 (Int32.not_le.mpr z.1) | exact fun z => absurd c13 (Int64.not_le.mpr z.2))], rfl⟩
    · refine q_ldc2 dX5_recoveryPerMille_17 uw_462 ?_
      refine q_aload_n dX5_recoveryPerMille_20 rfl ?_
      refine q_get (j := 0) (v := .long ((z_A0 S))) dX5_recoveryPerMille_21 (Nat.le_of_ble_eq_true rfl) rfl rfl iuX5 (Nat.le_of_ble_eq_true rfl) uw_195 rfl rfl ?_
      refine q_lmul dX5_recoveryPerMille_24 ?_
      refine q_aload_n dX5_recoveryPerMille_25 rfl ?_
      refine q_get (j := 1) (v := .long ((z_A1 S))) dX5_recoveryPerMille_26 (Nat.le_of_ble_eq_true rfl) rfl rfl iuX5 (Nat.le_of_ble_eq_true rfl) uw_196 rfl rfl ?_
      refine q_ldiv dX5_recoveryPerMille_29 (fun z => absurd (Int64.not_le.mp c13) (by rw [z]; decide)) ?_
      refine q_l2i dX5_recoveryPerMille_30 ?_
      refine q_goto 35 dX5_recoveryPerMille_31 rfl ?_
      exact q_iret dX5_recoveryPerMille_35 rfl ⟨by rw [recF, if_pos ⟨Int32.not_le.mp c5, Int64.not_le.mp c13⟩], rfl⟩
set_option maxRecDepth 100000 in
set_option maxHeartbeats 4000000 in
theorem c_X5_rec_5 {g : G0} (hG : Gd g) (S : SS)    : ctv g mX5_recoveryPerMille [.ref 23, .ref 5] (mixW g S) (.int (recF ((z_TV S) (2 + 0)) (z_A0 S) (z_A1 S))) (mixW g S) := by
  refine ct_of hG [some (.ref 23), some (.ref 5)] rfl rfl rfl (Nat.le_of_ble_eq_true rfl) (fun h => ?_) rfl
  refine q_aload_n dX5_recoveryPerMille_0 rfl ?_
  refine q_iconst (v := 0) dX5_recoveryPerMille_1 rfl ?_
  refine q_callVv (ν := mX7_feed) dX5_recoveryPerMille_2 uw_458 vX7_feed (c_X7_feed_5 hG S (0) (by omega)) (Nat.le_of_ble_eq_true rfl) rfl rfl rfl rfl (Nat.le_of_ble_eq_true rfl) (Nat.le_of_ble_eq_true rfl) (Nat.le_of_ble_eq_true rfl) 0 (Nat.le_of_ble_eq_true rfl) ?_
  refine q_if_le 34 dX5_recoveryPerMille_5 rfl (fun c5 => ?_) (fun c5 => ?_)
  · refine q_iconst (v := 0) dX5_recoveryPerMille_34 rfl ?_
    exact q_iret dX5_recoveryPerMille_35 rfl ⟨by rw [recF, if_neg (by first | exact fun z => absurd c5 (Int32.not_le.mpr z.1) | exact fun z => absurd c13 (Int64.not_le.mpr z.2))], rfl⟩
  · refine q_aload_n dX5_recoveryPerMille_8 rfl ?_
    refine q_get (j := 1) (v := .long ((z_A1 S))) dX5_recoveryPerMille_9 (Nat.le_of_ble_eq_true rfl) rfl rfl iuX5 (Nat.le_of_ble_eq_true rfl) uw_196 rfl rfl ?_
    refine q_lconst (v := 0) dX5_recoveryPerMille_12 rfl ?_
    refine q_lcmp_le 34 dX5_recoveryPerMille_13 dX5_recoveryPerMille_14 rfl (fun c13 => ?_) (fun c13 => ?_)
    · refine q_iconst (v := 0) dX5_recoveryPerMille_34 rfl ?_
      exact q_iret dX5_recoveryPerMille_35 rfl ⟨by rw [recF, if_neg (by first | exact fun z => absurd c5 (Int32.not_le.mpr z.1) | exact fun z => absurd c13 (Int64.not_le.mpr z.2))], rfl⟩
    · refine q_ldc2 dX5_recoveryPerMille_17 uw_462 ?_
      refine q_aload_n dX5_recoveryPerMille_20 rfl ?_
      refine q_get (j := 0) (v := .long ((z_A0 S))) dX5_recoveryPerMille_21 (Nat.le_of_ble_eq_true rfl) rfl rfl iuX5 (Nat.le_of_ble_eq_true rfl) uw_195 rfl rfl ?_
      refine q_lmul dX5_recoveryPerMille_24 ?_
      refine q_aload_n dX5_recoveryPerMille_25 rfl ?_
      refine q_get (j := 1) (v := .long ((z_A1 S))) dX5_recoveryPerMille_26 (Nat.le_of_ble_eq_true rfl) rfl rfl iuX5 (Nat.le_of_ble_eq_true rfl) uw_196 rfl rfl ?_
      refine q_ldiv dX5_recoveryPerMille_29 (fun z => absurd (Int64.not_le.mp c13) (by rw [z]; decide)) ?_
      refine q_l2i dX5_recoveryPerMille_30 ?_
      refine q_goto 35 dX5_recoveryPerMille_31 rfl ?_
      exact q_iret dX5_recoveryPerMille_35 rfl ⟨by rw [recF, if_pos ⟨Int32.not_le.mp c5, Int64.not_le.mp c13⟩], rfl⟩
set_option maxRecDepth 100000 in
set_option maxHeartbeats 4000000 in
theorem c_X5_gra {g : G0} (hG : Gd g) (S : SS)    : ctv g mX5_gradePerMille [.ref 23, .ref 3] (mixW g S) (.int (graF ((z_SV S) (2 + 0)) ((z_SV S) (2 + 1)) (z_A0 S) (z_A1 S) (z_A2 S) (z_A3 S))) (mixW g S) := by
  refine ct_of hG [some (.ref 23), some (.ref 3), none, none, none, none, none, none] rfl rfl rfl (Nat.le_of_ble_eq_true rfl) (fun h => ?_) rfl
  refine q_aload_n dX5_gradePerMille_0 rfl ?_
  refine q_iconst (v := 0) dX5_gradePerMille_1 rfl ?_
  refine q_callVv (ν := mX7_feed) dX5_gradePerMille_2 uw_458 vX7_feed (c_X7_feed_3 hG S (0) (by omega)) (Nat.le_of_ble_eq_true rfl) rfl rfl rfl rfl (Nat.le_of_ble_eq_true rfl) (Nat.le_of_ble_eq_true rfl) (Nat.le_of_ble_eq_true rfl) 0 (Nat.le_of_ble_eq_true rfl) ?_
  refine q_aload_n dX5_gradePerMille_5 rfl ?_
  refine q_get (j := 0) (v := .long ((z_A0 S))) dX5_gradePerMille_6 (Nat.le_of_ble_eq_true rfl) rfl rfl iuX5 (Nat.le_of_ble_eq_true rfl) uw_195 rfl rfl ?_
  refine q_aload_n dX5_gradePerMille_9 rfl ?_
  refine q_get (j := 1) (v := .long ((z_A1 S))) dX5_gradePerMille_10 (Nat.le_of_ble_eq_true rfl) rfl rfl iuX5 (Nat.le_of_ble_eq_true rfl) uw_196 rfl rfl ?_
  refine q_callSv (ν := mX5_millionths) dX5_gradePerMille_13 uw_838 vX5_millionths (c_X5_mil hG S ((((z_SV S) (2 + 0)))) (((z_A0 S))) (((z_A1 S)))) rfl rfl (Nat.le_of_ble_eq_true rfl) (Nat.le_of_ble_eq_true rfl) (Nat.le_of_ble_eq_true rfl) 0 (Nat.le_of_ble_eq_true rfl) ?_
  refine q_lst2 dX5_gradePerMille_16 (Nat.le_of_ble_eq_true rfl) rfl ?_
  refine q_aload_n dX5_gradePerMille_17 rfl ?_
  refine q_iconst (v := 1) dX5_gradePerMille_18 rfl ?_
  refine q_callVv (ν := mX7_feed) dX5_gradePerMille_19 uw_458 vX7_feed (c_X7_feed_3 hG S (1) (by omega)) (Nat.le_of_ble_eq_true rfl) rfl rfl rfl rfl (Nat.le_of_ble_eq_true rfl) (Nat.le_of_ble_eq_true rfl) (Nat.le_of_ble_eq_true rfl) 0 (Nat.le_of_ble_eq_true rfl) ?_
  refine q_aload_n dX5_gradePerMille_22 rfl ?_
  refine q_get (j := 2) (v := .long ((z_A2 S))) dX5_gradePerMille_23 (Nat.le_of_ble_eq_true rfl) rfl rfl iuX5 (Nat.le_of_ble_eq_true rfl) uw_197 rfl rfl ?_
  refine q_aload_n dX5_gradePerMille_26 rfl ?_
  refine q_get (j := 3) (v := .long ((z_A3 S))) dX5_gradePerMille_27 (Nat.le_of_ble_eq_true rfl) rfl rfl iuX5 (Nat.le_of_ble_eq_true rfl) uw_198 rfl rfl ?_
  refine q_callSv (ν := mX5_millionths) dX5_gradePerMille_30 uw_838 vX5_millionths (c_X5_mil hG S ((((z_SV S) (2 + 1)))) (((z_A2 S))) (((z_A3 S)))) rfl rfl (Nat.le_of_ble_eq_true rfl) (Nat.le_of_ble_eq_true rfl) (Nat.le_of_ble_eq_true rfl) 0 (Nat.le_of_ble_eq_true rfl) ?_
  refine q_lst4 dX5_gradePerMille_33 (Nat.le_of_ble_eq_true rfl) rfl ?_
  refine q_lload_n dX5_gradePerMille_35 rfl ?_
  refine q_lload dX5_gradePerMille_36 rfl ?_
  refine q_ladd dX5_gradePerMille_38 ?_
  refine q_lst6 dX5_gradePerMille_39 (Nat.le_of_ble_eq_true rfl) rfl ?_
  refine q_lload dX5_gradePerMille_41 rfl ?_
  refine q_lconst (v := 0) dX5_gradePerMille_43 rfl ?_
  refine q_lcmp_le 60 dX5_gradePerMille_44 dX5_gradePerMille_45 rfl (fun c44 => ?_) (fun c44 => ?_)
  · refine q_iconst (v := 0) dX5_gradePerMille_60 rfl ?_
    exact q_iret dX5_gradePerMille_61 rfl ⟨by rw [graF, if_neg (Int64.not_lt.mpr c44)], rfl⟩
  · refine q_ldc2 dX5_gradePerMille_48 uw_462 ?_
    refine q_lload_n dX5_gradePerMille_51 rfl ?_
    refine q_lmul dX5_gradePerMille_52 ?_
    refine q_lload dX5_gradePerMille_53 rfl ?_
    refine q_ldiv dX5_gradePerMille_55 (fun z => absurd (Int64.not_le.mp c44) (by rw [z]; decide)) ?_
    refine q_l2i dX5_gradePerMille_56 ?_
    refine q_goto 61 dX5_gradePerMille_57 rfl ?_
    exact q_iret dX5_gradePerMille_61 rfl ⟨by rw [graF, if_pos (Int64.not_le.mp c44)], rfl⟩
set_option maxRecDepth 100000 in
set_option maxHeartbeats 4000000 in
theorem c_X5_extend {g : G0} (hG : Gd g) (S : SS) (r : Int32)   : ctu g mX5_extend [.ref 23, .ref 24, .ref 25, .int r] (mixW g S) (mixW g (s_A0 (s_A1 (s_A2 (s_A3 S ((z_B3 S) + r.toInt64 * ((z_C3 S) - (z_B3 S)))) ((z_B2 S) + r.toInt64 * ((z_C2 S) - (z_B2 S)))) ((z_B1 S) + r.toInt64 * ((z_C1 S) - (z_B1 S)))) ((z_B0 S) + r.toInt64 * ((z_C0 S) - (z_B0 S))))) := by
  refine ct_of hG [some (.ref 23), some (.ref 24), some (.ref 25), some (.int (r))] rfl rfl rfl (Nat.le_of_ble_eq_true rfl) (fun h => ?_) rfl
  refine q_aload_n dX5_extend_0 rfl ?_
  refine q_aload_n dX5_extend_1 rfl ?_
  refine q_get (j := 0) (v := .long ((z_B0 S))) dX5_extend_2 (Nat.le_of_ble_eq_true rfl) rfl rfl iuX5 (Nat.le_of_ble_eq_true rfl) uw_195 rfl rfl ?_
  refine q_iload_n dX5_extend_5 rfl ?_
  refine q_i2l dX5_extend_6 ?_
  refine q_aload_n dX5_extend_7 rfl ?_
  refine q_get (j := 0) (v := .long ((z_C0 S))) dX5_extend_8 (Nat.le_of_ble_eq_true rfl) rfl rfl iuX5 (Nat.le_of_ble_eq_true rfl) uw_195 rfl rfl ?_
  refine q_aload_n dX5_extend_11 rfl ?_
  refine q_get (j := 0) (v := .long ((z_B0 S))) dX5_extend_12 (Nat.le_of_ble_eq_true rfl) rfl rfl iuX5 (Nat.le_of_ble_eq_true rfl) uw_195 rfl rfl ?_
  refine q_lsub dX5_extend_15 ?_
  refine q_lmul dX5_extend_16 ?_
  refine q_ladd dX5_extend_17 ?_
  refine q_put (j := 0) (ty := .long) dX5_extend_18 (Nat.le_of_ble_eq_true rfl) rfl rfl iuX5 tyX5_ok nmX5 (Nat.le_of_ble_eq_true rfl) uw_195 rfl rfl rfl rfl rfl (Nat.le_of_ble_eq_true rfl) ?_
  refine wp_w (u_A0 g _ _) ?_
  refine q_aload_n dX5_extend_21 rfl ?_
  refine q_aload_n dX5_extend_22 rfl ?_
  refine q_get (j := 1) (v := .long ((z_B1 S))) dX5_extend_23 (Nat.le_of_ble_eq_true rfl) rfl rfl iuX5 (Nat.le_of_ble_eq_true rfl) uw_196 rfl rfl ?_
  refine q_iload_n dX5_extend_26 rfl ?_
  refine q_i2l dX5_extend_27 ?_
  refine q_aload_n dX5_extend_28 rfl ?_
  refine q_get (j := 1) (v := .long ((z_C1 S))) dX5_extend_29 (Nat.le_of_ble_eq_true rfl) rfl rfl iuX5 (Nat.le_of_ble_eq_true rfl) uw_196 rfl rfl ?_
  refine q_aload_n dX5_extend_32 rfl ?_
  refine q_get (j := 1) (v := .long ((z_B1 S))) dX5_extend_33 (Nat.le_of_ble_eq_true rfl) rfl rfl iuX5 (Nat.le_of_ble_eq_true rfl) uw_196 rfl rfl ?_
  refine q_lsub dX5_extend_36 ?_
  refine q_lmul dX5_extend_37 ?_
  refine q_ladd dX5_extend_38 ?_
  refine q_put (j := 1) (ty := .long) dX5_extend_39 (Nat.le_of_ble_eq_true rfl) rfl rfl iuX5 tyX5_ok nmX5 (Nat.le_of_ble_eq_true rfl) uw_196 rfl rfl rfl rfl rfl (Nat.le_of_ble_eq_true rfl) ?_
  refine wp_w (u_A1 g _ _) ?_
  rw [sc_A1_A0]
  refine q_aload_n dX5_extend_42 rfl ?_
  refine q_aload_n dX5_extend_43 rfl ?_
  refine q_get (j := 2) (v := .long ((z_B2 S))) dX5_extend_44 (Nat.le_of_ble_eq_true rfl) rfl rfl iuX5 (Nat.le_of_ble_eq_true rfl) uw_197 rfl rfl ?_
  refine q_iload_n dX5_extend_47 rfl ?_
  refine q_i2l dX5_extend_48 ?_
  refine q_aload_n dX5_extend_49 rfl ?_
  refine q_get (j := 2) (v := .long ((z_C2 S))) dX5_extend_50 (Nat.le_of_ble_eq_true rfl) rfl rfl iuX5 (Nat.le_of_ble_eq_true rfl) uw_197 rfl rfl ?_
  refine q_aload_n dX5_extend_53 rfl ?_
  refine q_get (j := 2) (v := .long ((z_B2 S))) dX5_extend_54 (Nat.le_of_ble_eq_true rfl) rfl rfl iuX5 (Nat.le_of_ble_eq_true rfl) uw_197 rfl rfl ?_
  refine q_lsub dX5_extend_57 ?_
  refine q_lmul dX5_extend_58 ?_
  refine q_ladd dX5_extend_59 ?_
  refine q_put (j := 2) (ty := .long) dX5_extend_60 (Nat.le_of_ble_eq_true rfl) rfl rfl iuX5 tyX5_ok nmX5 (Nat.le_of_ble_eq_true rfl) uw_197 rfl rfl rfl rfl rfl (Nat.le_of_ble_eq_true rfl) ?_
  refine wp_w (u_A2 g _ _) ?_
  rw [sc_A2_A0, sc_A2_A1]
  refine q_aload_n dX5_extend_63 rfl ?_
  refine q_aload_n dX5_extend_64 rfl ?_
  refine q_get (j := 3) (v := .long ((z_B3 S))) dX5_extend_65 (Nat.le_of_ble_eq_true rfl) rfl rfl iuX5 (Nat.le_of_ble_eq_true rfl) uw_198 rfl rfl ?_
  refine q_iload_n dX5_extend_68 rfl ?_
  refine q_i2l dX5_extend_69 ?_
  refine q_aload_n dX5_extend_70 rfl ?_
  refine q_get (j := 3) (v := .long ((z_C3 S))) dX5_extend_71 (Nat.le_of_ble_eq_true rfl) rfl rfl iuX5 (Nat.le_of_ble_eq_true rfl) uw_198 rfl rfl ?_
  refine q_aload_n dX5_extend_74 rfl ?_
  refine q_get (j := 3) (v := .long ((z_B3 S))) dX5_extend_75 (Nat.le_of_ble_eq_true rfl) rfl rfl iuX5 (Nat.le_of_ble_eq_true rfl) uw_198 rfl rfl ?_
  refine q_lsub dX5_extend_78 ?_
  refine q_lmul dX5_extend_79 ?_
  refine q_ladd dX5_extend_80 ?_
  refine q_put (j := 3) (ty := .long) dX5_extend_81 (Nat.le_of_ble_eq_true rfl) rfl rfl iuX5 tyX5_ok nmX5 (Nat.le_of_ble_eq_true rfl) uw_198 rfl rfl rfl rfl rfl (Nat.le_of_ble_eq_true rfl) ?_
  refine wp_w (u_A3 g _ _) ?_
  rw [sc_A3_A0, sc_A3_A1, sc_A3_A2]
  exact q_vret dX5_extend_84 rfl ⟨rfl, rfl⟩
