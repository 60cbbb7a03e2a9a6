def agx (t f : Nat → Int32) (k : Nat) : Prop := ∀ j, j < 44 → ¬ j = k → t j = f j
theorem agx_u {t f : Nat → Int32} {k : Nat} {x : Int32} (h : agx t f k) : agr (upd t k x) (upd f k x) := by
  intro j hj
  simp only [upd]
  by_cases e : j = k
  · rw [if_pos e, if_pos e]
  · rw [if_neg e, if_neg e, h j hj e]
theorem agx_s {t f : Nat → Int32} {k : Nat} {x : Int32} (h : agx t f k) : agx (upd t k x) f k := by
  intro j hj e
  simp only [upd]
  rw [if_neg e, h j hj e]
theorem agx_0 {f t : Nat → Int32} {k : Nat} : agx (va_cpy f t 0 0 44) f k := fun j hj _ => cpy_at hj
noncomputable def rfM (f : Nat → Int32) (N k v : Nat) : Nat → Int32
  | 0 => -9
  | n + 1 => if stM (upd f k (nI (100 - n))) N = 0 then rfM f N k v n else if recM (upd f k (nI (100 - n))) N < nI v then rfM f N k v n else nI (100 - n)
noncomputable def msM (f : Nat → Int32) (N : Nat) (mw ms : Nat → Int32) : Nat → Int32
  | 0 => stM f N
  | i + 1 => if msM f N mw ms i = 0 then 0 else pI ((if mw i = 0 then recM f N else graM f N) = ms i)
theorem ms_0 {f : Nat → Int32} {N : Nat} {mw ms : Nat → Int32} {i : Nat} (h : msM f N mw ms i = 0) : ∀ k, msM f N mw ms (i + k) = 0
  | 0 => h
  | k + 1 => by rw [← Nat.add_assoc, msM, if_pos (ms_0 h k)]
theorem ms_st {f : Nat → Int32} {N : Nat} {mw ms : Nat → Int32} {i : Nat} (h : ¬ msM f N mw ms i = 0) : ¬ stM f N = 0 := fun z => h (by have := ms_0 (f := f) (N := N) (mw := mw) (ms := ms) (i := 0) z i; rwa [Nat.zero_add] at this)
theorem ms_z {f : Nat → Int32} {N : Nat} {mw ms : Nat → Int32} : ∀ i, narrow .boolean (.int (msM f N mw ms i)) = .int (msM f N mw ms i)
  | 0 => pI_z
  | i + 1 => by
    rw [msM]
    by_cases e : msM f N mw ms i = 0
    · rw [if_pos e]; rfl
    · rw [if_neg e]; exact pI_z
theorem ms_c {f f2 : Nat → Int32} (h : agr f f2) {N : Nat} (hN : N ≤ 6) {mw ms : Nat → Int32} : ∀ i, msM f N mw ms i = msM f2 N mw ms i
  | 0 => stM_c h hN
  | i + 1 => by rw [msM, msM, ms_c h hN i, recM_c h hN, graM_c h hN]
def mvOk (f : Nat → Int32) (N : Nat) : Prop := ¬ stM f N = 0 → rOk f N ∧ gOk f N
theorem mvOk_c {f f2 : Nat → Int32} (h : agr f f2) {N : Nat} (hN : N ≤ 6) : mvOk f N = mvOk f2 N := by unfold mvOk; rw [stM_c h hN, rOk_c h hN, gOk_c h hN]
/-- how many fillings are as measured, of the first n -/
noncomputable def prC (f : Nat → Int32) (N k : Nat) (mw ms : Nat → Int32) (K : Nat) : Nat → Int32
  | 0 => 0
  | n + 1 => prC f N k mw ms K n + (if msM (upd f k (nI n)) N mw ms K = 0 then 0 else 1)
theorem upd_0 {f : Nat → Int32} {k : Nat} {x : Int32} (h : 0 < k) : upd f k x 0 = f 0 := by simp only [upd]; rw [if_neg (by omega)]
set_option maxRecDepth 100000 in
set_option maxHeartbeats 4000000 in
theorem c_X10_bestImprovement {g : G0} (hG : Gd g) (S : SS)  (N : Nat) (h1 : (z_NW S) 0 = nI N) (h2 : N ≤ 6) (h3 : ∀ i, i < N → svOk (impM (z_NW S) i) N) : ct g mX10_bestImprovement [.ref 26] (mixW g S) (fun v w1 => v = some (.int (bsM (impM (z_NW S)) N N).1) ∧ ∃ tr mx rt mo u l, w1 = mixW g (s_RF (s_UP (s_LO (s_TR (s_MX (s_RT (s_MO S mo) rt) mx) tr) l) u) 0)) (fun _ _ => False) := by
  refine ct_of hG [some (.ref 26)] rfl rfl rfl (Nat.le_of_ble_eq_true rfl) (fun h => ?_) rfl
  refine q_aload_n dX10_bestImprovement_0 rfl ?_
  refine q_iconst (v := 0) dX10_bestImprovement_1 rfl ?_
  refine q_put (j := 0) (ty := .int) dX10_bestImprovement_2 (Nat.le_of_ble_eq_true rfl) rfl rfl iuX10 tyX10_ok nmX10 (Nat.le_of_ble_eq_true rfl) uw_924 rfl rfl rfl rfl rfl (Nat.le_of_ble_eq_true rfl) ?_
  refine wp_w (u_RF g _ _) ?_
  refine q_aload_n dX10_bestImprovement_5 rfl ?_
  refine q_iconst (v := 0) dX10_bestImprovement_6 rfl ?_
  refine q_callVg (ν := mX10_best) dX10_bestImprovement_7 uw_1212 vX10_best (c_X10_best_0 hG (s_RF S (0)) (N) h1 h2 h3) (Nat.le_of_ble_eq_true rfl) rfl rfl rfl rfl (Nat.le_of_ble_eq_true rfl) (Nat.le_of_ble_eq_true rfl) (Nat.le_of_ble_eq_true rfl) 0 (Nat.le_of_ble_eq_true rfl) rfl (fun _ _ z => z.elim) (fun v w1 hv => ?_)
  obtain ⟨rfl, tr, mx, rt, mo, u, l, rfl⟩ := hv
  · refine wp_eq (st2 := [.int (((bsM (impM (z_NW S)) N N).1))]) rfl ?_
    rw [sc_MO_RF, sc_RT_RF, sc_MX_RF, sc_TR_RF, sc_LO_RF, sc_UP_RF]
    refine wp_w (w2 := mixW g (s_RF (s_UP (s_LO (s_TR (s_MX (s_RT (s_MO S mo) rt) mx) tr) l) u) (0))) rfl ?_
    exact q_iret dX10_bestImprovement_10 rfl ⟨rfl, _, _, _, _, _, _, rfl⟩
set_option maxRecDepth 100000 in
set_option maxHeartbeats 4000000 in
theorem c_X10_bestShutdown {g : G0} (hG : Gd g) (S : SS)  (N : Nat) (h1 : (z_NW S) 0 = nI N) (h2 : N ≤ 6) (h3 : ∀ i, i < N → svOk (shuM (z_NW S) i) N) : ct g mX10_bestShutdown [.ref 26] (mixW g S) (fun v w1 => v = some (.int (bsM (shuM (z_NW S)) N N).1) ∧ ∃ tr mx rt mo u l, w1 = mixW g (s_RF (s_UP (s_LO (s_TR (s_MX (s_RT (s_MO S mo) rt) mx) tr) l) u) 0)) (fun _ _ => False) := by
  refine ct_of hG [some (.ref 26)] rfl rfl rfl (Nat.le_of_ble_eq_true rfl) (fun h => ?_) rfl
  refine q_aload_n dX10_bestShutdown_0 rfl ?_
  refine q_iconst (v := 0) dX10_bestShutdown_1 rfl ?_
  refine q_put (j := 0) (ty := .int) dX10_bestShutdown_2 (Nat.le_of_ble_eq_true rfl) rfl rfl iuX10 tyX10_ok nmX10 (Nat.le_of_ble_eq_true rfl) uw_924 rfl rfl rfl rfl rfl (Nat.le_of_ble_eq_true rfl) ?_
  refine wp_w (u_RF g _ _) ?_
  refine q_aload_n dX10_bestShutdown_5 rfl ?_
  refine q_iconst (v := 1) dX10_bestShutdown_6 rfl ?_
  refine q_callVg (ν := mX10_best) dX10_bestShutdown_7 uw_1212 vX10_best (c_X10_best_1 hG (s_RF S (0)) (N) h1 h2 h3) (Nat.le_of_ble_eq_true rfl) rfl rfl rfl rfl (Nat.le_of_ble_eq_true rfl) (Nat.le_of_ble_eq_true rfl) (Nat.le_of_ble_eq_true rfl) 0 (Nat.le_of_ble_eq_true rfl) rfl (fun _ _ z => z.elim) (fun v w1 hv => ?_)
  obtain ⟨rfl, tr, mx, rt, mo, u, l, rfl⟩ := hv
  · refine wp_eq (st2 := [.int (((bsM (shuM (z_NW S)) N N).1))]) rfl ?_
    rw [sc_MO_RF, sc_RT_RF, sc_MX_RF, sc_TR_RF, sc_LO_RF, sc_UP_RF]
    refine wp_w (w2 := mixW g (s_RF (s_UP (s_LO (s_TR (s_MX (s_RT (s_MO S mo) rt) mx) tr) l) u) (0))) rfl ?_
    exact q_iret dX10_bestShutdown_10 rfl ⟨rfl, _, _, _, _, _, _, rfl⟩
set_option maxRecDepth 100000 in
set_option maxHeartbeats 4000000 in
theorem l_X10_rf {g : G0} {h : G1} (hG : Gd g) (S : SS) {post : Option Value → (Nat → va_E) → Prop} {xp : String → (Nat → va_E) → Prop} (N c v : Nat) (hN : z_NW S 0 = nI N) (hN6 : N ≤ 6) (hc : c < N) (hv : v ≤ 1000) (hok : ∀ i, i ≤ 100 → svOk (upd (z_NW S) (1 + 2 * c) (nI i)) N) : ∀ (n i : Nat) (tr : Nat → Int32) (mx rt mo : Nat → Int64) (u l : Int64), i + n = 101 → agx tr (z_NW S) (1 + 2 * c) → (∀ (tr : Nat → Int32) (mx rt mo : Nat → Int64) (u l : Int64), post (some (.int (rfM (z_NW S) N (1 + 2 * c) v n))) (mixW g (s_UP (s_LO (s_TR (s_MX (s_RT (s_MO S mo) rt) mx) tr) l) u))) → wp g h mX10_recoveryFor (mixW g (s_UP (s_LO (s_TR (s_MX (s_RT (s_MO S mo) rt) mx) tr) l) u)) [some (.ref 26), some (.int (nI c)), some (.int (nI v)), some (.int (nI i))] [] 0 (QQ g h mX10_recoveryFor post xp) 51 := by
  intro n
  induction n with
  | zero =>
    intro i tr mx rt mo u l hq1 hx hp
    obtain rfl : 101 = i := by omega
    refine q_iload_n dX10_recoveryFor_51 rfl ?_
    refine q_bipush (v := 100) dX10_recoveryFor_52 rfl ?_
    refine q_icmp_gt 98 dX10_recoveryFor_54 rfl (fun c54 => ?_) (fun c54 => ?_)
    · have n54 := (nI_ltI (a := 100) (b := 101) (by omega) (by omega)).mp c54
      refine q_bipush (v := (-9)) dX10_recoveryFor_98 rfl ?_
      exact q_iret dX10_recoveryFor_100 rfl (hp _ _ _ _ _ _)
    · have n54 := mt (nI_ltI (a := 100) (b := 101) (by omega) (by omega)).mpr c54
      omega
  | succ n ih =>
    intro i tr mx rt mo u l hq1 hx hp
    obtain ⟨f2, hf2⟩ : ∃ f2, f2 = upd (z_NW S) (1 + 2 * c) (nI i) := ⟨_, rfl⟩
    have hin : 100 - n = i := by omega
    rw [rfM, hin, ← hf2] at hp
    refine q_iload_n dX10_recoveryFor_51 rfl ?_
    refine q_bipush (v := 100) dX10_recoveryFor_52 rfl ?_
    refine q_icmp_gt 98 dX10_recoveryFor_54 rfl (fun c54 => ?_) (fun c54 => ?_)
    · have n54 := (nI_ltI (a := 100) (b := i) (by omega) (by omega)).mp c54
      omega
    · have n54 := mt (nI_ltI (a := 100) (b := i) (by omega) (by omega)).mpr c54
      refine q_aload_n dX10_recoveryFor_57 rfl ?_
      refine q_get (j := 2) (v := .ref 28) dX10_recoveryFor_58 (Nat.le_of_ble_eq_true rfl) rfl rfl iuX10 (Nat.le_of_ble_eq_true rfl) uw_926 rfl rfl ?_
      refine q_iconst (v := 1) dX10_recoveryFor_61 rfl ?_
      refine q_iconst (v := 2) dX10_recoveryFor_62 rfl ?_
      refine q_iload_n dX10_recoveryFor_63 rfl ?_
      refine q_imul dX10_recoveryFor_64 ?_
      refine q_iadd dX10_recoveryFor_65 ?_
      refine q_iload_n dX10_recoveryFor_66 rfl ?_
      refine q_iast (f := tr) dX10_recoveryFor_67 (Nat.le_of_ble_eq_true rfl) rfl ((1 + (2 * c))) (by simp only [fa_lit, pk_mul, nI_add]) (by omega) (Nat.le_of_ble_eq_true rfl) ?_
      refine wp_w (u_TR g _ _) ?_
      rw [sc_TR_UP, sc_TR_LO, ss_TR]
      obtain ⟨t2, ht2⟩ : ∃ t2, t2 = (upd tr ((1 + (2 * c))) (nI i)) := ⟨_, rfl⟩
      refine wp_w (w2 := mixW g (s_UP (s_LO (s_TR (s_MX (s_RT (s_MO S mo) rt) mx) t2) l) u)) (by rw [ht2]) ?_
      have hag : agr t2 f2 := by rw [ht2, hf2]; exact agx_u hx
      have hx2 : agx t2 (z_NW S) (1 + 2 * c) := by rw [ht2]; exact agx_s hx
      have ht0 : t2 0 = nI N := by rw [hag 0 (by omega), hf2, upd_0 (by omega)]; exact hN
      have hsv : svOk t2 N := by rw [svOk_c hag hN6, hf2]; exact hok i (by omega)
      rw [← stM_c hag hN6, ← recM_c hag hN6] at hp
      refine q_aload_n dX10_recoveryFor_68 rfl ?_
      refine q_get (j := 2) (v := .ref 28) dX10_recoveryFor_69 (Nat.le_of_ble_eq_true rfl) rfl rfl iuX10 (Nat.le_of_ble_eq_true rfl) uw_926 rfl rfl ?_
      refine q_callSv (ν := mX10_isSteadyAll) dX10_recoveryFor_72 uw_1132 vX10_isSteadyAll (c_X10_isSteadyAll_28 hG (s_UP (s_LO (s_TR (s_MX (s_RT (s_MO S mo) rt) mx) t2) l) u) (N) ht0 hN6) rfl rfl (Nat.le_of_ble_eq_true rfl) (Nat.le_of_ble_eq_true rfl) (Nat.le_of_ble_eq_true rfl) 0 (Nat.le_of_ble_eq_true rfl) ?_
      refine wp_eq (st2 := .int ((pI (SM t2 N 0 ∧ SM t2 N 1))) :: _) rfl ?_
      refine wp_top (y := stM t2 N) rfl ?_
      refine q_if_eq 92 dX10_recoveryFor_75 rfl (fun c75 => ?_) (fun c75 => ?_)
      · refine q_iinc3 (k9 := 1) dX10_recoveryFor_92 rfl (Nat.le_of_ble_eq_true rfl) rfl ?_
        refine wp_L (L2 := [some (.ref 26), some (.int (nI c)), some (.int (nI v)), some (.int (nI (i + 1)))]) (by rw [show nI i + 1 = nI (i + 1) from nI_1 _]) ?_
        refine q_goto 51 dX10_recoveryFor_95 rfl ?_
        exact ih (i + 1) _ _ _ _ _ _ (by omega) hx2 (by first | (rw [if_pos c75] at hp; exact hp) | (rw [if_neg c75, if_pos c87] at hp; exact hp))
      · refine q_aload_n dX10_recoveryFor_78 rfl ?_
        refine q_aload_n dX10_recoveryFor_79 rfl ?_
        refine q_get (j := 2) (v := .ref 28) dX10_recoveryFor_80 (Nat.le_of_ble_eq_true rfl) rfl rfl iuX10 (Nat.le_of_ble_eq_true rfl) uw_926 rfl rfl ?_
        refine q_callVg (ν := mX10_recoveryOf) dX10_recoveryFor_83 uw_1175 vX10_recoveryOf (c_X10_recoveryOf_28 hG (s_UP (s_LO (s_TR (s_MX (s_RT (s_MO S mo) rt) mx) t2) l) u) (N) ht0 hN6 (hsv c75)) (Nat.le_of_ble_eq_true rfl) rfl rfl rfl rfl (Nat.le_of_ble_eq_true rfl) (Nat.le_of_ble_eq_true rfl) (Nat.le_of_ble_eq_true rfl) 0 (Nat.le_of_ble_eq_true rfl) rfl (fun _ _ z => z.elim) (fun v w1 hv => ?_)
        obtain ⟨rfl, mx2, rt2, mo2, u2, l2, rfl⟩ := hv
        · refine wp_eq (st2 := [.int ((recM t2 N))]) rfl ?_
          rw [sc_MO_UP, sc_MO_LO, sc_MO_TR, sc_MO_MX, sc_MO_RT, ss_MO, sc_RT_UP, sc_RT_LO, sc_RT_TR, sc_RT_MX, ss_RT, sc_MX_UP, sc_MX_LO, sc_MX_TR, ss_MX, sc_LO_UP, ss_LO, ss_UP]
          refine wp_w (w2 := mixW g (s_UP (s_LO (s_TR (s_MX (s_RT (s_MO S mo2) rt2) mx2) t2) l2) u2)) rfl ?_
          refine q_iload_n dX10_recoveryFor_86 rfl ?_
          refine q_icmp_lt 92 dX10_recoveryFor_87 rfl (fun c87 => ?_) (fun c87 => ?_)
          · refine q_iinc3 (k9 := 1) dX10_recoveryFor_92 rfl (Nat.le_of_ble_eq_true rfl) rfl ?_
            refine wp_L (L2 := [some (.ref 26), some (.int (nI c)), some (.int (nI v)), some (.int (nI (i + 1)))]) (by rw [show nI i + 1 = nI (i + 1) from nI_1 _]) ?_
            refine q_goto 51 dX10_recoveryFor_95 rfl ?_
            exact ih (i + 1) _ _ _ _ _ _ (by omega) hx2 (by first | (rw [if_pos c75] at hp; exact hp) | (rw [if_neg c75, if_pos c87] at hp; exact hp))
          · refine q_iload_n dX10_recoveryFor_90 rfl ?_
            exact q_iret dX10_recoveryFor_91 rfl (by rw [if_neg c75, if_neg c87] at hp; exact hp _ _ _ _ _ _)
set_option maxRecDepth 100000 in
set_option maxHeartbeats 4000000 in
theorem c_X10_recoveryFor {g : G0} (hG : Gd g) (S : SS) (c : Nat) (v : Nat) (N : Nat) (h1 : (z_NW S) 0 = nI N) (h2 : N ≤ 6) (h3 : c < N) (h4 : v ≤ 1000) (h5 : ∀ i, i ≤ 100 → svOk (upd (z_NW S) (1 + 2 * c) (nI i)) N) : ct g mX10_recoveryFor [.ref 26, .int (nI c), .int (nI v)] (mixW g S) (fun x w1 => x = some (.int (rfM (z_NW S) N (1 + 2 * c) v 101)) ∧ ∃ tr mx rt mo u l, w1 = mixW g (s_RF (s_UP (s_LO (s_TR (s_MX (s_RT (s_MO S mo) rt) mx) tr) l) u) 0)) (fun _ _ => False) := by
  refine ct_of hG [some (.ref 26), some (.int (nI c)), some (.int (nI v)), none] rfl rfl rfl (Nat.le_of_ble_eq_true rfl) (fun h => ?_) rfl
  refine q_aload_n dX10_recoveryFor_0 rfl ?_
  refine q_aload_n dX10_recoveryFor_1 rfl ?_
  refine q_iload_n dX10_recoveryFor_2 rfl ?_
  refine q_callVv (ν := mX10_isCell) dX10_recoveryFor_3 uw_1053 vX10_isCell (c_X10_isCell hG S ((nI c)) (N) h1 h2) (Nat.le_of_ble_eq_true rfl) rfl rfl rfl rfl (Nat.le_of_ble_eq_true rfl) (Nat.le_of_ble_eq_true rfl) (Nat.le_of_ble_eq_true rfl) 0 (Nat.le_of_ble_eq_true rfl) ?_
  refine q_if_ne 13 dX10_recoveryFor_6 rfl (fun c6 => ?_) (fun c6 => ?_)
  · refine q_iload_n dX10_recoveryFor_13 rfl ?_
    refine q_i2l dX10_recoveryFor_14 ?_
    refine q_lconst (v := 0) dX10_recoveryFor_15 rfl ?_
    refine q_ldc2 dX10_recoveryFor_16 uw_1191 ?_
    refine q_callSv (ν := mX10_in) dX10_recoveryFor_19 uw_997 vX10_in (c_X10_in hG S (((nI v : Int32).toInt64)) (0) (1000)) rfl rfl (Nat.le_of_ble_eq_true rfl) (Nat.le_of_ble_eq_true rfl) (Nat.le_of_ble_eq_true rfl) 0 (Nat.le_of_ble_eq_true rfl) ?_
    refine wp_top (y := pI (0 ≤ (nI v) ∧ (nI v) ≤ 1000)) (inI (l2 := 0) (u2 := 1000) rfl rfl) ?_
    refine q_if_ne 29 dX10_recoveryFor_22 rfl (fun c22 => ?_) (fun c22 => ?_)
    · refine q_iconst (v := 0) dX10_recoveryFor_29 rfl ?_
      refine q_callVv (ν := mX10_refused) dX10_recoveryFor_30 uw_1000 vX10_refused (c_X10_refused hG S (0)) (Nat.le_of_ble_eq_true rfl) rfl rfl rfl rfl (Nat.le_of_ble_eq_true rfl) (Nat.le_of_ble_eq_true rfl) (Nat.le_of_ble_eq_true rfl) 0 (Nat.le_of_ble_eq_true rfl) ?_
      refine wp_w (w2 := mixW g (s_RF S (0))) rfl ?_
      refine wp_top (y := 0) (pI_f (by decide)) ?_
      refine q_if_eq 38 dX10_recoveryFor_33 rfl (fun c33 => ?_) (fun c33 => ?_)
      · refine q_aload_n dX10_recoveryFor_38 rfl ?_
        refine q_get (j := 1) (v := .ref 27) dX10_recoveryFor_39 (Nat.le_of_ble_eq_true rfl) rfl rfl iuX10 (Nat.le_of_ble_eq_true rfl) uw_925 rfl rfl ?_
        refine q_aload_n dX10_recoveryFor_42 rfl ?_
        refine q_get (j := 2) (v := .ref 28) dX10_recoveryFor_43 (Nat.le_of_ble_eq_true rfl) rfl rfl iuX10 (Nat.le_of_ble_eq_true rfl) uw_926 rfl rfl ?_
        refine q_callSu (ν := mX10_copy) dX10_recoveryFor_46 uw_1042 vX10_copy (c_X10_copy_27_28 hG (s_RF S (0)) ) rfl rfl (Nat.le_of_ble_eq_true rfl) (Nat.le_of_ble_eq_true rfl) (Nat.le_of_ble_eq_true rfl) 0 (Nat.le_of_ble_eq_true rfl) ?_
        rw [sc_TR_RF]
        refine wp_w (w2 := mixW g (s_RF (s_TR S (va_cpy (z_NW S) (z_TR S) 0 0 44)) (0))) rfl ?_
        refine q_iconst (v := 0) dX10_recoveryFor_49 rfl ?_
        refine q_ist3 dX10_recoveryFor_50 (Nat.le_of_ble_eq_true rfl) rfl ?_
        refine wp_w (w2 := mixW g (s_UP (s_LO (s_TR (s_MX (s_RT (s_MO (s_RF S 0) (z_MO (s_RF S 0))) (z_RT (s_RF S 0))) (z_MX (s_RF S 0))) (va_cpy (z_NW S) (z_TR S) 0 0 44)) (z_LO (s_TR (s_RF S 0) (va_cpy (z_NW S) (z_TR S) 0 0 44)))) (z_UP (s_TR (s_RF S 0) (va_cpy (z_NW S) (z_TR S) 0 0 44))))) (by rw [se_MO, se_RT, se_MX, se_LO, se_UP, sc_TR_RF]) ?_
        refine wp_L (L2 := [some (.ref 26), some (.int (nI c)), some (.int (nI v)), some (.int (nI 0))]) rfl ?_
        refine l_X10_rf hG (s_RF S 0) N c v h1 h2 h3 h4 h5 101 0 _ _ _ _ _ _ (by omega) agx_0 ?_
        exact fun tr mx rt mo u l => ⟨rfl, tr, mx, rt, mo, u, l, (by rw [sc_MO_RF, sc_RT_RF, sc_MX_RF, sc_TR_RF, sc_LO_RF, sc_UP_RF])⟩
      · first | exact absurd (by decide) c33 | exact absurd c33 (by decide)
    · exact absurd (rng_ok (v := v) (lo := 0) (hi := 1000) (by omega) (by omega) (by omega)) (pI_0 c22)
  · exact absurd (cel_ok h1 h2 h3) (pI_0 c6)
set_option maxRecDepth 100000 in
set_option maxHeartbeats 4000000 in
theorem c_X10_recoveryFor_x1 {g : G0} (hG : Gd g) (S : SS) (c : Int32) (v : Int32) (N : Nat) (h1 : (z_NW S) 0 = nI N) (h2 : N ≤ 6) (h3 : ¬ (0 ≤ c ∧ c < (z_NW S) 0)) : ctv g mX10_recoveryFor [.ref 26, .int c, .int v] (mixW g S) (.int (0)) (mixW g (s_RF S (1))) := by
  refine ct_of hG [some (.ref 26), some (.int (c)), some (.int (v)), none] rfl rfl rfl (Nat.le_of_ble_eq_true rfl) (fun h => ?_) rfl
  refine q_aload_n dX10_recoveryFor_0 rfl ?_
  refine q_aload_n dX10_recoveryFor_1 rfl ?_
  refine q_iload_n dX10_recoveryFor_2 rfl ?_
  refine q_callVv (ν := mX10_isCell) dX10_recoveryFor_3 uw_1053 vX10_isCell (c_X10_isCell hG S (c) (N) h1 h2) (Nat.le_of_ble_eq_true rfl) rfl rfl rfl rfl (Nat.le_of_ble_eq_true rfl) (Nat.le_of_ble_eq_true rfl) (Nat.le_of_ble_eq_true rfl) 0 (Nat.le_of_ble_eq_true rfl) ?_
  refine q_if_ne 13 dX10_recoveryFor_6 rfl (fun c6 => ?_) (fun c6 => ?_)
  · exact absurd (pI_1 c6) h3
  · refine q_iconst (v := 1) dX10_recoveryFor_9 rfl ?_
    refine q_goto 30 dX10_recoveryFor_10 rfl ?_
    refine q_callVv (ν := mX10_refused) dX10_recoveryFor_30 uw_1000 vX10_refused (c_X10_refused hG S (1)) (Nat.le_of_ble_eq_true rfl) rfl rfl rfl rfl (Nat.le_of_ble_eq_true rfl) (Nat.le_of_ble_eq_true rfl) (Nat.le_of_ble_eq_true rfl) 0 (Nat.le_of_ble_eq_true rfl) ?_
    refine wp_w (w2 := mixW g (s_RF S (1))) rfl ?_
    refine wp_top (y := 1) (pI_t (by decide)) ?_
    refine q_if_eq 38 dX10_recoveryFor_33 rfl (fun c33 => ?_) (fun c33 => ?_)
    · first | exact absurd (by decide) c33 | exact absurd c33 (by decide)
    · refine q_iconst (v := 0) dX10_recoveryFor_36 rfl ?_
      exact q_iret dX10_recoveryFor_37 rfl ⟨rfl, rfl⟩
set_option maxRecDepth 100000 in
set_option maxHeartbeats 4000000 in
theorem c_X10_recoveryFor_x2 {g : G0} (hG : Gd g) (S : SS) (c : Nat) (v : Int32) (N : Nat) (h1 : (z_NW S) 0 = nI N) (h2 : N ≤ 6) (h3 : c < N) (h4 : ¬ (0 ≤ v ∧ v ≤ 1000)) : ctv g mX10_recoveryFor [.ref 26, .int (nI c), .int v] (mixW g S) (.int (0)) (mixW g (s_RF S (2))) := by
  refine ct_of hG [some (.ref 26), some (.int (nI c)), some (.int (v)), none] rfl rfl rfl (Nat.le_of_ble_eq_true rfl) (fun h => ?_) rfl
  refine q_aload_n dX10_recoveryFor_0 rfl ?_
  refine q_aload_n dX10_recoveryFor_1 rfl ?_
  refine q_iload_n dX10_recoveryFor_2 rfl ?_
  refine q_callVv (ν := mX10_isCell) dX10_recoveryFor_3 uw_1053 vX10_isCell (c_X10_isCell hG S ((nI c)) (N) h1 h2) (Nat.le_of_ble_eq_true rfl) rfl rfl rfl rfl (Nat.le_of_ble_eq_true rfl) (Nat.le_of_ble_eq_true rfl) (Nat.le_of_ble_eq_true rfl) 0 (Nat.le_of_ble_eq_true rfl) ?_
  refine q_if_ne 13 dX10_recoveryFor_6 rfl (fun c6 => ?_) (fun c6 => ?_)
  · refine q_iload_n dX10_recoveryFor_13 rfl ?_
    refine q_i2l dX10_recoveryFor_14 ?_
    refine q_lconst (v := 0) dX10_recoveryFor_15 rfl ?_
    refine q_ldc2 dX10_recoveryFor_16 uw_1191 ?_
    refine q_callSv (ν := mX10_in) dX10_recoveryFor_19 uw_997 vX10_in (c_X10_in hG S (((v : Int32).toInt64)) (0) (1000)) rfl rfl (Nat.le_of_ble_eq_true rfl) (Nat.le_of_ble_eq_true rfl) (Nat.le_of_ble_eq_true rfl) 0 (Nat.le_of_ble_eq_true rfl) ?_
    refine wp_top (y := pI (0 ≤ v ∧ v ≤ 1000)) (inI (l2 := 0) (u2 := 1000) rfl rfl) ?_
    refine q_if_ne 29 dX10_recoveryFor_22 rfl (fun c22 => ?_) (fun c22 => ?_)
    · exact absurd (pI_1 c22) h4
    · refine q_iconst (v := 2) dX10_recoveryFor_25 rfl ?_
      refine q_goto 30 dX10_recoveryFor_26 rfl ?_
      refine q_callVv (ν := mX10_refused) dX10_recoveryFor_30 uw_1000 vX10_refused (c_X10_refused hG S (2)) (Nat.le_of_ble_eq_true rfl) rfl rfl rfl rfl (Nat.le_of_ble_eq_true rfl) (Nat.le_of_ble_eq_true rfl) (Nat.le_of_ble_eq_true rfl) 0 (Nat.le_of_ble_eq_true rfl) ?_
      refine wp_w (w2 := mixW g (s_RF S (2))) rfl ?_
      refine wp_top (y := 1) (pI_t (by decide)) ?_
      refine q_if_eq 38 dX10_recoveryFor_33 rfl (fun c33 => ?_) (fun c33 => ?_)
      · first | exact absurd (by decide) c33 | exact absurd c33 (by decide)
      · refine q_iconst (v := 0) dX10_recoveryFor_36 rfl ?_
        exact q_iret dX10_recoveryFor_37 rfl ⟨rfl, rfl⟩
  · exact absurd (cel_ok h1 h2 h3) (pI_0 c6)
set_option maxRecDepth 100000 in
set_option maxHeartbeats 4000000 in
theorem l_X10_ms {g : G0} {h : G1} (hG : Gd g) (S : SS) {post : Option Value → (Nat → va_E) → Prop} {xp : String → (Nat → va_E) → Prop} (N K : Nat) (hN : z_TR S 0 = nI N) (hN6 : N ≤ 6) (hK : z_ME S = nI K) (hK5 : K ≤ 5) (hok : mvOk (z_TR S) N) (hp : ∀ (mx rt mo : Nat → Int64) (u l : Int64), post (some (.int (msM (z_TR S) N (z_MW S) (z_MS S) K))) (mixW g (s_UP (s_LO (s_MX (s_RT (s_MO S mo) rt) mx) l) u))) : ∀ (n i : Nat) (mx rt mo : Nat → Int64) (u l : Int64), i + n = K → wp g h mX10_isMeasured (mixW g (s_UP (s_LO (s_MX (s_RT (s_MO S mo) rt) mx) l) u)) [some (.ref 26), some (.int (msM (z_TR S) N (z_MW S) (z_MS S) i)), some (.int (nI i))] [] 0 (QQ g h mX10_isMeasured post xp) 10 := by
  intro n
  induction n with
  | zero =>
    intro i mx rt mo u l hq1
    obtain rfl : K = i := by omega
    refine q_iload_n dX10_isMeasured_10 rfl ?_
    refine q_aload_n dX10_isMeasured_11 rfl ?_
    refine q_get (j := 13) (v := .int ((z_ME S))) dX10_isMeasured_12 (Nat.le_of_ble_eq_true rfl) rfl rfl iuX10 (Nat.le_of_ble_eq_true rfl) uw_937 rfl rfl ?_
    refine wp_top (y := nI K) hK ?_
    refine q_icmp_ge 71 dX10_isMeasured_15 rfl (fun c15 => ?_) (fun c15 => ?_)
    · have n15 := (nI_leI (a := K) (b := K) (by omega) (by omega)).mp c15
      refine q_iload_n dX10_isMeasured_71 rfl ?_
      exact q_zret dX10_isMeasured_72 rfl (ms_z _) (hp _ _ _ _ _)
    · have n15 := mt (nI_leI (a := K) (b := K) (by omega) (by omega)).mpr c15
      omega
  | succ n ih =>
    intro i mx rt mo u l hq1
    refine q_iload_n dX10_isMeasured_10 rfl ?_
    refine q_aload_n dX10_isMeasured_11 rfl ?_
    refine q_get (j := 13) (v := .int ((z_ME S))) dX10_isMeasured_12 (Nat.le_of_ble_eq_true rfl) rfl rfl iuX10 (Nat.le_of_ble_eq_true rfl) uw_937 rfl rfl ?_
    refine wp_top (y := nI K) hK ?_
    refine q_icmp_ge 71 dX10_isMeasured_15 rfl (fun c15 => ?_) (fun c15 => ?_)
    · have n15 := (nI_leI (a := K) (b := i) (by omega) (by omega)).mp c15
      omega
    · have n15 := mt (nI_leI (a := K) (b := i) (by omega) (by omega)).mpr c15
      refine q_iload_n dX10_isMeasured_18 rfl ?_
      refine q_if_eq 71 dX10_isMeasured_19 rfl (fun c19 => ?_) (fun c19 => ?_)
      · refine q_iload_n dX10_isMeasured_71 rfl ?_
        exact q_zret dX10_isMeasured_72 rfl (ms_z _) (by have e := ms_0 c19 (n + 1); rw [hq1] at e; have hp2 := hp mx rt mo u l; rw [e] at hp2; rw [c19]; exact hp2)
      · refine q_aload_n dX10_isMeasured_22 rfl ?_
        refine q_get (j := 14) (v := .ref 35) dX10_isMeasured_23 (Nat.le_of_ble_eq_true rfl) rfl rfl iuX10 (Nat.le_of_ble_eq_true rfl) uw_938 rfl rfl ?_
        refine q_iload_n dX10_isMeasured_26 rfl ?_
        refine q_iald (f := (z_MW S)) dX10_isMeasured_27 (Nat.le_of_ble_eq_true rfl) rfl (i) rfl (by omega) (Nat.le_of_ble_eq_true rfl) ?_
        refine q_if_ne 42 dX10_isMeasured_28 rfl (fun c28 => ?_) (fun c28 => ?_)
        · refine q_aload_n dX10_isMeasured_42 rfl ?_
          refine q_aload_n dX10_isMeasured_43 rfl ?_
          refine q_get (j := 2) (v := .ref 28) dX10_isMeasured_44 (Nat.le_of_ble_eq_true rfl) rfl rfl iuX10 (Nat.le_of_ble_eq_true rfl) uw_926 rfl rfl ?_
          refine q_callVg (ν := mX10_gradeOf) dX10_isMeasured_47 uw_1187 vX10_gradeOf (c_X10_gradeOf_28 hG (s_UP (s_LO (s_MX (s_RT (s_MO S mo) rt) mx) l) u) (N) hN hN6 (hok (ms_st c19)).2) (Nat.le_of_ble_eq_true rfl) rfl rfl rfl rfl (Nat.le_of_ble_eq_true rfl) (Nat.le_of_ble_eq_true rfl) (Nat.le_of_ble_eq_true rfl) 0 (Nat.le_of_ble_eq_true rfl) rfl (fun _ _ z => z.elim) (fun v w1 hv => ?_)
          obtain ⟨rfl, mx2, rt2, mo2, u2, l2, rfl⟩ := hv
          · refine wp_eq (st2 := [.int ((graM (z_TR S) N))]) rfl ?_
            rw [sc_MO_UP, sc_MO_LO, sc_MO_MX, sc_MO_RT, ss_MO, sc_RT_UP, sc_RT_LO, sc_RT_MX, ss_RT, sc_MX_UP, sc_MX_LO, ss_MX, sc_LO_UP, ss_LO, ss_UP]
            refine wp_w (w2 := mixW g (s_UP (s_LO (s_MX (s_RT (s_MO S mo2) rt2) mx2) l2) u2)) rfl ?_
            refine q_aload_n dX10_isMeasured_50 rfl ?_
            refine q_get (j := 15) (v := .ref 36) dX10_isMeasured_51 (Nat.le_of_ble_eq_true rfl) rfl rfl iuX10 (Nat.le_of_ble_eq_true rfl) uw_939 rfl rfl ?_
            refine q_iload_n dX10_isMeasured_54 rfl ?_
            refine q_iald (f := (z_MS S)) dX10_isMeasured_55 (Nat.le_of_ble_eq_true rfl) rfl (i) rfl (by omega) (Nat.le_of_ble_eq_true rfl) ?_
            refine q_icmp_ne 63 dX10_isMeasured_56 rfl (fun c56 => ?_) (fun c56 => ?_)
            · refine q_iconst (v := 0) dX10_isMeasured_63 rfl ?_
              refine q_ist1 dX10_isMeasured_64 (Nat.le_of_ble_eq_true rfl) rfl ?_
              refine q_iinc2 (k9 := 1) dX10_isMeasured_65 rfl (Nat.le_of_ble_eq_true rfl) rfl ?_
              refine wp_L (L2 := [some (.ref 26), some (.int (0)), some (.int (nI (i + 1)))]) (by rw [show nI i + 1 = nI (i + 1) from nI_1 _]) ?_
              refine q_goto 10 dX10_isMeasured_68 rfl ?_
              have est : msM (z_TR S) N (z_MW S) (z_MS S) (i + 1) = 0 := by
                rw [msM, if_neg c19]
                refine pI_f ?_
                by_cases z : z_MW S i = 0
                · rw [if_pos z]; first | exact c56 | exact absurd z c28
                · rw [if_neg z]; first | exact c56 | exact absurd c28 z
              refine wp_L (L2 := [some (.ref 26), some (.int (msM (z_TR S) N (z_MW S) (z_MS S) (i + 1))), some (.int (nI (i + 1)))]) (by rw [est]) ?_
              exact ih (i + 1) _ _ _ _ _ (by omega)
            · refine q_iconst (v := 1) dX10_isMeasured_59 rfl ?_
              refine q_goto 64 dX10_isMeasured_60 rfl ?_
              refine q_ist1 dX10_isMeasured_64 (Nat.le_of_ble_eq_true rfl) rfl ?_
              refine q_iinc2 (k9 := 1) dX10_isMeasured_65 rfl (Nat.le_of_ble_eq_true rfl) rfl ?_
              refine wp_L (L2 := [some (.ref 26), some (.int (1)), some (.int (nI (i + 1)))]) (by rw [show nI i + 1 = nI (i + 1) from nI_1 _]) ?_
              refine q_goto 10 dX10_isMeasured_68 rfl ?_
              have est : msM (z_TR S) N (z_MW S) (z_MS S) (i + 1) = 1 := by
                rw [msM, if_neg c19]
                refine pI_t ?_
                by_cases z : z_MW S i = 0
                · rw [if_pos z]; first | exact c56 | exact absurd z c28
                · rw [if_neg z]; first | exact c56 | exact absurd c28 z
              refine wp_L (L2 := [some (.ref 26), some (.int (msM (z_TR S) N (z_MW S) (z_MS S) (i + 1))), some (.int (nI (i + 1)))]) (by rw [est]) ?_
              exact ih (i + 1) _ _ _ _ _ (by omega)
        · refine q_aload_n dX10_isMeasured_31 rfl ?_
          refine q_aload_n dX10_isMeasured_32 rfl ?_
          refine q_get (j := 2) (v := .ref 28) dX10_isMeasured_33 (Nat.le_of_ble_eq_true rfl) rfl rfl iuX10 (Nat.le_of_ble_eq_true rfl) uw_926 rfl rfl ?_
          refine q_callVg (ν := mX10_recoveryOf) dX10_isMeasured_36 uw_1175 vX10_recoveryOf (c_X10_recoveryOf_28 hG (s_UP (s_LO (s_MX (s_RT (s_MO S mo) rt) mx) l) u) (N) hN hN6 (hok (ms_st c19)).1) (Nat.le_of_ble_eq_true rfl) rfl rfl rfl rfl (Nat.le_of_ble_eq_true rfl) (Nat.le_of_ble_eq_true rfl) (Nat.le_of_ble_eq_true rfl) 0 (Nat.le_of_ble_eq_true rfl) rfl (fun _ _ z => z.elim) (fun v w1 hv => ?_)
          obtain ⟨rfl, mx2, rt2, mo2, u2, l2, rfl⟩ := hv
          · refine wp_eq (st2 := [.int ((recM (z_TR S) N))]) rfl ?_
            rw [sc_MO_UP, sc_MO_LO, sc_MO_MX, sc_MO_RT, ss_MO, sc_RT_UP, sc_RT_LO, sc_RT_MX, ss_RT, sc_MX_UP, sc_MX_LO, ss_MX, sc_LO_UP, ss_LO, ss_UP]
            refine wp_w (w2 := mixW g (s_UP (s_LO (s_MX (s_RT (s_MO S mo2) rt2) mx2) l2) u2)) rfl ?_
            refine q_goto 50 dX10_isMeasured_39 rfl ?_
            refine q_aload_n dX10_isMeasured_50 rfl ?_
            refine q_get (j := 15) (v := .ref 36) dX10_isMeasured_51 (Nat.le_of_ble_eq_true rfl) rfl rfl iuX10 (Nat.le_of_ble_eq_true rfl) uw_939 rfl rfl ?_
            refine q_iload_n dX10_isMeasured_54 rfl ?_
            refine q_iald (f := (z_MS S)) dX10_isMeasured_55 (Nat.le_of_ble_eq_true rfl) rfl (i) rfl (by omega) (Nat.le_of_ble_eq_true rfl) ?_
            refine q_icmp_ne 63 dX10_isMeasured_56 rfl (fun c56 => ?_) (fun c56 => ?_)
            · refine q_iconst (v := 0) dX10_isMeasured_63 rfl ?_
              refine q_ist1 dX10_isMeasured_64 (Nat.le_of_ble_eq_true rfl) rfl ?_
              refine q_iinc2 (k9 := 1) dX10_isMeasured_65 rfl (Nat.le_of_ble_eq_true rfl) rfl ?_
              refine wp_L (L2 := [some (.ref 26), some (.int (0)), some (.int (nI (i + 1)))]) (by rw [show nI i + 1 = nI (i + 1) from nI_1 _]) ?_
              refine q_goto 10 dX10_isMeasured_68 rfl ?_
              have est : msM (z_TR S) N (z_MW S) (z_MS S) (i + 1) = 0 := by
                rw [msM, if_neg c19]
                refine pI_f ?_
                by_cases z : z_MW S i = 0
                · rw [if_pos z]; first | exact c56 | exact absurd z c28
                · rw [if_neg z]; first | exact c56 | exact absurd c28 z
              refine wp_L (L2 := [some (.ref 26), some (.int (msM (z_TR S) N (z_MW S) (z_MS S) (i + 1))), some (.int (nI (i + 1)))]) (by rw [est]) ?_
              exact ih (i + 1) _ _ _ _ _ (by omega)
            · refine q_iconst (v := 1) dX10_isMeasured_59 rfl ?_
              refine q_goto 64 dX10_isMeasured_60 rfl ?_
              refine q_ist1 dX10_isMeasured_64 (Nat.le_of_ble_eq_true rfl) rfl ?_
              refine q_iinc2 (k9 := 1) dX10_isMeasured_65 rfl (Nat.le_of_ble_eq_true rfl) rfl ?_
              refine wp_L (L2 := [some (.ref 26), some (.int (1)), some (.int (nI (i + 1)))]) (by rw [show nI i + 1 = nI (i + 1) from nI_1 _]) ?_
              refine q_goto 10 dX10_isMeasured_68 rfl ?_
              have est : msM (z_TR S) N (z_MW S) (z_MS S) (i + 1) = 1 := by
                rw [msM, if_neg c19]
                refine pI_t ?_
                by_cases z : z_MW S i = 0
                · rw [if_pos z]; first | exact c56 | exact absurd z c28
                · rw [if_neg z]; first | exact c56 | exact absurd c28 z
              refine wp_L (L2 := [some (.ref 26), some (.int (msM (z_TR S) N (z_MW S) (z_MS S) (i + 1))), some (.int (nI (i + 1)))]) (by rw [est]) ?_
              exact ih (i + 1) _ _ _ _ _ (by omega)
set_option maxRecDepth 100000 in
set_option maxHeartbeats 4000000 in
theorem c_X10_isMeasured {g : G0} (hG : Gd g) (S : SS)  (N : Nat) (K : Nat) (h1 : (z_TR S) 0 = nI N) (h2 : N ≤ 6) (h3 : (z_ME S) = nI K) (h4 : K ≤ 5) (h5 : mvOk (z_TR S) N) : ct g mX10_isMeasured [.ref 26] (mixW g S) (fun v w1 => v = some (.int (msM (z_TR S) N (z_MW S) (z_MS S) K)) ∧ ∃ mx rt mo u l, w1 = mixW g (s_UP (s_LO (s_MX (s_RT (s_MO S mo) rt) mx) l) u)) (fun _ _ => False) := by
  refine ct_of hG [some (.ref 26), none, none] rfl rfl rfl (Nat.le_of_ble_eq_true rfl) (fun h => ?_) rfl
  refine q_aload_n dX10_isMeasured_0 rfl ?_
  refine q_get (j := 2) (v := .ref 28) dX10_isMeasured_1 (Nat.le_of_ble_eq_true rfl) rfl rfl iuX10 (Nat.le_of_ble_eq_true rfl) uw_926 rfl rfl ?_
  refine q_callSv (ν := mX10_isSteadyAll) dX10_isMeasured_4 uw_1132 vX10_isSteadyAll (c_X10_isSteadyAll_28 hG S (N) h1 h2) rfl rfl (Nat.le_of_ble_eq_true rfl) (Nat.le_of_ble_eq_true rfl) (Nat.le_of_ble_eq_true rfl) 0 (Nat.le_of_ble_eq_true rfl) ?_
  refine wp_top (y := stM (z_TR S) N) rfl ?_
  refine q_ist1 dX10_isMeasured_7 (Nat.le_of_ble_eq_true rfl) rfl ?_
  refine q_iconst (v := 0) dX10_isMeasured_8 rfl ?_
  refine q_ist2 dX10_isMeasured_9 (Nat.le_of_ble_eq_true rfl) rfl ?_
  refine wp_w (w2 := mixW g (s_UP (s_LO (s_MX (s_RT (s_MO S (z_MO S)) (z_RT S)) (z_MX S)) (z_LO S)) (z_UP S))) (by rw [se_MO, se_RT, se_MX, se_LO, se_UP]) ?_
  refine wp_L (L2 := [some (.ref 26), some (.int (msM (z_TR S) N (z_MW S) (z_MS S) 0)), some (.int (nI 0))]) rfl ?_
  refine l_X10_ms hG S N K h1 h2 h3 h4 h5 ?_ K 0 _ _ _ _ _ (by omega)
  exact fun mx rt mo u l => ⟨rfl, _, _, _, _, _, rfl⟩
set_option maxRecDepth 100000 in
set_option maxHeartbeats 4000000 in
theorem l_X10_pr {g : G0} {h : G1} (hG : Gd g) (S : SS) {post : Option Value → (Nat → va_E) → Prop} {xp : String → (Nat → va_E) → Prop} (N K c d : Nat) (hN : z_NW S 0 = nI N) (hN6 : N ≤ 6) (hK : z_ME S = nI K) (hK5 : K ≤ 5) (hc : c < N) (hd : d < 2) (hok : ∀ i, i ≤ 100 → mvOk (upd (z_NW S) (1 + 2 * c + d) (nI i)) N) (hp : ∀ (tr : Nat → Int32) (mx rt mo : Nat → Int64) (u l : Int64), post (some (.int (prC (z_NW S) N (1 + 2 * c + d) (z_MW S) (z_MS S) K 101))) (mixW g (s_UP (s_LO (s_TR (s_MX (s_RT (s_MO S mo) rt) mx) tr) l) u))) : ∀ (n i : Nat) (tr : Nat → Int32) (mx rt mo : Nat → Int64) (u l : Int64), i + n = 101 → agx tr (z_NW S) (1 + 2 * c + d) → wp g h mX10_possibleRecoveries (mixW g (s_UP (s_LO (s_TR (s_MX (s_RT (s_MO S mo) rt) mx) tr) l) u)) [some (.ref 26), some (.int (nI c)), some (.int (nI d)), some (.int (prC (z_NW S) N (1 + 2 * c + d) (z_MW S) (z_MS S) K i)), some (.int (nI i))] [] 0 (QQ g h mX10_possibleRecoveries post xp) 45 := by
  intro n
  induction n with
  | zero =>
    intro i tr mx rt mo u l hq1 hx
    obtain rfl : 101 = i := by omega
    refine q_iload dX10_possibleRecoveries_45 rfl ?_
    refine q_bipush (v := 100) dX10_possibleRecoveries_47 rfl ?_
    refine q_icmp_gt 87 dX10_possibleRecoveries_49 rfl (fun c49 => ?_) (fun c49 => ?_)
    · have n49 := (nI_ltI (a := 100) (b := 101) (by omega) (by omega)).mp c49
      refine q_iload_n dX10_possibleRecoveries_87 rfl ?_
      exact q_iret dX10_possibleRecoveries_88 rfl (hp _ _ _ _ _ _)
    · have n49 := mt (nI_ltI (a := 100) (b := 101) (by omega) (by omega)).mpr c49
      omega
  | succ n ih =>
    intro i tr mx rt mo u l hq1 hx
    refine q_iload dX10_possibleRecoveries_45 rfl ?_
    refine q_bipush (v := 100) dX10_possibleRecoveries_47 rfl ?_
    refine q_icmp_gt 87 dX10_possibleRecoveries_49 rfl (fun c49 => ?_) (fun c49 => ?_)
    · have n49 := (nI_ltI (a := 100) (b := i) (by omega) (by omega)).mp c49
      omega
    · have n49 := mt (nI_ltI (a := 100) (b := i) (by omega) (by omega)).mpr c49
      refine q_aload_n dX10_possibleRecoveries_52 rfl ?_
      refine q_get (j := 2) (v := .ref 28) dX10_possibleRecoveries_53 (Nat.le_of_ble_eq_true rfl) rfl rfl iuX10 (Nat.le_of_ble_eq_true rfl) uw_926 rfl rfl ?_
      refine q_iconst (v := 1) dX10_possibleRecoveries_56 rfl ?_
      refine q_iconst (v := 2) dX10_possibleRecoveries_57 rfl ?_
      refine q_iload_n dX10_possibleRecoveries_58 rfl ?_
      refine q_imul dX10_possibleRecoveries_59 ?_
      refine q_iadd dX10_possibleRecoveries_60 ?_
      refine q_iload_n dX10_possibleRecoveries_61 rfl ?_
      refine q_iadd dX10_possibleRecoveries_62 ?_
      refine q_iload dX10_possibleRecoveries_63 rfl ?_
      refine q_iast (f := tr) dX10_possibleRecoveries_65 (Nat.le_of_ble_eq_true rfl) rfl (((1 + (2 * c)) + d)) (by simp only [fa_lit, pk_mul, nI_add]) (by omega) (Nat.le_of_ble_eq_true rfl) ?_
      refine wp_w (u_TR g _ _) ?_
      rw [sc_TR_UP, sc_TR_LO, ss_TR]
      obtain ⟨t2, ht2⟩ : ∃ t2, t2 = (upd tr (((1 + (2 * c)) + d)) (nI i)) := ⟨_, rfl⟩
      refine wp_w (w2 := mixW g (s_UP (s_LO (s_TR (s_MX (s_RT (s_MO S mo) rt) mx) t2) l) u)) (by rw [ht2]) ?_
      have hag : agr t2 (upd (z_NW S) (1 + 2 * c + d) (nI i)) := by rw [ht2]; exact agx_u hx
      have hx2 : agx t2 (z_NW S) (1 + 2 * c + d) := by rw [ht2]; exact agx_s hx
      have ht0 : t2 0 = nI N := by rw [hag 0 (by omega), upd_0 (by omega)]; exact hN
      have hsv : mvOk t2 N := by rw [mvOk_c hag hN6]; exact hok i (by omega)
      refine q_iload_n dX10_possibleRecoveries_66 rfl ?_
      refine q_aload_n dX10_possibleRecoveries_67 rfl ?_
      refine q_callVg (ν := mX10_isMeasured) dX10_possibleRecoveries_68 uw_1232 vX10_isMeasured (c_X10_isMeasured hG (s_UP (s_LO (s_TR (s_MX (s_RT (s_MO S mo) rt) mx) t2) l) u) (N) (K) ht0 hN6 hK hK5 hsv) (Nat.le_of_ble_eq_true rfl) rfl rfl rfl rfl (Nat.le_of_ble_eq_true rfl) (Nat.le_of_ble_eq_true rfl) (Nat.le_of_ble_eq_true rfl) 0 (Nat.le_of_ble_eq_true rfl) rfl (fun _ _ z => z.elim) (fun v w1 hv => ?_)
      obtain ⟨rfl, mx2, rt2, mo2, u2, l2, rfl⟩ := hv
      · refine wp_eq (st2 := [.int ((msM t2 N (z_MW S) (z_MS S) K)), .int (prC (z_NW S) N (1 + 2 * c + d) (z_MW S) (z_MS S) K i)]) rfl ?_
        rw [sc_MO_UP, sc_MO_LO, sc_MO_TR, sc_MO_MX, sc_MO_RT, ss_MO, sc_RT_UP, sc_RT_LO, sc_RT_TR, sc_RT_MX, ss_RT, sc_MX_UP, sc_MX_LO, sc_MX_TR, ss_MX, sc_LO_UP, ss_LO, ss_UP]
        refine wp_w (w2 := mixW g (s_UP (s_LO (s_TR (s_MX (s_RT (s_MO S mo2) rt2) mx2) t2) l2) u2)) rfl ?_
        refine q_if_eq 78 dX10_possibleRecoveries_71 rfl (fun c71 => ?_) (fun c71 => ?_)
        · refine q_iconst (v := 0) dX10_possibleRecoveries_78 rfl ?_
          refine q_iadd dX10_possibleRecoveries_79 ?_
          refine q_ist3 dX10_possibleRecoveries_80 (Nat.le_of_ble_eq_true rfl) rfl ?_
          refine q_iinc4 (k9 := 1) dX10_possibleRecoveries_81 rfl (Nat.le_of_ble_eq_true rfl) rfl ?_
          refine wp_L (L2 := [some (.ref 26), some (.int (nI c)), some (.int (nI d)), some (.int ((prC (z_NW S) N (1 + 2 * c + d) (z_MW S) (z_MS S) K i + 0))), some (.int (nI (i + 1)))]) (by rw [show nI i + 1 = nI (i + 1) from nI_1 _]) ?_
          refine q_goto 45 dX10_possibleRecoveries_84 rfl ?_
          refine wp_L (L2 := [some (.ref 26), some (.int (nI c)), some (.int (nI d)), some (.int (prC (z_NW S) N (1 + 2 * c + d) (z_MW S) (z_MS S) K (i + 1))), some (.int (nI (i + 1)))]) (by rw [prC, ← ms_c hag hN6, if_pos c71]) ?_
          exact ih (i + 1) _ _ _ _ _ _ (by omega) hx2
        · refine q_iconst (v := 1) dX10_possibleRecoveries_74 rfl ?_
          refine q_goto 79 dX10_possibleRecoveries_75 rfl ?_
          refine q_iadd dX10_possibleRecoveries_79 ?_
          refine q_ist3 dX10_possibleRecoveries_80 (Nat.le_of_ble_eq_true rfl) rfl ?_
          refine q_iinc4 (k9 := 1) dX10_possibleRecoveries_81 rfl (Nat.le_of_ble_eq_true rfl) rfl ?_
          refine wp_L (L2 := [some (.ref 26), some (.int (nI c)), some (.int (nI d)), some (.int ((prC (z_NW S) N (1 + 2 * c + d) (z_MW S) (z_MS S) K i + 1))), some (.int (nI (i + 1)))]) (by rw [show nI i + 1 = nI (i + 1) from nI_1 _]) ?_
          refine q_goto 45 dX10_possibleRecoveries_84 rfl ?_
          refine wp_L (L2 := [some (.ref 26), some (.int (nI c)), some (.int (nI d)), some (.int (prC (z_NW S) N (1 + 2 * c + d) (z_MW S) (z_MS S) K (i + 1))), some (.int (nI (i + 1)))]) (by rw [prC, ← ms_c hag hN6, if_neg c71]) ?_
          exact ih (i + 1) _ _ _ _ _ _ (by omega) hx2
set_option maxRecDepth 100000 in
set_option maxHeartbeats 4000000 in
theorem c_X10_possibleRecoveries {g : G0} (hG : Gd g) (S : SS) (c : Nat) (d : Nat) (N : Nat) (K : Nat) (h1 : (z_NW S) 0 = nI N) (h2 : N ≤ 6) (h3 : (z_ME S) = nI K) (h4 : K ≤ 5) (h5 : c < N) (h6 : d < 2) (h7 : ∀ i, i ≤ 100 → mvOk (upd (z_NW S) (1 + 2 * c + d) (nI i)) N) : ct g mX10_possibleRecoveries [.ref 26, .int (nI c), .int (nI d)] (mixW g S) (fun x w1 => x = some (.int (prC (z_NW S) N (1 + 2 * c + d) (z_MW S) (z_MS S) K 101)) ∧ ∃ tr mx rt mo u l, w1 = mixW g (s_RF (s_UP (s_LO (s_TR (s_MX (s_RT (s_MO S mo) rt) mx) tr) l) u) 0)) (fun _ _ => False) := by
  refine ct_of hG [some (.ref 26), some (.int (nI c)), some (.int (nI d)), none, none] rfl rfl rfl (Nat.le_of_ble_eq_true rfl) (fun h => ?_) rfl
  refine q_aload_n dX10_possibleRecoveries_0 rfl ?_
  refine q_aload_n dX10_possibleRecoveries_1 rfl ?_
  refine q_iload_n dX10_possibleRecoveries_2 rfl ?_
  refine q_callVv (ν := mX10_isCell) dX10_possibleRecoveries_3 uw_1053 vX10_isCell (c_X10_isCell hG S ((nI c)) (N) h1 h2) (Nat.le_of_ble_eq_true rfl) rfl rfl rfl rfl (Nat.le_of_ble_eq_true rfl) (Nat.le_of_ble_eq_true rfl) (Nat.le_of_ble_eq_true rfl) 0 (Nat.le_of_ble_eq_true rfl) ?_
  refine q_if_eq 20 dX10_possibleRecoveries_6 rfl (fun c6 => ?_) (fun c6 => ?_)
  · exact absurd (cel_ok h1 h2 h5) (pI_0 c6)
  · refine q_iload_n dX10_possibleRecoveries_9 rfl ?_
    refine q_callSv (ν := mX10_isBit) dX10_possibleRecoveries_10 uw_1057 vX10_isBit (c_X10_isBit hG S ((nI d))) rfl rfl (Nat.le_of_ble_eq_true rfl) (Nat.le_of_ble_eq_true rfl) (Nat.le_of_ble_eq_true rfl) 0 (Nat.le_of_ble_eq_true rfl) ?_
    refine q_if_eq 20 dX10_possibleRecoveries_13 rfl (fun c13 => ?_) (fun c13 => ?_)
    · exact absurd (two_ok h6) (pI_0 c13)
    · refine q_iconst (v := 0) dX10_possibleRecoveries_16 rfl ?_
      refine q_goto 21 dX10_possibleRecoveries_17 rfl ?_
      refine q_callVv (ν := mX10_refused) dX10_possibleRecoveries_21 uw_1000 vX10_refused (c_X10_refused hG S (0)) (Nat.le_of_ble_eq_true rfl) rfl rfl rfl rfl (Nat.le_of_ble_eq_true rfl) (Nat.le_of_ble_eq_true rfl) (Nat.le_of_ble_eq_true rfl) 0 (Nat.le_of_ble_eq_true rfl) ?_
      refine wp_w (w2 := mixW g (s_RF S (0))) rfl ?_
      refine wp_top (y := 0) (pI_f (by decide)) ?_
      refine q_if_eq 29 dX10_possibleRecoveries_24 rfl (fun c24 => ?_) (fun c24 => ?_)
      · refine q_aload_n dX10_possibleRecoveries_29 rfl ?_
        refine q_get (j := 1) (v := .ref 27) dX10_possibleRecoveries_30 (Nat.le_of_ble_eq_true rfl) rfl rfl iuX10 (Nat.le_of_ble_eq_true rfl) uw_925 rfl rfl ?_
        refine q_aload_n dX10_possibleRecoveries_33 rfl ?_
        refine q_get (j := 2) (v := .ref 28) dX10_possibleRecoveries_34 (Nat.le_of_ble_eq_true rfl) rfl rfl iuX10 (Nat.le_of_ble_eq_true rfl) uw_926 rfl rfl ?_
        refine q_callSu (ν := mX10_copy) dX10_possibleRecoveries_37 uw_1042 vX10_copy (c_X10_copy_27_28 hG (s_RF S (0)) ) rfl rfl (Nat.le_of_ble_eq_true rfl) (Nat.le_of_ble_eq_true rfl) (Nat.le_of_ble_eq_true rfl) 0 (Nat.le_of_ble_eq_true rfl) ?_
        rw [sc_TR_RF]
        refine wp_w (w2 := mixW g (s_RF (s_TR S (va_cpy (z_NW S) (z_TR S) 0 0 44)) (0))) rfl ?_
        refine q_iconst (v := 0) dX10_possibleRecoveries_40 rfl ?_
        refine q_ist3 dX10_possibleRecoveries_41 (Nat.le_of_ble_eq_true rfl) rfl ?_
        refine q_iconst (v := 0) dX10_possibleRecoveries_42 rfl ?_
        refine q_ist4 dX10_possibleRecoveries_43 (Nat.le_of_ble_eq_true rfl) rfl ?_
        refine wp_w (w2 := mixW g (s_UP (s_LO (s_TR (s_MX (s_RT (s_MO (s_RF S 0) (z_MO (s_RF S 0))) (z_RT (s_RF S 0))) (z_MX (s_RF S 0))) (va_cpy (z_NW S) (z_TR S) 0 0 44)) (z_LO (s_TR (s_RF S 0) (va_cpy (z_NW S) (z_TR S) 0 0 44)))) (z_UP (s_TR (s_RF S 0) (va_cpy (z_NW S) (z_TR S) 0 0 44))))) (by rw [se_MO, se_RT, se_MX, se_LO, se_UP, sc_TR_RF]) ?_
        refine wp_L (L2 := [some (.ref 26), some (.int (nI c)), some (.int (nI d)), some (.int (prC (z_NW S) N (1 + 2 * c + d) (z_MW S) (z_MS S) K 0)), some (.int (nI 0))]) rfl ?_
        refine l_X10_pr hG (s_RF S 0) N K c d h1 h2 h3 h4 h5 h6 h7 ?_ 101 0 _ _ _ _ _ _ (by omega) agx_0
        exact fun tr mx rt mo u l => ⟨rfl, tr, mx, rt, mo, u, l, (by rw [sc_MO_RF, sc_RT_RF, sc_MX_RF, sc_TR_RF, sc_LO_RF, sc_UP_RF])⟩
      · first | exact absurd (by decide) c24 | exact absurd c24 (by decide)
set_option maxRecDepth 100000 in
set_option maxHeartbeats 4000000 in
theorem c_X10_possibleRecoveries_x {g : G0} (hG : Gd g) (S : SS) (c : Int32) (d : Int32) (N : Nat) (h1 : (z_NW S) 0 = nI N) (h2 : N ≤ 6) (h3 : ¬ ((0 ≤ c ∧ c < (z_NW S) 0) ∧ (d = 0 ∨ d = 1))) : ctv g mX10_possibleRecoveries [.ref 26, .int c, .int d] (mixW g S) (.int (0)) (mixW g (s_RF S (1))) := by
  refine ct_of hG [some (.ref 26), some (.int (c)), some (.int (d)), none, none] rfl rfl rfl (Nat.le_of_ble_eq_true rfl) (fun h => ?_) rfl
  refine q_aload_n dX10_possibleRecoveries_0 rfl ?_
  refine q_aload_n dX10_possibleRecoveries_1 rfl ?_
  refine q_iload_n dX10_possibleRecoveries_2 rfl ?_
  refine q_callVv (ν := mX10_isCell) dX10_possibleRecoveries_3 uw_1053 vX10_isCell (c_X10_isCell hG S (c) (N) h1 h2) (Nat.le_of_ble_eq_true rfl) rfl rfl rfl rfl (Nat.le_of_ble_eq_true rfl) (Nat.le_of_ble_eq_true rfl) (Nat.le_of_ble_eq_true rfl) 0 (Nat.le_of_ble_eq_true rfl) ?_
  refine q_if_eq 20 dX10_possibleRecoveries_6 rfl (fun c6 => ?_) (fun c6 => ?_)
  · refine q_iconst (v := 1) dX10_possibleRecoveries_20 rfl ?_
    refine q_callVv (ν := mX10_refused) dX10_possibleRecoveries_21 uw_1000 vX10_refused (c_X10_refused hG S (1)) (Nat.le_of_ble_eq_true rfl) rfl rfl rfl rfl (Nat.le_of_ble_eq_true rfl) (Nat.le_of_ble_eq_true rfl) (Nat.le_of_ble_eq_true rfl) 0 (Nat.le_of_ble_eq_true rfl) ?_
    refine wp_w (w2 := mixW g (s_RF S (1))) rfl ?_
    refine wp_top (y := 1) (pI_t (by decide)) ?_
    refine q_if_eq 29 dX10_possibleRecoveries_24 rfl (fun c24 => ?_) (fun c24 => ?_)
    · first | exact absurd (by decide) c24 | exact absurd c24 (by decide)
    · refine q_iconst (v := 0) dX10_possibleRecoveries_27 rfl ?_
      exact q_iret dX10_possibleRecoveries_28 rfl ⟨rfl, rfl⟩
  · refine q_iload_n dX10_possibleRecoveries_9 rfl ?_
    refine q_callSv (ν := mX10_isBit) dX10_possibleRecoveries_10 uw_1057 vX10_isBit (c_X10_isBit hG S (d)) rfl rfl (Nat.le_of_ble_eq_true rfl) (Nat.le_of_ble_eq_true rfl) (Nat.le_of_ble_eq_true rfl) 0 (Nat.le_of_ble_eq_true rfl) ?_
    refine q_if_eq 20 dX10_possibleRecoveries_13 rfl (fun c13 => ?_) (fun c13 => ?_)
    · refine q_iconst (v := 1) dX10_possibleRecoveries_20 rfl ?_
      refine q_callVv (ν := mX10_refused) dX10_possibleRecoveries_21 uw_1000 vX10_refused (c_X10_refused hG S (1)) (Nat.le_of_ble_eq_true rfl) rfl rfl rfl rfl (Nat.le_of_ble_eq_true rfl) (Nat.le_of_ble_eq_true rfl) (Nat.le_of_ble_eq_true rfl) 0 (Nat.le_of_ble_eq_true rfl) ?_
      refine wp_w (w2 := mixW g (s_RF S (1))) rfl ?_
      refine wp_top (y := 1) (pI_t (by decide)) ?_
      refine q_if_eq 29 dX10_possibleRecoveries_24 rfl (fun c24 => ?_) (fun c24 => ?_)
      · first | exact absurd (by decide) c24 | exact absurd c24 (by decide)
      · refine q_iconst (v := 0) dX10_possibleRecoveries_27 rfl ?_
        exact q_iret dX10_possibleRecoveries_28 rfl ⟨rfl, rfl⟩
    · exact absurd ⟨pI_1 c6, pI_1 c13⟩ h3
