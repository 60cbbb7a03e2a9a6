theorem brF_lo {a : Nat → Int32} {t d j : Nat} {x : Int32} (ht : okG t) (hj : j < 28) : brF a t d x j = a j := by
  have := ixB_lt (d := 0) ht (by omega)
  simp only [brF, upd]
  rw [if_neg (by omega)]
theorem gsA_lo {f a : Nat → Int32} {d n : Nat} {tg : Nat → Nat} (ht : ∀ k, k < 2 * n → okG (tg k)) {j : Nat} (hj : j < 28) : ∀ i, i ≤ n → gsA f a d tg i j = a j
  | 0, _ => rfl
  | i + 1, hi => by
    simp only [gsA]
    rw [brF_lo (ht _ (by omega)) hj, brF_lo (ht _ (by omega)) hj]
    exact gsA_lo ht hj i (by omega)
theorem gsF_lo {f : Nat → Int32} {ft N : Nat} {tg : Nat → Nat} (h : tgtM f N ft tg) {j : Nat} (hj : j < 28) : gsF f ft N tg j = f j := by
  have ht : ∀ k, k < 2 * N → okG (tg k) := fun k hk => (h.2.2.2.2 k hk).2
  unfold gsF
  rw [cpy_at (by omega)]
  unfold gs2 gs1
  rw [brF_lo h.2.2.2.1 hj, gsA_lo ht hj N (Nat.le_refl N), brF_lo h.2.2.2.1 hj, gsA_lo ht hj N (Nat.le_refl N)]
  simp only [zerF]
  rw [if_neg (by omega), cpy_at (by omega)]
theorem tgtM_congr {f f2 : Nat → Int32} {n ft : Nat} {tg : Nat → Nat} (h : tgtM f n ft tg) (e0 : f2 0 = f 0) (e1 : f2 25 = f 25) (ed : ∀ k, k < 12 → f2 (13 + k) = f (13 + k)) : tgtM f2 n ft tg := by
  obtain ⟨t1, t2, t3, t4, t5⟩ := h
  refine ⟨e0.trans t1, t2, by rw [e0, e1]; exact t3, t4, fun k hk => ?_⟩
  rw [e0, ed k (by omega)]
  exact t5 k hk
theorem tgtM_gs {f : Nat → Int32} {ft N : Nat} {tg : Nat → Nat} (h : tgtM f N ft tg) : tgtM (gsF f ft N tg) N ft tg := tgtM_congr h (gsF_lo h (by omega)) (gsF_lo h (by omega)) (fun k hk => gsF_lo h (by omega))
theorem tgtM_cpy {f g2 : Nat → Int32} {n ft : Nat} {tg : Nat → Nat} (h : tgtM f n ft tg) : tgtM (va_cpy f g2 0 0 44) n ft tg := tgtM_congr h (cpy_at (by omega)) (cpy_at (by omega)) (fun k hk => cpy_at (by omega))
theorem tgtM_upd {f : Nat → Int32} {n ft j : Nat} {x : Int32} {tg : Nat → Nat} (h : tgtM f n ft tg) (h1 : 1 ≤ j) (h2 : j < 13) : tgtM (upd f j x) n ft tg := tgtM_congr h (pk_un (by omega)) (pk_un (by omega)) (fun k hk => pk_un (by omega))
def itM (f : Nat → Int32) (ft N : Nat) (tg : Nat → Nat) : Nat → Nat → Int32
  | 0 => f
  | i + 1 => gsF (itM f ft N tg i) ft N tg
theorem tgtM_it {f : Nat → Int32} {ft N : Nat} {tg : Nat → Nat} (h : tgtM f N ft tg) : ∀ i, tgtM (itM f ft N tg i) N ft tg
  | 0 => h
  | i + 1 => tgtM_gs (tgtM_it h i)
set_option maxRecDepth 100000 in
set_option maxHeartbeats 4000000 in
theorem l_X10_step {g : G0} {h : G1} (hG : Gd g) (S0 : SS) {post : Option Value → (Nat → va_E) → Prop} {xp : String → (Nat → va_E) → Prop} (k ft N : Nat) (tg : Nat → Nat) (hk : k ≤ 100) (ht : tgtM (z_NW S0) N ft tg) (hp : ∀ S2, cm S2 = cm (s_NW S0 (itM (z_NW S0) ft N tg k)) → post (some (.int (itM (z_NW S0) ft N tg k 40))) (mixW g S2)) : ∀ (n i : Nat) (S : SS), cm S = cm (s_NW S0 (itM (z_NW S0) ft N tg i)) → i + n = k → wp g h mX10_step (mixW g S) [some (.ref 26), some (.int (nI k)), some (.int (nI i))] [] 0 (QQ g h mX10_step post xp) 32 := by
  intro n
  induction n with
  | zero =>
    intro i S hco hq1
    obtain rfl : k = i := by omega
    have hs : z_NW S = itM (z_NW S0) ft N tg k := cm_NWv hco
    refine q_iload_n dX10_step_32 rfl ?_
    refine q_iload_n dX10_step_33 rfl ?_
    refine q_icmp_ge 51 dX10_step_34 rfl (fun c34 => ?_) (fun c34 => ?_)
    · have n34 := (nI_leI (a := k) (b := k) (by omega) (by omega)).mp c34
      refine q_aload_n dX10_step_51 rfl ?_
      refine q_get (j := 1) (v := .ref 27) dX10_step_52 (Nat.le_of_ble_eq_true rfl) rfl rfl iuX10 (Nat.le_of_ble_eq_true rfl) uw_925 rfl rfl ?_
      refine q_bipush (v := 40) dX10_step_55 rfl ?_
      refine q_iald (f := (z_NW S)) dX10_step_57 (Nat.le_of_ble_eq_true rfl) rfl (40) rfl (Nat.le_of_ble_eq_true rfl) (Nat.le_of_ble_eq_true rfl) ?_
      exact q_iret dX10_step_58 rfl (by rw [hs]; exact hp S hco)
    · have n34 := mt (nI_leI (a := k) (b := k) (by omega) (by omega)).mpr c34
      omega
  | succ n ih =>
    intro i S hco hq1
    have hs : z_NW S = itM (z_NW S0) ft N tg i := cm_NWv hco
    have ht2 : tgtM (z_NW S) N ft tg := by rw [hs]; exact tgtM_it ht i
    refine q_iload_n dX10_step_32 rfl ?_
    refine q_iload_n dX10_step_33 rfl ?_
    refine q_icmp_ge 51 dX10_step_34 rfl (fun c34 => ?_) (fun c34 => ?_)
    · have n34 := (nI_leI (a := k) (b := i) (by omega) (by omega)).mp c34
      omega
    · have n34 := mt (nI_leI (a := k) (b := i) (by omega) (by omega)).mpr c34
      refine q_aload_n dX10_step_37 rfl ?_
      refine q_aload_n dX10_step_38 rfl ?_
      refine q_get (j := 1) (v := .ref 27) dX10_step_39 (Nat.le_of_ble_eq_true rfl) rfl rfl iuX10 (Nat.le_of_ble_eq_true rfl) uw_925 rfl rfl ?_
      refine q_callVu (ν := mX10_goStep) dX10_step_42 uw_1102 vX10_goStep (c_X10_goStep_27 hG S (ft) (N) (tg) ht2) (Nat.le_of_ble_eq_true rfl) rfl rfl rfl rfl (Nat.le_of_ble_eq_true rfl) (Nat.le_of_ble_eq_true rfl) (Nat.le_of_ble_eq_true rfl) 0 (Nat.le_of_ble_eq_true rfl) ?_
      refine wp_w (w2 := mixW g (s_NW (s_AF S (gs2 (z_NW S) (z_AF S) ft N tg)) (gsF (z_NW S) ft N tg))) rfl ?_
      refine q_iinc2 (k9 := 1) dX10_step_45 rfl (Nat.le_of_ble_eq_true rfl) rfl ?_
      refine wp_L (L2 := [some (.ref 26), some (.int (nI k)), some (.int (nI (i + 1)))]) (by rw [show nI i + 1 = nI (i + 1) from nI_1 _]) ?_
      refine q_goto 32 dX10_step_48 rfl ?_
      refine ih (i + 1) (s_NW (s_AF S (gs2 (z_NW S) (z_AF S) ft N tg)) (gsF (z_NW S) ft N tg)) ?_ (by omega)
      rw [show (s_NW (s_AF S (gs2 (z_NW S) (z_AF S) ft N tg)) (gsF (z_NW S) ft N tg)) = s_AF (s_NW S (gsF (z_NW S) ft N tg)) (gs2 (z_NW S) (z_AF S) ft N tg) from (sc_AF_NW _ _ _).symm, cm_AF, hs]
      refine (cm_NW_congr hco _).trans ?_
      rw [ss_NW]
      rfl
set_option maxRecDepth 100000 in
set_option maxHeartbeats 4000000 in
theorem c_X10_step {g : G0} (hG : Gd g) (S : SS) (k : Nat) (N : Nat) (p : Nat) (q : Nat) (ft : Nat) (tg : Nat → Nat) (h1 : (z_NW S) 0 = nI N) (h2 : N ≤ 6) (h3 : (z_NX S) = nI p) (h4 : p < 14) (h5 : (z_AC S) = nI q) (h6 : q ≤ 14) (h7 : 1 ≤ k) (h8 : k ≤ 100) (h9 : tgtM (z_NW S) N ft tg) : ct g mX10_step [.ref 26, .int (nI k)] (mixW g S) (fun v w1 => v = some (.int (itM (z_NW S) ft N tg k 40)) ∧ ∃ S2, w1 = mixW g S2 ∧ cm S2 = cm (s_NW (s_RF (s_AC (s_NX (s_DI S (va_cpy (z_NW S) (z_DI S) 0 (p * 44) 44)) (nI ((p + 1) % 14))) (nI (min (q + 1) 14))) 0) (itM (z_NW S) ft N tg k))) (fun _ _ => False) := by
  refine ct_of hG [some (.ref 26), some (.int (nI k)), none] rfl rfl rfl (Nat.le_of_ble_eq_true rfl) (fun h => ?_) rfl
  refine q_aload_n dX10_step_0 rfl ?_
  refine q_iload_n dX10_step_1 rfl ?_
  refine q_i2l dX10_step_2 ?_
  refine q_lconst (v := 1) dX10_step_3 rfl ?_
  refine q_ldc2 dX10_step_4 uw_1076 ?_
  refine q_callSv (ν := mX10_in) dX10_step_7 uw_997 vX10_in (c_X10_in hG S (((nI k : Int32).toInt64)) (1) (100)) rfl rfl (Nat.le_of_ble_eq_true rfl) (Nat.le_of_ble_eq_true rfl) (Nat.le_of_ble_eq_true rfl) 0 (Nat.le_of_ble_eq_true rfl) ?_
  refine wp_top (y := pI (1 ≤ (nI k) ∧ (nI k) ≤ 100)) (inI (l2 := 1) (u2 := 100) rfl rfl) ?_
  refine q_if_eq 17 dX10_step_10 rfl (fun c10 => ?_) (fun c10 => ?_)
  · exact absurd (rng_ok (lo := 1) (hi := 100) (by omega) (by omega) (by omega)) (pI_0 c10)
  · refine q_iconst (v := 0) dX10_step_13 rfl ?_
    refine q_goto 18 dX10_step_14 rfl ?_
    refine q_callVv (ν := mX10_refused) dX10_step_18 uw_1000 vX10_refused (c_X10_refused hG S (0)) (Nat.le_of_ble_eq_true rfl) rfl rfl rfl rfl (Nat.le_of_ble_eq_true rfl) (Nat.le_of_ble_eq_true rfl) (Nat.le_of_ble_eq_true rfl) 0 (Nat.le_of_ble_eq_true rfl) ?_
    refine wp_w (w2 := mixW g (s_RF S (0))) rfl ?_
    refine wp_top (y := 0) (pI_f (by decide)) ?_
    refine q_if_eq 26 dX10_step_21 rfl (fun c21 => ?_) (fun c21 => ?_)
    · refine q_aload_n dX10_step_26 rfl ?_
      refine q_callVu (ν := mX10_note) dX10_step_27 uw_1077 vX10_note (c_X10_note hG (s_RF S (0)) (p) (q) h3 h4 h5 h6) (Nat.le_of_ble_eq_true rfl) rfl rfl rfl rfl (Nat.le_of_ble_eq_true rfl) (Nat.le_of_ble_eq_true rfl) (Nat.le_of_ble_eq_true rfl) 0 (Nat.le_of_ble_eq_true rfl) ?_
      rw [sc_DI_RF, sc_NX_RF, sc_AC_RF]
      refine wp_w (w2 := mixW g (s_RF (s_AC (s_NX (s_DI S (va_cpy (z_NW S) (z_DI S) 0 (p * 44) 44)) (nI ((p + 1) % 14))) (nI (min (q + 1) 14))) (0))) rfl ?_
      refine q_iconst (v := 0) dX10_step_30 rfl ?_
      refine q_ist2 dX10_step_31 (Nat.le_of_ble_eq_true rfl) rfl ?_
      exact l_X10_step hG (s_RF (s_AC (s_NX (s_DI S (va_cpy (z_NW S) (z_DI S) 0 (p * 44) 44)) (nI ((p + 1) % 14))) (nI (min (q + 1) 14))) (0)) k ft N tg h8 h9 (fun S2 hS2 => ⟨rfl, S2, rfl, hS2⟩) k 0 (s_RF (s_AC (s_NX (s_DI S (va_cpy (z_NW S) (z_DI S) 0 (p * 44) 44)) (nI ((p + 1) % 14))) (nI (min (q + 1) 14))) (0)) (by rw [show itM (z_NW (s_RF (s_AC (s_NX (s_DI S (va_cpy (z_NW S) (z_DI S) 0 (p * 44) 44)) (nI ((p + 1) % 14))) (nI (min (q + 1) 14))) (0))) ft N tg 0 = z_NW (s_RF (s_AC (s_NX (s_DI S (va_cpy (z_NW S) (z_DI S) 0 (p * 44) 44)) (nI ((p + 1) % 14))) (nI (min (q + 1) 14))) (0)) from rfl, se_NW]) (by omega)
    · first | exact absurd (by decide) c21 | exact absurd c21 (by decide)
set_option maxRecDepth 100000 in
set_option maxHeartbeats 4000000 in
theorem c_X10_step_x {g : G0} (hG : Gd g) (S : SS) (x : Int32)  (h1 : ¬ (1 ≤ x ∧ x ≤ 100)) : ctv g mX10_step [.ref 26, .int x] (mixW g S) (.int (0)) (mixW g (s_RF S (1))) := by
  refine ct_of hG [some (.ref 26), some (.int (x)), none] rfl rfl rfl (Nat.le_of_ble_eq_true rfl) (fun h => ?_) rfl
  refine q_aload_n dX10_step_0 rfl ?_
  refine q_iload_n dX10_step_1 rfl ?_
  refine q_i2l dX10_step_2 ?_
  refine q_lconst (v := 1) dX10_step_3 rfl ?_
  refine q_ldc2 dX10_step_4 uw_1076 ?_
  refine q_callSv (ν := mX10_in) dX10_step_7 uw_997 vX10_in (c_X10_in hG S (((x : Int32).toInt64)) (1) (100)) rfl rfl (Nat.le_of_ble_eq_true rfl) (Nat.le_of_ble_eq_true rfl) (Nat.le_of_ble_eq_true rfl) 0 (Nat.le_of_ble_eq_true rfl) ?_
  refine wp_top (y := pI (1 ≤ x ∧ x ≤ 100)) (inI (l2 := 1) (u2 := 100) rfl rfl) ?_
  refine q_if_eq 17 dX10_step_10 rfl (fun c10 => ?_) (fun c10 => ?_)
  · refine q_iconst (v := 1) dX10_step_17 rfl ?_
    refine q_callVv (ν := mX10_refused) dX10_step_18 uw_1000 vX10_refused (c_X10_refused hG S (1)) (Nat.le_of_ble_eq_true rfl) rfl rfl rfl rfl (Nat.le_of_ble_eq_true rfl) (Nat.le_of_ble_eq_true rfl) (Nat.le_of_ble_eq_true rfl) 0 (Nat.le_of_ble_eq_true rfl) ?_
    refine wp_w (w2 := mixW g (s_RF S (1))) rfl ?_
    refine wp_top (y := 1) (pI_t (by decide)) ?_
    refine q_if_eq 26 dX10_step_21 rfl (fun c21 => ?_) (fun c21 => ?_)
    · first | exact absurd (by decide) c21 | exact absurd c21 (by decide)
    · refine q_iconst (v := 0) dX10_step_24 rfl ?_
      exact q_iret dX10_step_25 rfl ⟨rfl, rfl⟩
  · exact absurd (pI_1 c10) h1
def dtM (f : Nat → Int32) (N r : Nat) : Nat → Int32 := if 0 < N ∧ r % 3 = 0 then upd f (1 + 2 * (r / 3 % N) + r / 64 % 2) (nI (r / 128 % 101)) else f
theorem tgtM_dt {f : Nat → Int32} {ft N : Nat} {tg : Nat → Nat} (h : tgtM f N ft tg) (r : Nat) : tgtM (dtM f N r) N ft tg := by
  unfold dtM
  by_cases z : 0 < N ∧ r % 3 = 0
  · rw [if_pos z]
    have h1 := Nat.mod_lt (r / 3) z.1
    have := h.2.1
    exact tgtM_upd h (by omega) (by omega)
  · rw [if_neg z]
    exact h
def diM (nx : Int64 → Int64) (rn : Int64 → Nat) (ft N : Nat) (tg : Nat → Nat) : Nat → (Nat → Int32) → Int64 → (Nat → Int32)
  | 0, f, _ => f
  | n + 1, f, x => diM nx rn ft N tg n (gsF (dtM f N (rn (nx x))) ft N tg) (nx x)
theorem diM_s (nx : Int64 → Int64) (rn : Int64 → Nat) (ft N : Nat) (tg : Nat → Nat) (n : Nat) (f : Nat → Int32) (x : Int64) : diM nx rn ft N tg (n + 1) f x = diM nx rn ft N tg n (gsF (dtM f N (rn (nx x))) ft N tg) (nx x) := by simp only [diM]
set_option maxRecDepth 100000 in
set_option maxHeartbeats 4000000 in
theorem l_X10_disturb {g : G0} {h : G1} (hG : Gd g) (S0 : SS) {post : Option Value → (Nat → va_E) → Prop} {xp : String → (Nat → va_E) → Prop} (x0 : Int64) (k ft N : Nat) (tg : Nat → Nat) (hk : k ≤ 100) : ∀ (n i : Nat) (S : SS) (x : Int64), cm S = cm S0 → tgtM (z_TR S) N ft tg → i + n = k → (∀ S2, cm S2 = cm S0 → post (some (.int (diM nxF rN ft N tg n (z_TR S) x 40))) (mixW g S2)) → wp g h mX10_disturb (mixW g S) [some (.ref 26), some (.long (x0)), none, some (.int (nI k)), some (.long (x)), none, some (.int (nI i)), none] [] 0 (QQ g h mX10_disturb post xp) 43 := by
  intro n
  induction n with
  | zero =>
    intro i S x hco ht hq1 hp
    obtain rfl : k = i := by omega
    refine q_iload dX10_disturb_43 rfl ?_
    refine q_iload_n dX10_disturb_45 rfl ?_
    refine q_icmp_ge 136 dX10_disturb_46 rfl (fun c46 => ?_) (fun c46 => ?_)
    · have n46 := (nI_leI (a := k) (b := k) (by omega) (by omega)).mp c46
      refine q_aload_n dX10_disturb_136 rfl ?_
      refine q_get (j := 2) (v := .ref 28) dX10_disturb_137 (Nat.le_of_ble_eq_true rfl) rfl rfl iuX10 (Nat.le_of_ble_eq_true rfl) uw_926 rfl rfl ?_
      refine q_bipush (v := 40) dX10_disturb_140 rfl ?_
      refine q_iald (f := (z_TR S)) dX10_disturb_142 (Nat.le_of_ble_eq_true rfl) rfl (40) rfl (Nat.le_of_ble_eq_true rfl) (Nat.le_of_ble_eq_true rfl) ?_
      exact q_iret dX10_disturb_143 rfl (by have := hp S hco; simp only [diM] at this; exact this)
    · have n46 := mt (nI_leI (a := k) (b := k) (by omega) (by omega)).mpr c46
      omega
  | succ n ih =>
    intro i S x hco ht hq1 hp
    have ht1 := ht.1
    have ht2 := ht.2.1
    have hr := rN_lt (nxF x)
    obtain ⟨r, er⟩ : ∃ r, rN (nxF x) = r := ⟨_, rfl⟩
    rw [er] at hr
    refine q_iload dX10_disturb_43 rfl ?_
    refine q_iload_n dX10_disturb_45 rfl ?_
    refine q_icmp_ge 136 dX10_disturb_46 rfl (fun c46 => ?_) (fun c46 => ?_)
    · have n46 := (nI_leI (a := k) (b := i) (by omega) (by omega)).mp c46
      omega
    · have n46 := mt (nI_leI (a := k) (b := i) (by omega) (by omega)).mpr c46
      refine q_lload dX10_disturb_49 rfl ?_
      refine q_ldc2 dX10_disturb_51 uw_1240 ?_
      refine q_lmul dX10_disturb_54 ?_
      refine q_ldc2 dX10_disturb_55 uw_1241 ?_
      refine q_ladd dX10_disturb_58 ?_
      refine wp_topl (y := nxF x) rfl ?_
      refine q_lst4 dX10_disturb_59 (Nat.le_of_ble_eq_true rfl) rfl ?_
      refine q_lload dX10_disturb_61 rfl ?_
      refine q_bipush (v := 33) dX10_disturb_63 rfl ?_
      refine q_lushr dX10_disturb_65 ?_
      refine q_l2i dX10_disturb_66 ?_
      refine wp_top (y := nI r) ((rN_eq _).trans (congrArg nI er)) ?_
      refine q_ist7 dX10_disturb_67 (Nat.le_of_ble_eq_true rfl) rfl ?_
      refine q_aload_n dX10_disturb_69 rfl ?_
      refine q_get (j := 2) (v := .ref 28) dX10_disturb_70 (Nat.le_of_ble_eq_true rfl) rfl rfl iuX10 (Nat.le_of_ble_eq_true rfl) uw_926 rfl rfl ?_
      refine q_iconst (v := 0) dX10_disturb_73 rfl ?_
      refine q_iald (f := (z_TR S)) dX10_disturb_74 (Nat.le_of_ble_eq_true rfl) rfl (0) rfl (Nat.le_of_ble_eq_true rfl) (Nat.le_of_ble_eq_true rfl) ?_
      refine wp_top (y := nI N) ht1 ?_
      refine q_if_le 122 dX10_disturb_75 rfl (fun c75 => ?_) (fun c75 => ?_)
      · have n75 := (nI_leI (a := N) (b := 0) (by omega) (by omega)).mp c75
        refine wp_w (w2 := mixW g (s_TR S (dtM (z_TR S) N r))) (by rw [dtM, if_neg (by omega), se_TR]) ?_
        refine q_aload_n dX10_disturb_122 rfl ?_
        refine q_aload_n dX10_disturb_123 rfl ?_
        refine q_get (j := 2) (v := .ref 28) dX10_disturb_124 (Nat.le_of_ble_eq_true rfl) rfl rfl iuX10 (Nat.le_of_ble_eq_true rfl) uw_926 rfl rfl ?_
        refine q_callVu (ν := mX10_goStep) dX10_disturb_127 uw_1102 vX10_goStep (c_X10_goStep_28 hG (s_TR S (dtM (z_TR S) N r)) (ft) (N) (tg) (tgtM_dt ht r)) (Nat.le_of_ble_eq_true rfl) rfl rfl rfl rfl (Nat.le_of_ble_eq_true rfl) (Nat.le_of_ble_eq_true rfl) (Nat.le_of_ble_eq_true rfl) 0 (Nat.le_of_ble_eq_true rfl) ?_
        rw [sc_AF_TR, ss_TR]
        refine wp_w (w2 := mixW g (s_TR (s_AF S (gs2 (dtM (z_TR S) N r) (z_AF S) ft N tg)) (gsF (dtM (z_TR S) N r) ft N tg))) rfl ?_
        refine q_iinc6 (k9 := 1) dX10_disturb_130 rfl (Nat.le_of_ble_eq_true rfl) rfl ?_
        refine wp_L (L2 := [some (.ref 26), some (.long (x0)), none, some (.int (nI k)), some (.long (nxF x)), none, some (.int (nI (i + 1))), some (.int (nI r))]) (by rw [show nI i + 1 = nI (i + 1) from nI_1 _]) ?_
        refine q_goto 43 dX10_disturb_133 rfl ?_
        refine wp_fg (L2 := [some (.ref 26), some (.long (x0)), none, some (.int (nI k)), some (.long (nxF x)), none, some (.int (nI (i + 1))), none]) ⟨rfl, rfl, rfl, rfl, rfl, trivial⟩ ?_
        refine ih (i + 1) (s_TR (s_AF S (gs2 (dtM (z_TR S) N r) (z_AF S) ft N tg)) (gsF (dtM (z_TR S) N r) ft N tg)) _ (by rw [cm_TR, cm_AF]; exact hco) (tgtM_gs (tgtM_dt ht r)) (by omega) (fun S2 hS2 => ?_)
        have := hp S2 hS2
        rw [diM_s, er] at this
        exact this
      · have n75 := mt (nI_leI (a := N) (b := 0) (by omega) (by omega)).mpr c75
        refine q_iload dX10_disturb_78 rfl ?_
        refine q_iconst (v := 3) dX10_disturb_80 rfl ?_
        refine q_irem dX10_disturb_81 (by decide) ?_
        refine wp_top (y := nI (r % 3)) (pk_rem (d := 3) (by omega) (by omega) (by omega)) ?_
        refine q_if_ne 122 dX10_disturb_82 rfl (fun c82 => ?_) (fun c82 => ?_)
        · have n82 := mt (nI_eq (a := (r % 3)) (b := 0) (by omega) (by omega)).mpr c82
          refine wp_w (w2 := mixW g (s_TR S (dtM (z_TR S) N r))) (by rw [dtM, if_neg (by omega), se_TR]) ?_
          refine q_aload_n dX10_disturb_122 rfl ?_
          refine q_aload_n dX10_disturb_123 rfl ?_
          refine q_get (j := 2) (v := .ref 28) dX10_disturb_124 (Nat.le_of_ble_eq_true rfl) rfl rfl iuX10 (Nat.le_of_ble_eq_true rfl) uw_926 rfl rfl ?_
          refine q_callVu (ν := mX10_goStep) dX10_disturb_127 uw_1102 vX10_goStep (c_X10_goStep_28 hG (s_TR S (dtM (z_TR S) N r)) (ft) (N) (tg) (tgtM_dt ht r)) (Nat.le_of_ble_eq_true rfl) rfl rfl rfl rfl (Nat.le_of_ble_eq_true rfl) (Nat.le_of_ble_eq_true rfl) (Nat.le_of_ble_eq_true rfl) 0 (Nat.le_of_ble_eq_true rfl) ?_
          rw [sc_AF_TR, ss_TR]
          refine wp_w (w2 := mixW g (s_TR (s_AF S (gs2 (dtM (z_TR S) N r) (z_AF S) ft N tg)) (gsF (dtM (z_TR S) N r) ft N tg))) rfl ?_
          refine q_iinc6 (k9 := 1) dX10_disturb_130 rfl (Nat.le_of_ble_eq_true rfl) rfl ?_
          refine wp_L (L2 := [some (.ref 26), some (.long (x0)), none, some (.int (nI k)), some (.long (nxF x)), none, some (.int (nI (i + 1))), some (.int (nI r))]) (by rw [show nI i + 1 = nI (i + 1) from nI_1 _]) ?_
          refine q_goto 43 dX10_disturb_133 rfl ?_
          refine wp_fg (L2 := [some (.ref 26), some (.long (x0)), none, some (.int (nI k)), some (.long (nxF x)), none, some (.int (nI (i + 1))), none]) ⟨rfl, rfl, rfl, rfl, rfl, trivial⟩ ?_
          refine ih (i + 1) (s_TR (s_AF S (gs2 (dtM (z_TR S) N r) (z_AF S) ft N tg)) (gsF (dtM (z_TR S) N r) ft N tg)) _ (by rw [cm_TR, cm_AF]; exact hco) (tgtM_gs (tgtM_dt ht r)) (by omega) (fun S2 hS2 => ?_)
          have := hp S2 hS2
          rw [diM_s, er] at this
          exact this
        · have n82 := (nI_eq (a := (r % 3)) (b := 0) (by omega) (by omega)).mp c82
          refine q_aload_n dX10_disturb_85 rfl ?_
          refine q_get (j := 2) (v := .ref 28) dX10_disturb_86 (Nat.le_of_ble_eq_true rfl) rfl rfl iuX10 (Nat.le_of_ble_eq_true rfl) uw_926 rfl rfl ?_
          refine q_iconst (v := 1) dX10_disturb_89 rfl ?_
          refine q_iconst (v := 2) dX10_disturb_90 rfl ?_
          refine q_iload dX10_disturb_91 rfl ?_
          refine q_iconst (v := 3) dX10_disturb_93 rfl ?_
          refine q_idiv dX10_disturb_94 (by decide) ?_
          refine wp_top (y := nI (r / 3)) (pk_div (d := 3) (by omega) (by omega) (by omega)) ?_
          refine q_aload_n dX10_disturb_95 rfl ?_
          refine q_get (j := 2) (v := .ref 28) dX10_disturb_96 (Nat.le_of_ble_eq_true rfl) rfl rfl iuX10 (Nat.le_of_ble_eq_true rfl) uw_926 rfl rfl ?_
          refine q_iconst (v := 0) dX10_disturb_99 rfl ?_
          refine q_iald (f := (z_TR S)) dX10_disturb_100 (Nat.le_of_ble_eq_true rfl) rfl (0) rfl (Nat.le_of_ble_eq_true rfl) (Nat.le_of_ble_eq_true rfl) ?_
          refine wp_top (y := nI N) ht1 ?_
          refine q_irem dX10_disturb_101 (nI_ne0 (by omega) (by omega)) ?_
          refine wp_top (y := nI (r / 3 % N)) (pk_rem (by omega) (by omega) (by omega)) ?_
          have hm := Nat.mod_lt (r / 3) (show 0 < N by omega)
          refine q_imul dX10_disturb_102 ?_
          refine q_iadd dX10_disturb_103 ?_
          refine q_iload dX10_disturb_104 rfl ?_
          refine q_bipush (v := 64) dX10_disturb_106 rfl ?_
          refine q_idiv dX10_disturb_108 (by decide) ?_
          refine wp_top (y := nI (r / 64)) (pk_div (d := 64) (by omega) (by omega) (by omega)) ?_
          refine q_iconst (v := 2) dX10_disturb_109 rfl ?_
          refine q_irem dX10_disturb_110 (by decide) ?_
          refine wp_top (y := nI (r / 64 % 2)) (pk_rem (d := 2) (by omega) (by omega) (by omega)) ?_
          refine q_iadd dX10_disturb_111 ?_
          refine q_iload dX10_disturb_112 rfl ?_
          refine q_sipush (v := 128) dX10_disturb_114 rfl ?_
          refine q_idiv dX10_disturb_117 (by decide) ?_
          refine wp_top (y := nI (r / 128)) (pk_div (d := 128) (by omega) (by omega) (by omega)) ?_
          refine q_bipush (v := 101) dX10_disturb_118 rfl ?_
          refine q_irem dX10_disturb_120 (by decide) ?_
          refine wp_top (y := nI (r / 128 % 101)) (pk_rem (d := 101) (by omega) (by omega) (by omega)) ?_
          refine q_iast (f := (z_TR S)) dX10_disturb_121 (Nat.le_of_ble_eq_true rfl) rfl (((1 + (2 * (r / 3 % N))) + (r / 64 % 2))) (by simp only [fa_lit, pk_mul, nI_add]) (by omega) (Nat.le_of_ble_eq_true rfl) ?_
          refine wp_w (u_TR g _ _) ?_
          refine wp_w (w2 := mixW g (s_TR S (dtM (z_TR S) N r))) (by rw [dtM, if_pos ⟨by omega, n82⟩]) ?_
          refine q_aload_n dX10_disturb_122 rfl ?_
          refine q_aload_n dX10_disturb_123 rfl ?_
          refine q_get (j := 2) (v := .ref 28) dX10_disturb_124 (Nat.le_of_ble_eq_true rfl) rfl rfl iuX10 (Nat.le_of_ble_eq_true rfl) uw_926 rfl rfl ?_
          refine q_callVu (ν := mX10_goStep) dX10_disturb_127 uw_1102 vX10_goStep (c_X10_goStep_28 hG (s_TR S (dtM (z_TR S) N r)) (ft) (N) (tg) (tgtM_dt ht r)) (Nat.le_of_ble_eq_true rfl) rfl rfl rfl rfl (Nat.le_of_ble_eq_true rfl) (Nat.le_of_ble_eq_true rfl) (Nat.le_of_ble_eq_true rfl) 0 (Nat.le_of_ble_eq_true rfl) ?_
          rw [sc_AF_TR, ss_TR]
          refine wp_w (w2 := mixW g (s_TR (s_AF S (gs2 (dtM (z_TR S) N r) (z_AF S) ft N tg)) (gsF (dtM (z_TR S) N r) ft N tg))) rfl ?_
          refine q_iinc6 (k9 := 1) dX10_disturb_130 rfl (Nat.le_of_ble_eq_true rfl) rfl ?_
          refine wp_L (L2 := [some (.ref 26), some (.long (x0)), none, some (.int (nI k)), some (.long (nxF x)), none, some (.int (nI (i + 1))), some (.int (nI r))]) (by rw [show nI i + 1 = nI (i + 1) from nI_1 _]) ?_
          refine q_goto 43 dX10_disturb_133 rfl ?_
          refine wp_fg (L2 := [some (.ref 26), some (.long (x0)), none, some (.int (nI k)), some (.long (nxF x)), none, some (.int (nI (i + 1))), none]) ⟨rfl, rfl, rfl, rfl, rfl, trivial⟩ ?_
          refine ih (i + 1) (s_TR (s_AF S (gs2 (dtM (z_TR S) N r) (z_AF S) ft N tg)) (gsF (dtM (z_TR S) N r) ft N tg)) _ (by rw [cm_TR, cm_AF]; exact hco) (tgtM_gs (tgtM_dt ht r)) (by omega) (fun S2 hS2 => ?_)
          have := hp S2 hS2
          rw [diM_s, er] at this
          exact this
set_option maxRecDepth 100000 in
set_option maxHeartbeats 4000000 in
theorem c_X10_disturb {g : G0} (hG : Gd g) (S : SS) (x : Int64) (k : Nat) (ft : Nat) (N : Nat) (tg : Nat → Nat) (h1 : tgtM (z_NW S) N ft tg) (h2 : 1 ≤ k) (h3 : k ≤ 100) : ct g mX10_disturb [.ref 26, .long x, .int (nI k)] (mixW g S) (fun v w1 => v = some (.int (diM nxF rN ft N tg k (va_cpy (z_NW S) (z_TR S) 0 0 44) x 40)) ∧ ∃ S2, w1 = mixW g S2 ∧ cm S2 = cm (s_RF S 0)) (fun _ _ => False) := by
  refine ct_of hG [some (.ref 26), some (.long (x)), none, some (.int (nI k)), none, none, none, none] rfl rfl rfl (Nat.le_of_ble_eq_true rfl) (fun h => ?_) rfl
  refine q_aload_n dX10_disturb_0 rfl ?_
  refine q_iload_n dX10_disturb_1 rfl ?_
  refine q_i2l dX10_disturb_2 ?_
  refine q_lconst (v := 1) dX10_disturb_3 rfl ?_
  refine q_ldc2 dX10_disturb_4 uw_1076 ?_
  refine q_callSv (ν := mX10_in) dX10_disturb_7 uw_997 vX10_in (c_X10_in hG S (((nI k : Int32).toInt64)) (1) (100)) rfl rfl (Nat.le_of_ble_eq_true rfl) (Nat.le_of_ble_eq_true rfl) (Nat.le_of_ble_eq_true rfl) 0 (Nat.le_of_ble_eq_true rfl) ?_
  refine wp_top (y := pI (1 ≤ (nI k) ∧ (nI k) ≤ 100)) (inI (l2 := 1) (u2 := 100) rfl rfl) ?_
  refine q_if_eq 17 dX10_disturb_10 rfl (fun c10 => ?_) (fun c10 => ?_)
  · exact absurd (rng_ok (lo := 1) (hi := 100) (by omega) (by omega) (by omega)) (pI_0 c10)
  · refine q_iconst (v := 0) dX10_disturb_13 rfl ?_
    refine q_goto 18 dX10_disturb_14 rfl ?_
    refine q_callVv (ν := mX10_refused) dX10_disturb_18 uw_1000 vX10_refused (c_X10_refused hG S (0)) (Nat.le_of_ble_eq_true rfl) rfl rfl rfl rfl (Nat.le_of_ble_eq_true rfl) (Nat.le_of_ble_eq_true rfl) (Nat.le_of_ble_eq_true rfl) 0 (Nat.le_of_ble_eq_true rfl) ?_
    refine wp_w (w2 := mixW g (s_RF S (0))) rfl ?_
    refine wp_top (y := 0) (pI_f (by decide)) ?_
    refine q_if_eq 26 dX10_disturb_21 rfl (fun c21 => ?_) (fun c21 => ?_)
    · refine q_aload_n dX10_disturb_26 rfl ?_
      refine q_get (j := 1) (v := .ref 27) dX10_disturb_27 (Nat.le_of_ble_eq_true rfl) rfl rfl iuX10 (Nat.le_of_ble_eq_true rfl) uw_925 rfl rfl ?_
      refine q_aload_n dX10_disturb_30 rfl ?_
      refine q_get (j := 2) (v := .ref 28) dX10_disturb_31 (Nat.le_of_ble_eq_true rfl) rfl rfl iuX10 (Nat.le_of_ble_eq_true rfl) uw_926 rfl rfl ?_
      refine q_callSu (ν := mX10_copy) dX10_disturb_34 uw_1042 vX10_copy (c_X10_copy_27_28 hG (s_RF S (0)) ) rfl rfl (Nat.le_of_ble_eq_true rfl) (Nat.le_of_ble_eq_true rfl) (Nat.le_of_ble_eq_true rfl) 0 (Nat.le_of_ble_eq_true rfl) ?_
      rw [sc_TR_RF]
      refine wp_w (w2 := mixW g (s_RF (s_TR S (va_cpy (z_NW S) (z_TR S) 0 0 44)) (0))) rfl ?_
      refine q_lload_n dX10_disturb_37 rfl ?_
      refine q_lst4 dX10_disturb_38 (Nat.le_of_ble_eq_true rfl) rfl ?_
      refine q_iconst (v := 0) dX10_disturb_40 rfl ?_
      refine q_ist6 dX10_disturb_41 (Nat.le_of_ble_eq_true rfl) rfl ?_
      exact l_X10_disturb hG (s_RF S 0) x k ft N tg h3 k 0 (s_RF (s_TR S (va_cpy (z_NW S) (z_TR S) 0 0 44)) (0)) x (by rw [show (s_RF (s_TR S (va_cpy (z_NW S) (z_TR S) 0 0 44)) (0)) = s_TR (s_RF S 0) (va_cpy (z_NW S) (z_TR S) 0 0 44) from (sc_TR_RF _ _ _).symm, cm_TR]) (tgtM_cpy h1) (by omega) (fun S2 hS2 => ⟨rfl, S2, rfl, hS2⟩)
    · first | exact absurd (by decide) c21 | exact absurd c21 (by decide)
set_option maxRecDepth 100000 in
set_option maxHeartbeats 4000000 in
theorem c_X10_disturb_x {g : G0} (hG : Gd g) (S : SS) (x : Int64) (y : Int32)  (h1 : ¬ (1 ≤ y ∧ y ≤ 100)) : ctv g mX10_disturb [.ref 26, .long x, .int y] (mixW g S) (.int (0)) (mixW g (s_RF S (1))) := by
  refine ct_of hG [some (.ref 26), some (.long (x)), none, some (.int (y)), none, none, none, none] rfl rfl rfl (Nat.le_of_ble_eq_true rfl) (fun h => ?_) rfl
  refine q_aload_n dX10_disturb_0 rfl ?_
  refine q_iload_n dX10_disturb_1 rfl ?_
  refine q_i2l dX10_disturb_2 ?_
  refine q_lconst (v := 1) dX10_disturb_3 rfl ?_
  refine q_ldc2 dX10_disturb_4 uw_1076 ?_
  refine q_callSv (ν := mX10_in) dX10_disturb_7 uw_997 vX10_in (c_X10_in hG S (((y : Int32).toInt64)) (1) (100)) rfl rfl (Nat.le_of_ble_eq_true rfl) (Nat.le_of_ble_eq_true rfl) (Nat.le_of_ble_eq_true rfl) 0 (Nat.le_of_ble_eq_true rfl) ?_
  refine wp_top (y := pI (1 ≤ y ∧ y ≤ 100)) (inI (l2 := 1) (u2 := 100) rfl rfl) ?_
  refine q_if_eq 17 dX10_disturb_10 rfl (fun c10 => ?_) (fun c10 => ?_)
  · refine q_iconst (v := 1) dX10_disturb_17 rfl ?_
    refine q_callVv (ν := mX10_refused) dX10_disturb_18 uw_1000 vX10_refused (c_X10_refused hG S (1)) (Nat.le_of_ble_eq_true rfl) rfl rfl rfl rfl (Nat.le_of_ble_eq_true rfl) (Nat.le_of_ble_eq_true rfl) (Nat.le_of_ble_eq_true rfl) 0 (Nat.le_of_ble_eq_true rfl) ?_
    refine wp_w (w2 := mixW g (s_RF S (1))) rfl ?_
    refine wp_top (y := 1) (pI_t (by decide)) ?_
    refine q_if_eq 26 dX10_disturb_21 rfl (fun c21 => ?_) (fun c21 => ?_)
    · first | exact absurd (by decide) c21 | exact absurd c21 (by decide)
    · refine q_iconst (v := 0) dX10_disturb_24 rfl ?_
      exact q_iret dX10_disturb_25 rfl ⟨rfl, rfl⟩
  · exact absurd (pI_1 c10) h1
