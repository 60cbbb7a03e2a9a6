def lifF (h r : Int32) : Int32 := (h.toInt64 * r.toInt64 / 100).toInt32
def mv0 (f ar : Nat → Int32) (d ft : Nat) : Nat → Int32 := upd (filF ar 0 10) ft (filF ar 0 10 ft + f (2 + d))
def mv1 (f a : Nat → Int32) (d c t0 t1 : Nat) : Nat → Int32 := upd (upd a t0 (a t0 + lifF (f (28 + 2 * c + d)) (f (4 + 2 * c + d)))) t1 (upd a t0 (a t0 + lifF (f (28 + 2 * c + d)) (f (4 + 2 * c + d))) t1 + (f (28 + 2 * c + d) - lifF (f (28 + 2 * c + d)) (f (4 + 2 * c + d))))
def mvA (f ar : Nat → Int32) (d ft : Nat) (tg : Nat → Nat) : Nat → Nat → Int32
  | 0 => mv0 f ar d ft
  | i + 1 => mv1 f (mvA f ar d ft tg i) d i (tg (2 * i)) (tg (2 * i + 1))
def mvH (f a : Nat → Int32) (d : Nat) : Nat → Nat → Int32
  | 0 => f
  | i + 1 => upd (mvH f a d i) (28 + 2 * i + d) (a i)
theorem mvH_lo (f a : Nat → Int32) (d : Nat) : ∀ (i j : Nat), j < 28 → mvH f a d i j = f j
  | 0, _, _ => rfl
  | i + 1, j, h => by simp only [mvH, upd]; rw [if_neg (by omega)]; exact mvH_lo f a d i j h
def mvC (f a : Nat → Int32) (d : Nat) : Nat → Int32 := upd (upd f (40 + 2 * (8 - 8) + d) (f (40 + 2 * (8 - 8) + d) + a 8)) (40 + 2 * (9 - 8) + d) (upd f (40 + 2 * (8 - 8) + d) (f (40 + 2 * (8 - 8) + d) + a 8) (40 + 2 * (9 - 8) + d) + a 9)
/-- one component's step of the class: the row, the arriving amounts -/
def mvF (f ar : Nat → Int32) (d ft n : Nat) (tg : Nat → Nat) : Nat → Int32 := mvC (mvH f (mvA f ar d ft tg n) d n) (mvA f ar d ft tg n) d
/-- the targets of a row, as numbers -/
def tgts (f : Nat → Int32) (n ft : Nat) (tg : Nat → Nat) : Prop := f 0 = nI n ∧ n ≤ 6 ∧ presF (f 0) (f 1) = nI ft ∧ ft < 10 ∧ ∀ k, k < 2 * n → presF (f 0) (f (16 + k)) = nI (tg k) ∧ tg k < 10
set_option maxRecDepth 100000 in
set_option maxHeartbeats 4000000 in
theorem l_X6_A_3 {g : G0} {h : G1} (hG : Gd g) (S : SS) {Q : State → Prop} (d ft N : Nat) (tg : Nat → Nat) (hd : d < 2) (ht : tgts (z_SV S) N ft tg) (k : wp g h mX6_moveComponent (mixW g (s_AR S (mvA (z_SV S) (z_AR S) d ft tg N))) [some (.ref 13), some (.ref 3), some (.int (nI d)), some (.int (nI N)), none, none] [] 0 Q 102) : ∀ (n i : Nat), i + n = N → wp g h mX6_moveComponent (mixW g (s_AR S (mvA (z_SV S) (z_AR S) d ft tg i))) [some (.ref 13), some (.ref 3), some (.int (nI d)), some (.int (nI i)), none, none] [] 0 Q 27 := by
  intro n
  induction n with
  | zero =>
    intro i hq1
    obtain ⟨t1, t2, t3, t4, t5⟩ := ht
    obtain rfl : N = i := by omega
    refine q_iload_n dX6_moveComponent_27 rfl ?_
    refine q_aload_n dX6_moveComponent_28 rfl ?_
    refine q_callVv (ν := mX7_count) dX6_moveComponent_29 uw_729 vX7_count (c_X7_count_3 hG (s_AR S (mvA (z_SV S) (z_AR S) d ft tg N)) ) (Nat.le_of_ble_eq_true rfl) rfl rfl rfl rfl (Nat.le_of_ble_eq_true rfl) (Nat.le_of_ble_eq_true rfl) (Nat.le_of_ble_eq_true rfl) 0 (Nat.le_of_ble_eq_true rfl) ?_
    refine wp_eq (st2 := .int (((z_SV S) 0)) :: _) rfl ?_
    refine wp_top (y := nI N) t1 ?_
    refine q_icmp_ge 102 dX6_moveComponent_32 rfl (fun c32 => ?_) (fun c32 => ?_)
    · have n32 := (nI_leI (a := N) (b := N) (by omega) (by omega)).mp c32
      exact k
    · have n32 := mt (nI_leI (a := N) (b := N) (by omega) (by omega)).mpr c32
      omega
  | succ n ih =>
    intro i hq1
    obtain ⟨t1, t2, t3, t4, t5⟩ := ht
    refine q_iload_n dX6_moveComponent_27 rfl ?_
    refine q_aload_n dX6_moveComponent_28 rfl ?_
    refine q_callVv (ν := mX7_count) dX6_moveComponent_29 uw_729 vX7_count (c_X7_count_3 hG (s_AR S (mvA (z_SV S) (z_AR S) d ft tg i)) ) (Nat.le_of_ble_eq_true rfl) rfl rfl rfl rfl (Nat.le_of_ble_eq_true rfl) (Nat.le_of_ble_eq_true rfl) (Nat.le_of_ble_eq_true rfl) 0 (Nat.le_of_ble_eq_true rfl) ?_
    refine wp_eq (st2 := .int (((z_SV S) 0)) :: _) rfl ?_
    refine wp_top (y := nI N) t1 ?_
    refine q_icmp_ge 102 dX6_moveComponent_32 rfl (fun c32 => ?_) (fun c32 => ?_)
    · have n32 := (nI_leI (a := N) (b := i) (by omega) (by omega)).mp c32
      omega
    · have n32 := mt (nI_leI (a := N) (b := i) (by omega) (by omega)).mpr c32
      refine q_aload_n dX6_moveComponent_35 rfl ?_
      refine q_iload_n dX6_moveComponent_36 rfl ?_
      refine q_iload_n dX6_moveComponent_37 rfl ?_
      refine q_callVv (ν := mX7_held) dX6_moveComponent_38 uw_730 vX7_held (c_X7_held_3 hG (s_AR S (mvA (z_SV S) (z_AR S) d ft tg i)) (i) (d) (by omega)) (Nat.le_of_ble_eq_true rfl) rfl rfl rfl rfl (Nat.le_of_ble_eq_true rfl) (Nat.le_of_ble_eq_true rfl) (Nat.le_of_ble_eq_true rfl) 0 (Nat.le_of_ble_eq_true rfl) ?_
      refine wp_eq (st2 := .int (((z_SV S) (28 + 2 * i + d))) :: _) rfl ?_
      refine q_ist4 dX6_moveComponent_41 (Nat.le_of_ble_eq_true rfl) rfl ?_
      refine q_iload dX6_moveComponent_43 rfl ?_
      refine q_i2l dX6_moveComponent_45 ?_
      refine q_aload_n dX6_moveComponent_46 rfl ?_
      refine q_iload_n dX6_moveComponent_47 rfl ?_
      refine q_iload_n dX6_moveComponent_48 rfl ?_
      refine q_callVv (ν := mX7_percent) dX6_moveComponent_49 uw_731 vX7_percent (c_X7_percent_3 hG (s_AR S (mvA (z_SV S) (z_AR S) d ft tg i)) (i) (d) (by omega)) (Nat.le_of_ble_eq_true rfl) rfl rfl rfl rfl (Nat.le_of_ble_eq_true rfl) (Nat.le_of_ble_eq_true rfl) (Nat.le_of_ble_eq_true rfl) 0 (Nat.le_of_ble_eq_true rfl) ?_
      refine wp_eq (st2 := .int (((z_SV S) (4 + 2 * i + d))) :: _) rfl ?_
      refine q_i2l dX6_moveComponent_52 ?_
      refine q_lmul dX6_moveComponent_53 ?_
      refine q_ldc2 dX6_moveComponent_54 uw_732 ?_
      refine q_ldiv dX6_moveComponent_57 (by decide) ?_
      refine q_l2i dX6_moveComponent_58 ?_
      refine wp_top (y := lifF (z_SV S (28 + 2 * i + d)) (z_SV S (4 + 2 * i + d))) rfl ?_
      refine q_ist5 dX6_moveComponent_59 (Nat.le_of_ble_eq_true rfl) rfl ?_
      refine q_aload_n dX6_moveComponent_61 rfl ?_
      refine q_get (j := 0) (v := .ref 14) dX6_moveComponent_62 (Nat.le_of_ble_eq_true rfl) rfl rfl iuX6 (Nat.le_of_ble_eq_true rfl) uw_133 rfl rfl ?_
      refine q_aload_n dX6_moveComponent_65 rfl ?_
      refine q_iload_n dX6_moveComponent_66 rfl ?_
      refine q_iconst (v := 0) dX6_moveComponent_67 rfl ?_
      refine q_callVv (ν := mX7_target) dX6_moveComponent_68 uw_733 vX7_target (c_X7_target_3 hG (s_AR S (mvA (z_SV S) (z_AR S) d ft tg i)) (i) (0) (by omega)) (Nat.le_of_ble_eq_true rfl) rfl rfl rfl rfl (Nat.le_of_ble_eq_true rfl) (Nat.le_of_ble_eq_true rfl) (Nat.le_of_ble_eq_true rfl) 0 (Nat.le_of_ble_eq_true rfl) ?_
      refine wp_eq (st2 := .int ((presF ((z_SV S) 0) ((z_SV S) (16 + 2 * i + 0)))) :: _) rfl ?_
      refine wp_top (y := nI (tg (2 * i))) (t5 (2 * i) (by omega)).1 ?_
      have ta := (t5 (2 * i) (by omega)).2
      refine q_dup2_11 dX6_moveComponent_71 rfl rfl ?_
      refine q_iald (f := (mvA (z_SV S) (z_AR S) d ft tg i)) dX6_moveComponent_72 (Nat.le_of_ble_eq_true rfl) rfl ((tg (2 * i))) (by simp only [fa_lit, pk_mul, nI_add]) (by omega) (Nat.le_of_ble_eq_true rfl) ?_
      refine q_iload dX6_moveComponent_73 rfl ?_
      refine q_iadd dX6_moveComponent_75 ?_
      refine q_iast (f := (mvA (z_SV S) (z_AR S) d ft tg i)) dX6_moveComponent_76 (Nat.le_of_ble_eq_true rfl) rfl ((tg (2 * i))) (by simp only [fa_lit, pk_mul, nI_add]) (by omega) (Nat.le_of_ble_eq_true rfl) ?_
      refine wp_w (u_AR g _ _) ?_
      rw [ss_AR]
      refine q_aload_n dX6_moveComponent_77 rfl ?_
      refine q_get (j := 0) (v := .ref 14) dX6_moveComponent_78 (Nat.le_of_ble_eq_true rfl) rfl rfl iuX6 (Nat.le_of_ble_eq_true rfl) uw_133 rfl rfl ?_
      refine q_aload_n dX6_moveComponent_81 rfl ?_
      refine q_iload_n dX6_moveComponent_82 rfl ?_
      refine q_iconst (v := 1) dX6_moveComponent_83 rfl ?_
      refine q_callVv (ν := mX7_target) dX6_moveComponent_84 uw_733 vX7_target (c_X7_target_3 hG (s_AR S (upd (mvA (z_SV S) (z_AR S) d ft tg i) ((tg (2 * i))) ((((mvA (z_SV S) (z_AR S) d ft tg i) ((tg (2 * i)))) + lifF (z_SV S (28 + 2 * i + d)) (z_SV S (4 + 2 * i + d)))))) (i) (1) (by omega)) (Nat.le_of_ble_eq_true rfl) rfl rfl rfl rfl (Nat.le_of_ble_eq_true rfl) (Nat.le_of_ble_eq_true rfl) (Nat.le_of_ble_eq_true rfl) 0 (Nat.le_of_ble_eq_true rfl) ?_
      refine wp_eq (st2 := .int ((presF ((z_SV S) 0) ((z_SV S) (16 + 2 * i + 1)))) :: _) rfl ?_
      refine wp_top (y := nI (tg (2 * i + 1))) (t5 (2 * i + 1) (by omega)).1 ?_
      have tb := (t5 (2 * i + 1) (by omega)).2
      refine q_dup2_11 dX6_moveComponent_87 rfl rfl ?_
      refine q_iald (f := (upd (mvA (z_SV S) (z_AR S) d ft tg i) ((tg (2 * i))) ((((mvA (z_SV S) (z_AR S) d ft tg i) ((tg (2 * i)))) + lifF (z_SV S (28 + 2 * i + d)) (z_SV S (4 + 2 * i + d)))))) dX6_moveComponent_88 (Nat.le_of_ble_eq_true rfl) rfl ((tg (2 * i + 1))) (by simp only [fa_lit, pk_mul, nI_add]) (by omega) (Nat.le_of_ble_eq_true rfl) ?_
      refine q_iload dX6_moveComponent_89 rfl ?_
      refine q_iload dX6_moveComponent_91 rfl ?_
      refine q_isub dX6_moveComponent_93 ?_
      refine q_iadd dX6_moveComponent_94 ?_
      refine q_iast (f := (upd (mvA (z_SV S) (z_AR S) d ft tg i) ((tg (2 * i))) ((((mvA (z_SV S) (z_AR S) d ft tg i) ((tg (2 * i)))) + lifF (z_SV S (28 + 2 * i + d)) (z_SV S (4 + 2 * i + d)))))) dX6_moveComponent_95 (Nat.le_of_ble_eq_true rfl) rfl ((tg (2 * i + 1))) (by simp only [fa_lit, pk_mul, nI_add]) (by omega) (Nat.le_of_ble_eq_true rfl) ?_
      refine wp_w (u_AR g _ _) ?_
      rw [ss_AR]
      refine q_iinc3 (k9 := 1) dX6_moveComponent_96 rfl (Nat.le_of_ble_eq_true rfl) rfl ?_
      refine wp_L (L2 := [some (.ref 13), some (.ref 3), some (.int (nI d)), some (.int (nI (i + 1))), some (.int (((z_SV S) (28 + 2 * i + d)))), some (.int (lifF (z_SV S (28 + 2 * i + d)) (z_SV S (4 + 2 * i + d))))]) (by rw [show nI i + 1 = nI (i + 1) from nI_1 _]) ?_
      refine q_goto 27 dX6_moveComponent_99 rfl ?_
      refine wp_fg (L2 := [some (.ref 13), some (.ref 3), some (.int (nI d)), some (.int (nI (i + 1))), none, none]) ⟨rfl, rfl, rfl, rfl, trivial⟩ ?_
      refine wp_w (w2 := mixW g (s_AR S (mvA (z_SV S) (z_AR S) d ft tg (i + 1)))) rfl ?_
      exact ih (i + 1) (by omega)
set_option maxRecDepth 100000 in
set_option maxHeartbeats 4000000 in
theorem l_X6_H_3 {g : G0} {h : G1} (hG : Gd g) (S : SS) {Q : State → Prop} (d N : Nat) (hd : d < 2) (t1 : z_SV S 0 = nI N) (t2 : N ≤ 6) (k : wp g h mX6_moveComponent (mixW g (s_SV S (mvH (z_SV S) (z_AR S) d N))) [some (.ref 13), some (.ref 3), some (.int (nI d)), some (.int (nI N)), none, none] [] 0 Q 130) : ∀ (n i : Nat), i + n = N → wp g h mX6_moveComponent (mixW g (s_SV S (mvH (z_SV S) (z_AR S) d i))) [some (.ref 13), some (.ref 3), some (.int (nI d)), some (.int (nI i)), none, none] [] 0 Q 104 := by
  intro n
  induction n with
  | zero =>
    intro i hq1
    obtain rfl : N = i := by omega
    refine q_iload_n dX6_moveComponent_104 rfl ?_
    refine q_aload_n dX6_moveComponent_105 rfl ?_
    refine q_callVv (ν := mX7_count) dX6_moveComponent_106 uw_729 vX7_count (c_X7_count_3 hG (s_SV S (mvH (z_SV S) (z_AR S) d N)) ) (Nat.le_of_ble_eq_true rfl) rfl rfl rfl rfl (Nat.le_of_ble_eq_true rfl) (Nat.le_of_ble_eq_true rfl) (Nat.le_of_ble_eq_true rfl) 0 (Nat.le_of_ble_eq_true rfl) ?_
    refine wp_eq (st2 := .int (((mvH (z_SV S) (z_AR S) d N) 0)) :: _) rfl ?_
    refine wp_top (y := nI N) ((mvH_lo _ _ _ _ 0 (by omega)).trans t1) ?_
    refine q_icmp_ge 130 dX6_moveComponent_109 rfl (fun c109 => ?_) (fun c109 => ?_)
    · have n109 := (nI_leI (a := N) (b := N) (by omega) (by omega)).mp c109
      exact k
    · have n109 := mt (nI_leI (a := N) (b := N) (by omega) (by omega)).mpr c109
      omega
  | succ n ih =>
    intro i hq1
    refine q_iload_n dX6_moveComponent_104 rfl ?_
    refine q_aload_n dX6_moveComponent_105 rfl ?_
    refine q_callVv (ν := mX7_count) dX6_moveComponent_106 uw_729 vX7_count (c_X7_count_3 hG (s_SV S (mvH (z_SV S) (z_AR S) d i)) ) (Nat.le_of_ble_eq_true rfl) rfl rfl rfl rfl (Nat.le_of_ble_eq_true rfl) (Nat.le_of_ble_eq_true rfl) (Nat.le_of_ble_eq_true rfl) 0 (Nat.le_of_ble_eq_true rfl) ?_
    refine wp_eq (st2 := .int (((mvH (z_SV S) (z_AR S) d i) 0)) :: _) rfl ?_
    refine wp_top (y := nI N) ((mvH_lo _ _ _ _ 0 (by omega)).trans t1) ?_
    refine q_icmp_ge 130 dX6_moveComponent_109 rfl (fun c109 => ?_) (fun c109 => ?_)
    · have n109 := (nI_leI (a := N) (b := i) (by omega) (by omega)).mp c109
      omega
    · have n109 := mt (nI_leI (a := N) (b := i) (by omega) (by omega)).mpr c109
      refine q_aload_n dX6_moveComponent_112 rfl ?_
      refine q_iload_n dX6_moveComponent_113 rfl ?_
      refine q_iload_n dX6_moveComponent_114 rfl ?_
      refine q_aload_n dX6_moveComponent_115 rfl ?_
      refine q_get (j := 0) (v := .ref 14) dX6_moveComponent_116 (Nat.le_of_ble_eq_true rfl) rfl rfl iuX6 (Nat.le_of_ble_eq_true rfl) uw_133 rfl rfl ?_
      refine q_iload_n dX6_moveComponent_119 rfl ?_
      refine q_iald (f := (z_AR S)) dX6_moveComponent_120 (Nat.le_of_ble_eq_true rfl) rfl (i) rfl (by omega) (Nat.le_of_ble_eq_true rfl) ?_
      refine q_callVu (ν := mX7_putHeld) dX6_moveComponent_121 uw_734 vX7_putHeld (c_X7_putHeld_3 hG (s_SV S (mvH (z_SV S) (z_AR S) d i)) (i) (d) ((((z_AR S) (i)))) (by omega)) (Nat.le_of_ble_eq_true rfl) rfl rfl rfl rfl (Nat.le_of_ble_eq_true rfl) (Nat.le_of_ble_eq_true rfl) (Nat.le_of_ble_eq_true rfl) 0 (Nat.le_of_ble_eq_true rfl) ?_
      rw [ss_SV]
      refine wp_w (w2 := mixW g (s_SV S (upd (mvH (z_SV S) (z_AR S) d i) (28 + 2 * i + d) (((z_AR S) (i)))))) rfl ?_
      refine q_iinc3 (k9 := 1) dX6_moveComponent_124 rfl (Nat.le_of_ble_eq_true rfl) rfl ?_
      refine wp_L (L2 := [some (.ref 13), some (.ref 3), some (.int (nI d)), some (.int (nI (i + 1))), none, none]) (by rw [show nI i + 1 = nI (i + 1) from nI_1 _]) ?_
      refine q_goto 104 dX6_moveComponent_127 rfl ?_
      refine wp_w (w2 := mixW g (s_SV S (mvH (z_SV S) (z_AR S) d (i + 1)))) rfl ?_
      exact ih (i + 1) (by omega)
set_option maxRecDepth 100000 in
set_option maxHeartbeats 4000000 in
theorem c_X6_move_3 {g : G0} (hG : Gd g) (S : SS) (d : Nat) (ft : Nat) (N : Nat) (tg : Nat → Nat) (h1 : d < 2) (h2 : tgts (z_SV S) N ft tg) : ctu g mX6_moveComponent [.ref 13, .ref 3, .int (nI d)] (mixW g S) (mixW g (s_SV (s_AR S (mvA (z_SV S) (z_AR S) d ft tg N)) (mvF (z_SV S) (z_AR S) d ft N tg))) := by
  refine ct_of hG [some (.ref 13), some (.ref 3), some (.int (nI d)), none, none, none] rfl rfl rfl (Nat.le_of_ble_eq_true rfl) (fun h => ?_) rfl
  refine q_aload_n dX6_moveComponent_0 rfl ?_
  refine q_get (j := 0) (v := .ref 14) dX6_moveComponent_1 (Nat.le_of_ble_eq_true rfl) rfl rfl iuX6 (Nat.le_of_ble_eq_true rfl) uw_133 rfl rfl ?_
  refine q_iconst (v := 0) dX6_moveComponent_4 rfl ?_
  refine q_callSu (ν := mJ7_fill_53178) dX6_moveComponent_5 uw_726 vJ7_fill_53178 (c_fill_14 hG S (0)) rfl rfl (Nat.le_of_ble_eq_true rfl) (Nat.le_of_ble_eq_true rfl) (Nat.le_of_ble_eq_true rfl) 0 (Nat.le_of_ble_eq_true rfl) ?_
  refine wp_w (w2 := mixW g (s_AR S (filF (z_AR S) 0 10))) rfl ?_
  refine q_aload_n dX6_moveComponent_8 rfl ?_
  refine q_get (j := 0) (v := .ref 14) dX6_moveComponent_9 (Nat.le_of_ble_eq_true rfl) rfl rfl iuX6 (Nat.le_of_ble_eq_true rfl) uw_133 rfl rfl ?_
  refine q_aload_n dX6_moveComponent_12 rfl ?_
  refine q_callVv (ν := mX7_feedTarget) dX6_moveComponent_13 uw_727 vX7_feedTarget (c_X7_feedTarget_3 hG (s_AR S (filF (z_AR S) 0 10)) ) (Nat.le_of_ble_eq_true rfl) rfl rfl rfl rfl (Nat.le_of_ble_eq_true rfl) (Nat.le_of_ble_eq_true rfl) (Nat.le_of_ble_eq_true rfl) 0 (Nat.le_of_ble_eq_true rfl) ?_
  refine wp_eq (st2 := .int ((presF ((z_SV S) 0) ((z_SV S) 1))) :: _) rfl ?_
  refine wp_top (y := nI ft) h2.2.2.1 ?_
  have hft := h2.2.2.2.1
  have hN6 := h2.2.1
  refine q_dup2_11 dX6_moveComponent_16 rfl rfl ?_
  refine q_iald (f := (filF (z_AR S) 0 10)) dX6_moveComponent_17 (Nat.le_of_ble_eq_true rfl) rfl (ft) rfl (by omega) (Nat.le_of_ble_eq_true rfl) ?_
  refine q_aload_n dX6_moveComponent_18 rfl ?_
  refine q_iload_n dX6_moveComponent_19 rfl ?_
  refine q_callVv (ν := mX7_feed) dX6_moveComponent_20 uw_728 vX7_feed (c_X7_feed_3 hG (s_AR S (filF (z_AR S) 0 10)) (d) (by omega)) (Nat.le_of_ble_eq_true rfl) rfl rfl rfl rfl (Nat.le_of_ble_eq_true rfl) (Nat.le_of_ble_eq_true rfl) (Nat.le_of_ble_eq_true rfl) 0 (Nat.le_of_ble_eq_true rfl) ?_
  refine wp_eq (st2 := .int (((z_SV S) (2 + d))) :: _) rfl ?_
  refine q_iadd dX6_moveComponent_23 ?_
  refine q_iast (f := (filF (z_AR S) 0 10)) dX6_moveComponent_24 (Nat.le_of_ble_eq_true rfl) rfl (ft) rfl (by omega) (Nat.le_of_ble_eq_true rfl) ?_
  refine wp_w (u_AR g _ _) ?_
  rw [ss_AR]
  refine q_iconst (v := 0) dX6_moveComponent_25 rfl ?_
  refine q_ist3 dX6_moveComponent_26 (Nat.le_of_ble_eq_true rfl) rfl ?_
  refine wp_w (w2 := mixW g (s_AR S (mvA (z_SV S) (z_AR S) d ft tg 0))) rfl ?_
  refine l_X6_A_3 hG S d ft N tg h1 h2 ?_ N 0 (by omega)
  refine q_iconst (v := 0) dX6_moveComponent_102 rfl ?_
  refine q_ist3 dX6_moveComponent_103 (Nat.le_of_ble_eq_true rfl) rfl ?_
  refine wp_w (w2 := mixW g (s_SV (s_AR S (mvA (z_SV S) (z_AR S) d ft tg N)) (mvH (z_SV (s_AR S (mvA (z_SV S) (z_AR S) d ft tg N))) (z_AR (s_AR S (mvA (z_SV S) (z_AR S) d ft tg N))) d 0))) (by rw [show mvH (z_SV (s_AR S (mvA (z_SV S) (z_AR S) d ft tg N))) (z_AR (s_AR S (mvA (z_SV S) (z_AR S) d ft tg N))) d 0 = z_SV (s_AR S (mvA (z_SV S) (z_AR S) d ft tg N)) from rfl, se_SV]) ?_
  refine l_X6_H_3 hG (s_AR S (mvA (z_SV S) (z_AR S) d ft tg N)) d N h1 h2.1 h2.2.1 ?_ N 0 (by omega)
  refine wp_w (w2 := mixW g (s_SV (s_AR S (mvA (z_SV S) (z_AR S) d ft tg N)) (mvH (z_SV S) (mvA (z_SV S) (z_AR S) d ft tg N) d N))) rfl ?_
  refine q_aload_n dX6_moveComponent_130 rfl ?_
  refine q_bipush (v := 8) dX6_moveComponent_131 rfl ?_
  refine q_iload_n dX6_moveComponent_133 rfl ?_
  refine q_aload_n dX6_moveComponent_134 rfl ?_
  refine q_get (j := 0) (v := .ref 14) dX6_moveComponent_135 (Nat.le_of_ble_eq_true rfl) rfl rfl iuX6 (Nat.le_of_ble_eq_true rfl) uw_133 rfl rfl ?_
  refine q_bipush (v := 8) dX6_moveComponent_138 rfl ?_
  refine q_iald (f := (mvA (z_SV S) (z_AR S) d ft tg N)) dX6_moveComponent_140 (Nat.le_of_ble_eq_true rfl) rfl (8) rfl (Nat.le_of_ble_eq_true rfl) (Nat.le_of_ble_eq_true rfl) ?_
  refine q_callVu (ν := mX7_collect) dX6_moveComponent_141 uw_735 vX7_collect (c_X7_collect_3 hG (s_SV (s_AR S (mvA (z_SV S) (z_AR S) d ft tg N)) (mvH (z_SV S) (mvA (z_SV S) (z_AR S) d ft tg N) d N)) (8) (d) ((((mvA (z_SV S) (z_AR S) d ft tg N) (8)))) (by omega) (by omega) (by omega)) (Nat.le_of_ble_eq_true rfl) rfl rfl rfl rfl (Nat.le_of_ble_eq_true rfl) (Nat.le_of_ble_eq_true rfl) (Nat.le_of_ble_eq_true rfl) 0 (Nat.le_of_ble_eq_true rfl) ?_
  rw [ss_SV]
  refine wp_w (w2 := mixW g (s_SV (s_AR S (mvA (z_SV S) (z_AR S) d ft tg N)) (upd (mvH (z_SV S) (mvA (z_SV S) (z_AR S) d ft tg N) d N) (40 + 2 * (8 - 8) + d) ((mvH (z_SV S) (mvA (z_SV S) (z_AR S) d ft tg N) d N) (40 + 2 * (8 - 8) + d) + (((mvA (z_SV S) (z_AR S) d ft tg N) (8))))))) rfl ?_
  refine q_aload_n dX6_moveComponent_144 rfl ?_
  refine q_bipush (v := 9) dX6_moveComponent_145 rfl ?_
  refine q_iload_n dX6_moveComponent_147 rfl ?_
  refine q_aload_n dX6_moveComponent_148 rfl ?_
  refine q_get (j := 0) (v := .ref 14) dX6_moveComponent_149 (Nat.le_of_ble_eq_true rfl) rfl rfl iuX6 (Nat.le_of_ble_eq_true rfl) uw_133 rfl rfl ?_
  refine q_bipush (v := 9) dX6_moveComponent_152 rfl ?_
  refine q_iald (f := (mvA (z_SV S) (z_AR S) d ft tg N)) dX6_moveComponent_154 (Nat.le_of_ble_eq_true rfl) rfl (9) rfl (Nat.le_of_ble_eq_true rfl) (Nat.le_of_ble_eq_true rfl) ?_
  refine q_callVu (ν := mX7_collect) dX6_moveComponent_155 uw_735 vX7_collect (c_X7_collect_3 hG (s_SV (s_AR S (mvA (z_SV S) (z_AR S) d ft tg N)) (upd (mvH (z_SV S) (mvA (z_SV S) (z_AR S) d ft tg N) d N) (40 + 2 * (8 - 8) + d) ((mvH (z_SV S) (mvA (z_SV S) (z_AR S) d ft tg N) d N) (40 + 2 * (8 - 8) + d) + (((mvA (z_SV S) (z_AR S) d ft tg N) (8)))))) (9) (d) ((((mvA (z_SV S) (z_AR S) d ft tg N) (9)))) (by omega) (by omega) (by omega)) (Nat.le_of_ble_eq_true rfl) rfl rfl rfl rfl (Nat.le_of_ble_eq_true rfl) (Nat.le_of_ble_eq_true rfl) (Nat.le_of_ble_eq_true rfl) 0 (Nat.le_of_ble_eq_true rfl) ?_
  rw [ss_SV]
  refine wp_w (w2 := mixW g (s_SV (s_AR S (mvA (z_SV S) (z_AR S) d ft tg N)) (upd (upd (mvH (z_SV S) (mvA (z_SV S) (z_AR S) d ft tg N) d N) (40 + 2 * (8 - 8) + d) ((mvH (z_SV S) (mvA (z_SV S) (z_AR S) d ft tg N) d N) (40 + 2 * (8 - 8) + d) + (((mvA (z_SV S) (z_AR S) d ft tg N) (8))))) (40 + 2 * (9 - 8) + d) ((upd (mvH (z_SV S) (mvA (z_SV S) (z_AR S) d ft tg N) d N) (40 + 2 * (8 - 8) + d) ((mvH (z_SV S) (mvA (z_SV S) (z_AR S) d ft tg N) d N) (40 + 2 * (8 - 8) + d) + (((mvA (z_SV S) (z_AR S) d ft tg N) (8))))) (40 + 2 * (9 - 8) + d) + (((mvA (z_SV S) (z_AR S) d ft tg N) (9))))))) rfl ?_
  exact q_vret dX6_moveComponent_158 rfl ⟨rfl, rfl⟩
theorem mvF_lo (f ar : Nat → Int32) (d ft n : Nat) (tg : Nat → Nat) (j : Nat) (h : j < 28) : mvF f ar d ft n tg j = f j := by
  simp only [mvF, mvC, upd]
  rw [if_neg (by omega), if_neg (by omega)]
  exact mvH_lo _ _ _ _ _ h
theorem tgts_mv {f ar : Nat → Int32} {d ft n : Nat} {tg : Nat → Nat} (h : tgts f n ft tg) : tgts (mvF f ar d ft n tg) n ft tg := by
  obtain ⟨t1, t2, t3, t4, t5⟩ := h
  have e : ∀ j, j < 28 → mvF f ar d ft n tg j = f j := fun j hj => mvF_lo f ar d ft n tg j hj
  refine ⟨by rw [e 0 (by omega)]; exact t1, t2, by rw [e 0 (by omega), e 1 (by omega)]; exact t3, t4, fun k hk => ?_⟩
  rw [e 0 (by omega), e (16 + k) (by omega)]
  exact t5 k hk
set_option maxRecDepth 100000 in
set_option maxHeartbeats 4000000 in
theorem c_X6_advance_3 {g : G0} (hG : Gd g) (S : SS)  (ft : Nat) (N : Nat) (tg : Nat → Nat) (h1 : tgts (z_SV S) N ft tg) : ctu g mX6_advance [.ref 13, .ref 3] (mixW g S) (mixW g (s_SV (s_AR S (mvA (mvF (z_SV S) (z_AR S) 0 ft N tg) (mvA (z_SV S) (z_AR S) 0 ft tg N) 1 ft tg N)) (mvF (mvF (z_SV S) (z_AR S) 0 ft N tg) (mvA (z_SV S) (z_AR S) 0 ft tg N) 1 ft N tg))) := by
  refine ct_of hG [some (.ref 13), some (.ref 3)] rfl rfl rfl (Nat.le_of_ble_eq_true rfl) (fun h => ?_) rfl
  refine q_aload_n dX6_advance_0 rfl ?_
  refine q_aload_n dX6_advance_1 rfl ?_
  refine q_iconst (v := 0) dX6_advance_2 rfl ?_
  refine q_callVu (ν := mX6_moveComponent) dX6_advance_3 uw_722 vX6_moveComponent (c_X6_move_3 hG S (0) (ft) (N) (tg) (by omega) h1) (Nat.le_of_ble_eq_true rfl) rfl rfl rfl rfl (Nat.le_of_ble_eq_true rfl) (Nat.le_of_ble_eq_true rfl) (Nat.le_of_ble_eq_true rfl) 0 (Nat.le_of_ble_eq_true rfl) ?_
  refine wp_w (w2 := mixW g (s_SV (s_AR S (mvA (z_SV S) (z_AR S) 0 ft tg N)) (mvF (z_SV S) (z_AR S) 0 ft N tg))) rfl ?_
  refine q_aload_n dX6_advance_6 rfl ?_
  refine q_aload_n dX6_advance_7 rfl ?_
  refine q_iconst (v := 1) dX6_advance_8 rfl ?_
  refine q_callVu (ν := mX6_moveComponent) dX6_advance_9 uw_722 vX6_moveComponent (c_X6_move_3 hG (s_SV (s_AR S (mvA (z_SV S) (z_AR S) 0 ft tg N)) (mvF (z_SV S) (z_AR S) 0 ft N tg)) (1) (ft) (N) (tg) (by omega) (tgts_mv h1)) (Nat.le_of_ble_eq_true rfl) rfl rfl rfl rfl (Nat.le_of_ble_eq_true rfl) (Nat.le_of_ble_eq_true rfl) (Nat.le_of_ble_eq_true rfl) 0 (Nat.le_of_ble_eq_true rfl) ?_
  rw [sc_AR_SV, ss_AR, ss_SV]
  refine wp_w (w2 := mixW g (s_SV (s_AR S (mvA (mvF (z_SV S) (z_AR S) 0 ft N tg) (mvA (z_SV S) (z_AR S) 0 ft tg N) 1 ft tg N)) (mvF (mvF (z_SV S) (z_AR S) 0 ft N tg) (mvA (z_SV S) (z_AR S) 0 ft tg N) 1 ft N tg))) rfl ?_
  exact q_vret dX6_advance_12 rfl ⟨rfl, rfl⟩
set_option maxRecDepth 100000 in
set_option maxHeartbeats 4000000 in
theorem l_X6_A_5 {g : G0} {h : G1} (hG : Gd g) (S : SS) {Q : State → Prop} (d ft N : Nat) (tg : Nat → Nat) (hd : d < 2) (ht : tgts (z_TV S) N ft tg) (k : wp g h mX6_moveComponent (mixW g (s_AR S (mvA (z_TV S) (z_AR S) d ft tg N))) [some (.ref 13), some (.ref 5), some (.int (nI d)), some (.int (nI N)), none, none] [] 0 Q 102) : ∀ (n i : Nat), i + n = N → wp g h mX6_moveComponent (mixW g (s_AR S (mvA (z_TV S) (z_AR S) d ft tg i))) [some (.ref 13), some (.ref 5), some (.int (nI d)), some (.int (nI i)), none, none] [] 0 Q 27 := by
  intro n
  induction n with
  | zero =>
    intro i hq1
    obtain ⟨t1, t2, t3, t4, t5⟩ := ht
    obtain rfl : N = i := by omega
    refine q_iload_n dX6_moveComponent_27 rfl ?_
    refine q_aload_n dX6_moveComponent_28 rfl ?_
    refine q_callVv (ν := mX7_count) dX6_moveComponent_29 uw_729 vX7_count (c_X7_count_5 hG (s_AR S (mvA (z_TV S) (z_AR S) d ft tg N)) ) (Nat.le_of_ble_eq_true rfl) rfl rfl rfl rfl (Nat.le_of_ble_eq_true rfl) (Nat.le_of_ble_eq_true rfl) (Nat.le_of_ble_eq_true rfl) 0 (Nat.le_of_ble_eq_true rfl) ?_
    refine wp_eq (st2 := .int (((z_TV S) 0)) :: _) rfl ?_
    refine wp_top (y := nI N) t1 ?_
    refine q_icmp_ge 102 dX6_moveComponent_32 rfl (fun c32 => ?_) (fun c32 => ?_)
    · have n32 := (nI_leI (a := N) (b := N) (by omega) (by omega)).mp c32
      exact k
    · have n32 := mt (nI_leI (a := N) (b := N) (by omega) (by omega)).mpr c32
      omega
  | succ n ih =>
    intro i hq1
    obtain ⟨t1, t2, t3, t4, t5⟩ := ht
    refine q_iload_n dX6_moveComponent_27 rfl ?_
    refine q_aload_n dX6_moveComponent_28 rfl ?_
    refine q_callVv (ν := mX7_count) dX6_moveComponent_29 uw_729 vX7_count (c_X7_count_5 hG (s_AR S (mvA (z_TV S) (z_AR S) d ft tg i)) ) (Nat.le_of_ble_eq_true rfl) rfl rfl rfl rfl (Nat.le_of_ble_eq_true rfl) (Nat.le_of_ble_eq_true rfl) (Nat.le_of_ble_eq_true rfl) 0 (Nat.le_of_ble_eq_true rfl) ?_
    refine wp_eq (st2 := .int (((z_TV S) 0)) :: _) rfl ?_
    refine wp_top (y := nI N) t1 ?_
    refine q_icmp_ge 102 dX6_moveComponent_32 rfl (fun c32 => ?_) (fun c32 => ?_)
    · have n32 := (nI_leI (a := N) (b := i) (by omega) (by omega)).mp c32
      omega
    · have n32 := mt (nI_leI (a := N) (b := i) (by omega) (by omega)).mpr c32
      refine q_aload_n dX6_moveComponent_35 rfl ?_
      refine q_iload_n dX6_moveComponent_36 rfl ?_
      refine q_iload_n dX6_moveComponent_37 rfl ?_
      refine q_callVv (ν := mX7_held) dX6_moveComponent_38 uw_730 vX7_held (c_X7_held_5 hG (s_AR S (mvA (z_TV S) (z_AR S) d ft tg i)) (i) (d) (by omega)) (Nat.le_of_ble_eq_true rfl) rfl rfl rfl rfl (Nat.le_of_ble_eq_true rfl) (Nat.le_of_ble_eq_true rfl) (Nat.le_of_ble_eq_true rfl) 0 (Nat.le_of_ble_eq_true rfl) ?_
      refine wp_eq (st2 := .int (((z_TV S) (28 + 2 * i + d))) :: _) rfl ?_
      refine q_ist4 dX6_moveComponent_41 (Nat.le_of_ble_eq_true rfl) rfl ?_
      refine q_iload dX6_moveComponent_43 rfl ?_
      refine q_i2l dX6_moveComponent_45 ?_
      refine q_aload_n dX6_moveComponent_46 rfl ?_
      refine q_iload_n dX6_moveComponent_47 rfl ?_
      refine q_iload_n dX6_moveComponent_48 rfl ?_
      refine q_callVv (ν := mX7_percent) dX6_moveComponent_49 uw_731 vX7_percent (c_X7_percent_5 hG (s_AR S (mvA (z_TV S) (z_AR S) d ft tg i)) (i) (d) (by omega)) (Nat.le_of_ble_eq_true rfl) rfl rfl rfl rfl (Nat.le_of_ble_eq_true rfl) (Nat.le_of_ble_eq_true rfl) (Nat.le_of_ble_eq_true rfl) 0 (Nat.le_of_ble_eq_true rfl) ?_
      refine wp_eq (st2 := .int (((z_TV S) (4 + 2 * i + d))) :: _) rfl ?_
      refine q_i2l dX6_moveComponent_52 ?_
      refine q_lmul dX6_moveComponent_53 ?_
      refine q_ldc2 dX6_moveComponent_54 uw_732 ?_
      refine q_ldiv dX6_moveComponent_57 (by decide) ?_
      refine q_l2i dX6_moveComponent_58 ?_
      refine wp_top (y := lifF (z_TV S (28 + 2 * i + d)) (z_TV S (4 + 2 * i + d))) rfl ?_
      refine q_ist5 dX6_moveComponent_59 (Nat.le_of_ble_eq_true rfl) rfl ?_
      refine q_aload_n dX6_moveComponent_61 rfl ?_
      refine q_get (j := 0) (v := .ref 14) dX6_moveComponent_62 (Nat.le_of_ble_eq_true rfl) rfl rfl iuX6 (Nat.le_of_ble_eq_true rfl) uw_133 rfl rfl ?_
      refine q_aload_n dX6_moveComponent_65 rfl ?_
      refine q_iload_n dX6_moveComponent_66 rfl ?_
      refine q_iconst (v := 0) dX6_moveComponent_67 rfl ?_
      refine q_callVv (ν := mX7_target) dX6_moveComponent_68 uw_733 vX7_target (c_X7_target_5 hG (s_AR S (mvA (z_TV S) (z_AR S) d ft tg i)) (i) (0) (by omega)) (Nat.le_of_ble_eq_true rfl) rfl rfl rfl rfl (Nat.le_of_ble_eq_true rfl) (Nat.le_of_ble_eq_true rfl) (Nat.le_of_ble_eq_true rfl) 0 (Nat.le_of_ble_eq_true rfl) ?_
      refine wp_eq (st2 := .int ((presF ((z_TV S) 0) ((z_TV S) (16 + 2 * i + 0)))) :: _) rfl ?_
      refine wp_top (y := nI (tg (2 * i))) (t5 (2 * i) (by omega)).1 ?_
      have ta := (t5 (2 * i) (by omega)).2
      refine q_dup2_11 dX6_moveComponent_71 rfl rfl ?_
      refine q_iald (f := (mvA (z_TV S) (z_AR S) d ft tg i)) dX6_moveComponent_72 (Nat.le_of_ble_eq_true rfl) rfl ((tg (2 * i))) (by simp only [fa_lit, pk_mul, nI_add]) (by omega) (Nat.le_of_ble_eq_true rfl) ?_
      refine q_iload dX6_moveComponent_73 rfl ?_
      refine q_iadd dX6_moveComponent_75 ?_
      refine q_iast (f := (mvA (z_TV S) (z_AR S) d ft tg i)) dX6_moveComponent_76 (Nat.le_of_ble_eq_true rfl) rfl ((tg (2 * i))) (by simp only [fa_lit, pk_mul, nI_add]) (by omega) (Nat.le_of_ble_eq_true rfl) ?_
      refine wp_w (u_AR g _ _) ?_
      rw [ss_AR]
      refine q_aload_n dX6_moveComponent_77 rfl ?_
      refine q_get (j := 0) (v := .ref 14) dX6_moveComponent_78 (Nat.le_of_ble_eq_true rfl) rfl rfl iuX6 (Nat.le_of_ble_eq_true rfl) uw_133 rfl rfl ?_
      refine q_aload_n dX6_moveComponent_81 rfl ?_
      refine q_iload_n dX6_moveComponent_82 rfl ?_
      refine q_iconst (v := 1) dX6_moveComponent_83 rfl ?_
      refine q_callVv (ν := mX7_target) dX6_moveComponent_84 uw_733 vX7_target (c_X7_target_5 hG (s_AR S (upd (mvA (z_TV S) (z_AR S) d ft tg i) ((tg (2 * i))) ((((mvA (z_TV S) (z_AR S) d ft tg i) ((tg (2 * i)))) + lifF (z_TV S (28 + 2 * i + d)) (z_TV S (4 + 2 * i + d)))))) (i) (1) (by omega)) (Nat.le_of_ble_eq_true rfl) rfl rfl rfl rfl (Nat.le_of_ble_eq_true rfl) (Nat.le_of_ble_eq_true rfl) (Nat.le_of_ble_eq_true rfl) 0 (Nat.le_of_ble_eq_true rfl) ?_
      refine wp_eq (st2 := .int ((presF ((z_TV S) 0) ((z_TV S) (16 + 2 * i + 1)))) :: _) rfl ?_
      refine wp_top (y := nI (tg (2 * i + 1))) (t5 (2 * i + 1) (by omega)).1 ?_
      have tb := (t5 (2 * i + 1) (by omega)).2
      refine q_dup2_11 dX6_moveComponent_87 rfl rfl ?_
      refine q_iald (f := (upd (mvA (z_TV S) (z_AR S) d ft tg i) ((tg (2 * i))) ((((mvA (z_TV S) (z_AR S) d ft tg i) ((tg (2 * i)))) + lifF (z_TV S (28 + 2 * i + d)) (z_TV S (4 + 2 * i + d)))))) dX6_moveComponent_88 (Nat.le_of_ble_eq_true rfl) rfl ((tg (2 * i + 1))) (by simp only [fa_lit, pk_mul, nI_add]) (by omega) (Nat.le_of_ble_eq_true rfl) ?_
      refine q_iload dX6_moveComponent_89 rfl ?_
      refine q_iload dX6_moveComponent_91 rfl ?_
      refine q_isub dX6_moveComponent_93 ?_
      refine q_iadd dX6_moveComponent_94 ?_
      refine q_iast (f := (upd (mvA (z_TV S) (z_AR S) d ft tg i) ((tg (2 * i))) ((((mvA (z_TV S) (z_AR S) d ft tg i) ((tg (2 * i)))) + lifF (z_TV S (28 + 2 * i + d)) (z_TV S (4 + 2 * i + d)))))) dX6_moveComponent_95 (Nat.le_of_ble_eq_true rfl) rfl ((tg (2 * i + 1))) (by simp only [fa_lit, pk_mul, nI_add]) (by omega) (Nat.le_of_ble_eq_true rfl) ?_
      refine wp_w (u_AR g _ _) ?_
      rw [ss_AR]
      refine q_iinc3 (k9 := 1) dX6_moveComponent_96 rfl (Nat.le_of_ble_eq_true rfl) rfl ?_
      refine wp_L (L2 := [some (.ref 13), some (.ref 5), some (.int (nI d)), some (.int (nI (i + 1))), some (.int (((z_TV S) (28 + 2 * i + d)))), some (.int (lifF (z_TV S (28 + 2 * i + d)) (z_TV S (4 + 2 * i + d))))]) (by rw [show nI i + 1 = nI (i + 1) from nI_1 _]) ?_
      refine q_goto 27 dX6_moveComponent_99 rfl ?_
      refine wp_fg (L2 := [some (.ref 13), some (.ref 5), some (.int (nI d)), some (.int (nI (i + 1))), none, none]) ⟨rfl, rfl, rfl, rfl, trivial⟩ ?_
      refine wp_w (w2 := mixW g (s_AR S (mvA (z_TV S) (z_AR S) d ft tg (i + 1)))) rfl ?_
      exact ih (i + 1) (by omega)
set_option maxRecDepth 100000 in
set_option maxHeartbeats 4000000 in
theorem l_X6_H_5 {g : G0} {h : G1} (hG : Gd g) (S : SS) {Q : State → Prop} (d N : Nat) (hd : d < 2) (t1 : z_TV S 0 = nI N) (t2 : N ≤ 6) (k : wp g h mX6_moveComponent (mixW g (s_TV S (mvH (z_TV S) (z_AR S) d N))) [some (.ref 13), some (.ref 5), some (.int (nI d)), some (.int (nI N)), none, none] [] 0 Q 130) : ∀ (n i : Nat), i + n = N → wp g h mX6_moveComponent (mixW g (s_TV S (mvH (z_TV S) (z_AR S) d i))) [some (.ref 13), some (.ref 5), some (.int (nI d)), some (.int (nI i)), none, none] [] 0 Q 104 := by
  intro n
  induction n with
  | zero =>
    intro i hq1
    obtain rfl : N = i := by omega
    refine q_iload_n dX6_moveComponent_104 rfl ?_
    refine q_aload_n dX6_moveComponent_105 rfl ?_
    refine q_callVv (ν := mX7_count) dX6_moveComponent_106 uw_729 vX7_count (c_X7_count_5 hG (s_TV S (mvH (z_TV S) (z_AR S) d N)) ) (Nat.le_of_ble_eq_true rfl) rfl rfl rfl rfl (Nat.le_of_ble_eq_true rfl) (Nat.le_of_ble_eq_true rfl) (Nat.le_of_ble_eq_true rfl) 0 (Nat.le_of_ble_eq_true rfl) ?_
    refine wp_eq (st2 := .int (((mvH (z_TV S) (z_AR S) d N) 0)) :: _) rfl ?_
    refine wp_top (y := nI N) ((mvH_lo _ _ _ _ 0 (by omega)).trans t1) ?_
    refine q_icmp_ge 130 dX6_moveComponent_109 rfl (fun c109 => ?_) (fun c109 => ?_)
    · have n109 := (nI_leI (a := N) (b := N) (by omega) (by omega)).mp c109
      exact k
    · have n109 := mt (nI_leI (a := N) (b := N) (by omega) (by omega)).mpr c109
      omega
  | succ n ih =>
    intro i hq1
    refine q_iload_n dX6_moveComponent_104 rfl ?_
    refine q_aload_n dX6_moveComponent_105 rfl ?_
    refine q_callVv (ν := mX7_count) dX6_moveComponent_106 uw_729 vX7_count (c_X7_count_5 hG (s_TV S (mvH (z_TV S) (z_AR S) d i)) ) (Nat.le_of_ble_eq_true rfl) rfl rfl rfl rfl (Nat.le_of_ble_eq_true rfl) (Nat.le_of_ble_eq_true rfl) (Nat.le_of_ble_eq_true rfl) 0 (Nat.le_of_ble_eq_true rfl) ?_
    refine wp_eq (st2 := .int (((mvH (z_TV S) (z_AR S) d i) 0)) :: _) rfl ?_
    refine wp_top (y := nI N) ((mvH_lo _ _ _ _ 0 (by omega)).trans t1) ?_
    refine q_icmp_ge 130 dX6_moveComponent_109 rfl (fun c109 => ?_) (fun c109 => ?_)
    · have n109 := (nI_leI (a := N) (b := i) (by omega) (by omega)).mp c109
      omega
    · have n109 := mt (nI_leI (a := N) (b := i) (by omega) (by omega)).mpr c109
      refine q_aload_n dX6_moveComponent_112 rfl ?_
      refine q_iload_n dX6_moveComponent_113 rfl ?_
      refine q_iload_n dX6_moveComponent_114 rfl ?_
      refine q_aload_n dX6_moveComponent_115 rfl ?_
      refine q_get (j := 0) (v := .ref 14) dX6_moveComponent_116 (Nat.le_of_ble_eq_true rfl) rfl rfl iuX6 (Nat.le_of_ble_eq_true rfl) uw_133 rfl rfl ?_
      refine q_iload_n dX6_moveComponent_119 rfl ?_
      refine q_iald (f := (z_AR S)) dX6_moveComponent_120 (Nat.le_of_ble_eq_true rfl) rfl (i) rfl (by omega) (Nat.le_of_ble_eq_true rfl) ?_
      refine q_callVu (ν := mX7_putHeld) dX6_moveComponent_121 uw_734 vX7_putHeld (c_X7_putHeld_5 hG (s_TV S (mvH (z_TV S) (z_AR S) d i)) (i) (d) ((((z_AR S) (i)))) (by omega)) (Nat.le_of_ble_eq_true rfl) rfl rfl rfl rfl (Nat.le_of_ble_eq_true rfl) (Nat.le_of_ble_eq_true rfl) (Nat.le_of_ble_eq_true rfl) 0 (Nat.le_of_ble_eq_true rfl) ?_
      rw [ss_TV]
      refine wp_w (w2 := mixW g (s_TV S (upd (mvH (z_TV S) (z_AR S) d i) (28 + 2 * i + d) (((z_AR S) (i)))))) rfl ?_
      refine q_iinc3 (k9 := 1) dX6_moveComponent_124 rfl (Nat.le_of_ble_eq_true rfl) rfl ?_
      refine wp_L (L2 := [some (.ref 13), some (.ref 5), some (.int (nI d)), some (.int (nI (i + 1))), none, none]) (by rw [show nI i + 1 = nI (i + 1) from nI_1 _]) ?_
      refine q_goto 104 dX6_moveComponent_127 rfl ?_
      refine wp_w (w2 := mixW g (s_TV S (mvH (z_TV S) (z_AR S) d (i + 1)))) rfl ?_
      exact ih (i + 1) (by omega)
set_option maxRecDepth 100000 in
set_option maxHeartbeats 4000000 in
theorem c_X6_move_5 {g : G0} (hG : Gd g) (S : SS) (d : Nat) (ft : Nat) (N : Nat) (tg : Nat → Nat) (h1 : d < 2) (h2 : tgts (z_TV S) N ft tg) : ctu g mX6_moveComponent [.ref 13, .ref 5, .int (nI d)] (mixW g S) (mixW g (s_TV (s_AR S (mvA (z_TV S) (z_AR S) d ft tg N)) (mvF (z_TV S) (z_AR S) d ft N tg))) := by
  refine ct_of hG [some (.ref 13), some (.ref 5), some (.int (nI d)), none, none, none] rfl rfl rfl (Nat.le_of_ble_eq_true rfl) (fun h => ?_) rfl
  refine q_aload_n dX6_moveComponent_0 rfl ?_
  refine q_get (j := 0) (v := .ref 14) dX6_moveComponent_1 (Nat.le_of_ble_eq_true rfl) rfl rfl iuX6 (Nat.le_of_ble_eq_true rfl) uw_133 rfl rfl ?_
  refine q_iconst (v := 0) dX6_moveComponent_4 rfl ?_
  refine q_callSu (ν := mJ7_fill_53178) dX6_moveComponent_5 uw_726 vJ7_fill_53178 (c_fill_14 hG S (0)) rfl rfl (Nat.le_of_ble_eq_true rfl) (Nat.le_of_ble_eq_true rfl) (Nat.le_of_ble_eq_true rfl) 0 (Nat.le_of_ble_eq_true rfl) ?_
  refine wp_w (w2 := mixW g (s_AR S (filF (z_AR S) 0 10))) rfl ?_
  refine q_aload_n dX6_moveComponent_8 rfl ?_
  refine q_get (j := 0) (v := .ref 14) dX6_moveComponent_9 (Nat.le_of_ble_eq_true rfl) rfl rfl iuX6 (Nat.le_of_ble_eq_true rfl) uw_133 rfl rfl ?_
  refine q_aload_n dX6_moveComponent_12 rfl ?_
  refine q_callVv (ν := mX7_feedTarget) dX6_moveComponent_13 uw_727 vX7_feedTarget (c_X7_feedTarget_5 hG (s_AR S (filF (z_AR S) 0 10)) ) (Nat.le_of_ble_eq_true rfl) rfl rfl rfl rfl (Nat.le_of_ble_eq_true rfl) (Nat.le_of_ble_eq_true rfl) (Nat.le_of_ble_eq_true rfl) 0 (Nat.le_of_ble_eq_true rfl) ?_
  refine wp_eq (st2 := .int ((presF ((z_TV S) 0) ((z_TV S) 1))) :: _) rfl ?_
  refine wp_top (y := nI ft) h2.2.2.1 ?_
  have hft := h2.2.2.2.1
  have hN6 := h2.2.1
  refine q_dup2_11 dX6_moveComponent_16 rfl rfl ?_
  refine q_iald (f := (filF (z_AR S) 0 10)) dX6_moveComponent_17 (Nat.le_of_ble_eq_true rfl) rfl (ft) rfl (by omega) (Nat.le_of_ble_eq_true rfl) ?_
  refine q_aload_n dX6_moveComponent_18 rfl ?_
  refine q_iload_n dX6_moveComponent_19 rfl ?_
  refine q_callVv (ν := mX7_feed) dX6_moveComponent_20 uw_728 vX7_feed (c_X7_feed_5 hG (s_AR S (filF (z_AR S) 0 10)) (d) (by omega)) (Nat.le_of_ble_eq_true rfl) rfl rfl rfl rfl (Nat.le_of_ble_eq_true rfl) (Nat.le_of_ble_eq_true rfl) (Nat.le_of_ble_eq_true rfl) 0 (Nat.le_of_ble_eq_true rfl) ?_
  refine wp_eq (st2 := .int (((z_TV S) (2 + d))) :: _) rfl ?_
  refine q_iadd dX6_moveComponent_23 ?_
  refine q_iast (f := (filF (z_AR S) 0 10)) dX6_moveComponent_24 (Nat.le_of_ble_eq_true rfl) rfl (ft) rfl (by omega) (Nat.le_of_ble_eq_true rfl) ?_
  refine wp_w (u_AR g _ _) ?_
  rw [ss_AR]
  refine q_iconst (v := 0) dX6_moveComponent_25 rfl ?_
  refine q_ist3 dX6_moveComponent_26 (Nat.le_of_ble_eq_true rfl) rfl ?_
  refine wp_w (w2 := mixW g (s_AR S (mvA (z_TV S) (z_AR S) d ft tg 0))) rfl ?_
  refine l_X6_A_5 hG S d ft N tg h1 h2 ?_ N 0 (by omega)
  refine q_iconst (v := 0) dX6_moveComponent_102 rfl ?_
  refine q_ist3 dX6_moveComponent_103 (Nat.le_of_ble_eq_true rfl) rfl ?_
  refine wp_w (w2 := mixW g (s_TV (s_AR S (mvA (z_TV S) (z_AR S) d ft tg N)) (mvH (z_TV (s_AR S (mvA (z_TV S) (z_AR S) d ft tg N))) (z_AR (s_AR S (mvA (z_TV S) (z_AR S) d ft tg N))) d 0))) (by rw [show mvH (z_TV (s_AR S (mvA (z_TV S) (z_AR S) d ft tg N))) (z_AR (s_AR S (mvA (z_TV S) (z_AR S) d ft tg N))) d 0 = z_TV (s_AR S (mvA (z_TV S) (z_AR S) d ft tg N)) from rfl, se_TV]) ?_
  refine l_X6_H_5 hG (s_AR S (mvA (z_TV S) (z_AR S) d ft tg N)) d N h1 h2.1 h2.2.1 ?_ N 0 (by omega)
  refine wp_w (w2 := mixW g (s_TV (s_AR S (mvA (z_TV S) (z_AR S) d ft tg N)) (mvH (z_TV S) (mvA (z_TV S) (z_AR S) d ft tg N) d N))) rfl ?_
  refine q_aload_n dX6_moveComponent_130 rfl ?_
  refine q_bipush (v := 8) dX6_moveComponent_131 rfl ?_
  refine q_iload_n dX6_moveComponent_133 rfl ?_
  refine q_aload_n dX6_moveComponent_134 rfl ?_
  refine q_get (j := 0) (v := .ref 14) dX6_moveComponent_135 (Nat.le_of_ble_eq_true rfl) rfl rfl iuX6 (Nat.le_of_ble_eq_true rfl) uw_133 rfl rfl ?_
  refine q_bipush (v := 8) dX6_moveComponent_138 rfl ?_
  refine q_iald (f := (mvA (z_TV S) (z_AR S) d ft tg N)) dX6_moveComponent_140 (Nat.le_of_ble_eq_true rfl) rfl (8) rfl (Nat.le_of_ble_eq_true rfl) (Nat.le_of_ble_eq_true rfl) ?_
  refine q_callVu (ν := mX7_collect) dX6_moveComponent_141 uw_735 vX7_collect (c_X7_collect_5 hG (s_TV (s_AR S (mvA (z_TV S) (z_AR S) d ft tg N)) (mvH (z_TV S) (mvA (z_TV S) (z_AR S) d ft tg N) d N)) (8) (d) ((((mvA (z_TV S) (z_AR S) d ft tg N) (8)))) (by omega) (by omega) (by omega)) (Nat.le_of_ble_eq_true rfl) rfl rfl rfl rfl (Nat.le_of_ble_eq_true rfl) (Nat.le_of_ble_eq_true rfl) (Nat.le_of_ble_eq_true rfl) 0 (Nat.le_of_ble_eq_true rfl) ?_
  rw [ss_TV]
  refine wp_w (w2 := mixW g (s_TV (s_AR S (mvA (z_TV S) (z_AR S) d ft tg N)) (upd (mvH (z_TV S) (mvA (z_TV S) (z_AR S) d ft tg N) d N) (40 + 2 * (8 - 8) + d) ((mvH (z_TV S) (mvA (z_TV S) (z_AR S) d ft tg N) d N) (40 + 2 * (8 - 8) + d) + (((mvA (z_TV S) (z_AR S) d ft tg N) (8))))))) rfl ?_
  refine q_aload_n dX6_moveComponent_144 rfl ?_
  refine q_bipush (v := 9) dX6_moveComponent_145 rfl ?_
  refine q_iload_n dX6_moveComponent_147 rfl ?_
  refine q_aload_n dX6_moveComponent_148 rfl ?_
  refine q_get (j := 0) (v := .ref 14) dX6_moveComponent_149 (Nat.le_of_ble_eq_true rfl) rfl rfl iuX6 (Nat.le_of_ble_eq_true rfl) uw_133 rfl rfl ?_
  refine q_bipush (v := 9) dX6_moveComponent_152 rfl ?_
  refine q_iald (f := (mvA (z_TV S) (z_AR S) d ft tg N)) dX6_moveComponent_154 (Nat.le_of_ble_eq_true rfl) rfl (9) rfl (Nat.le_of_ble_eq_true rfl) (Nat.le_of_ble_eq_true rfl) ?_
  refine q_callVu (ν := mX7_collect) dX6_moveComponent_155 uw_735 vX7_collect (c_X7_collect_5 hG (s_TV (s_AR S (mvA (z_TV S) (z_AR S) d ft tg N)) (upd (mvH (z_TV S) (mvA (z_TV S) (z_AR S) d ft tg N) d N) (40 + 2 * (8 - 8) + d) ((mvH (z_TV S) (mvA (z_TV S) (z_AR S) d ft tg N) d N) (40 + 2 * (8 - 8) + d) + (((mvA (z_TV S) (z_AR S) d ft tg N) (8)))))) (9) (d) ((((mvA (z_TV S) (z_AR S) d ft tg N) (9)))) (by omega) (by omega) (by omega)) (Nat.le_of_ble_eq_true rfl) rfl rfl rfl rfl (Nat.le_of_ble_eq_true rfl) (Nat.le_of_ble_eq_true rfl) (Nat.le_of_ble_eq_true rfl) 0 (Nat.le_of_ble_eq_true rfl) ?_
  rw [ss_TV]
  refine wp_w (w2 := mixW g (s_TV (s_AR S (mvA (z_TV S) (z_AR S) d ft tg N)) (upd (upd (mvH (z_TV S) (mvA (z_TV S) (z_AR S) d ft tg N) d N) (40 + 2 * (8 - 8) + d) ((mvH (z_TV S) (mvA (z_TV S) (z_AR S) d ft tg N) d N) (40 + 2 * (8 - 8) + d) + (((mvA (z_TV S) (z_AR S) d ft tg N) (8))))) (40 + 2 * (9 - 8) + d) ((upd (mvH (z_TV S) (mvA (z_TV S) (z_AR S) d ft tg N) d N) (40 + 2 * (8 - 8) + d) ((mvH (z_TV S) (mvA (z_TV S) (z_AR S) d ft tg N) d N) (40 + 2 * (8 - 8) + d) + (((mvA (z_TV S) (z_AR S) d ft tg N) (8))))) (40 + 2 * (9 - 8) + d) + (((mvA (z_TV S) (z_AR S) d ft tg N) (9))))))) rfl ?_
  exact q_vret dX6_moveComponent_158 rfl ⟨rfl, rfl⟩
set_option maxRecDepth 100000 in
set_option maxHeartbeats 4000000 in
theorem c_X6_advance_5 {g : G0} (hG : Gd g) (S : SS)  (ft : Nat) (N : Nat) (tg : Nat → Nat) (h1 : tgts (z_TV S) N ft tg) : ctu g mX6_advance [.ref 13, .ref 5] (mixW g S) (mixW g (s_TV (s_AR S (mvA (mvF (z_TV S) (z_AR S) 0 ft N tg) (mvA (z_TV S) (z_AR S) 0 ft tg N) 1 ft tg N)) (mvF (mvF (z_TV S) (z_AR S) 0 ft N tg) (mvA (z_TV S) (z_AR S) 0 ft tg N) 1 ft N tg))) := by
  refine ct_of hG [some (.ref 13), some (.ref 5)] rfl rfl rfl (Nat.le_of_ble_eq_true rfl) (fun h => ?_) rfl
  refine q_aload_n dX6_advance_0 rfl ?_
  refine q_aload_n dX6_advance_1 rfl ?_
  refine q_iconst (v := 0) dX6_advance_2 rfl ?_
  refine q_callVu (ν := mX6_moveComponent) dX6_advance_3 uw_722 vX6_moveComponent (c_X6_move_5 hG S (0) (ft) (N) (tg) (by omega) h1) (Nat.le_of_ble_eq_true rfl) rfl rfl rfl rfl (Nat.le_of_ble_eq_true rfl) (Nat.le_of_ble_eq_true rfl) (Nat.le_of_ble_eq_true rfl) 0 (Nat.le_of_ble_eq_true rfl) ?_
  refine wp_w (w2 := mixW g (s_TV (s_AR S (mvA (z_TV S) (z_AR S) 0 ft tg N)) (mvF (z_TV S) (z_AR S) 0 ft N tg))) rfl ?_
  refine q_aload_n dX6_advance_6 rfl ?_
  refine q_aload_n dX6_advance_7 rfl ?_
  refine q_iconst (v := 1) dX6_advance_8 rfl ?_
  refine q_callVu (ν := mX6_moveComponent) dX6_advance_9 uw_722 vX6_moveComponent (c_X6_move_5 hG (s_TV (s_AR S (mvA (z_TV S) (z_AR S) 0 ft tg N)) (mvF (z_TV S) (z_AR S) 0 ft N tg)) (1) (ft) (N) (tg) (by omega) (tgts_mv h1)) (Nat.le_of_ble_eq_true rfl) rfl rfl rfl rfl (Nat.le_of_ble_eq_true rfl) (Nat.le_of_ble_eq_true rfl) (Nat.le_of_ble_eq_true rfl) 0 (Nat.le_of_ble_eq_true rfl) ?_
  rw [sc_AR_TV, ss_AR, ss_TV]
  refine wp_w (w2 := mixW g (s_TV (s_AR S (mvA (mvF (z_TV S) (z_AR S) 0 ft N tg) (mvA (z_TV S) (z_AR S) 0 ft tg N) 1 ft tg N)) (mvF (mvF (z_TV S) (z_AR S) 0 ft N tg) (mvA (z_TV S) (z_AR S) 0 ft tg N) 1 ft N tg))) rfl ?_
  exact q_vret dX6_advance_12 rfl ⟨rfl, rfl⟩
