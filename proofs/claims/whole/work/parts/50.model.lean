theorem wide_le (a b : Int32) : a.toInt64 ≤ b.toInt64 ↔ a ≤ b := by
  rw [Int64.le_iff_toInt_le, Int32.le_iff_toInt_le, Int32.toInt_toInt64, Int32.toInt_toInt64]
theorem inI {x l2 u2 : Int32} {l u : Int64} (hl : l2.toInt64 = l) (hu : u2.toInt64 = u) : pI (l ≤ x.toInt64 ∧ x.toInt64 ≤ u) = pI (l2 ≤ x ∧ x ≤ u2) := by
  subst hl hu
  rw [wide_le, wide_le]
theorem two_iff (x : Int32) : (0 ≤ x ∧ x ≤ 1) ↔ (x = 0 ∨ x = 1) := by
  rw [fa_le, fa_le, fa_eq, fa_eq, show (0 : Int32).toInt = 0 from rfl, show (1 : Int32).toInt = 1 from rfl]
  omega
theorem goal_iff (x : Int32) : ((0 ≤ x ∧ x ≤ 5) ∨ (8 ≤ x ∧ x ≤ 9)) ↔ ((x = 8 ∨ x = 9) ∨ (0 ≤ x ∧ x < 6)) := by
  rw [fa_le, fa_le, fa_le, fa_le, fa_eq, fa_eq, fa_lt, show (0 : Int32).toInt = 0 from rfl, show (5 : Int32).toInt = 5 from rfl, show (8 : Int32).toInt = 8 from rfl, show (9 : Int32).toInt = 9 from rfl, show (6 : Int32).toInt = 6 from rfl]
  omega
theorem cell_iff {x f0 : Int32} {N : Nat} (h : f0 = nI N) (hN : N ≤ 6) : (0 ≤ x ∧ x ≤ f0 - 1) ↔ (0 ≤ x ∧ x < f0) := by
  subst h
  have e : (nI N - 1).toInt = (N : Int) - 1 := by
    rw [show (1 : Int32) = nI 1 from rfl]
    exact pk_sub_toInt (by omega) (by omega)
  have e2 : (nI N).toInt = (N : Int) := nI_toInt (by omega)
  rw [fa_le, fa_le, fa_lt, e, e2]
  omega
theorem cpy_up (f g2 : Nat → Int32) (b i : Nat) : upd (va_cpy f g2 0 b i) (b + i) (f i) = va_cpy f g2 0 b (i + 1) := by
  funext j
  simp only [upd, va_cpy]
  by_cases h : j = b + i
  · subst h
    rw [if_pos rfl, if_pos ⟨by omega, by omega⟩, Nat.zero_add, Nat.add_sub_cancel_left]
  · rw [if_neg h]
    by_cases h2 : b ≤ j ∧ j < b + i
    · rw [if_pos h2, if_pos ⟨h2.1, by omega⟩]
    · rw [if_neg h2, if_neg (by omega)]
theorem cpy_dn (f g2 : Nat → Int32) (b i : Nat) : upd (va_cpy f g2 b 0 i) i (f (b + i)) = va_cpy f g2 b 0 (i + 1) := by
  funext j
  simp only [upd, va_cpy]
  by_cases h : j = i
  · subst h
    rw [if_pos rfl, if_pos ⟨by omega, by omega⟩, Nat.sub_zero]
  · rw [if_neg h]
    by_cases h2 : 0 ≤ j ∧ j < 0 + i
    · rw [if_pos h2, if_pos ⟨h2.1, by omega⟩]
    · rw [if_neg h2, if_neg (by omega)]
theorem cpy_0 (f g2 : Nat → Int32) (a b : Nat) : va_cpy f g2 a b 0 = g2 := by
  funext j
  simp only [va_cpy]
  rw [if_neg (by omega)]
set_option maxRecDepth 100000 in
set_option maxHeartbeats 4000000 in
theorem c_X10_in {g : G0} (hG : Gd g) (S : SS) (v : Int64) (l : Int64) (u : Int64)   : ctv g mX10_in [.long v, .long l, .long u] (mixW g S) (.int (pI (l ≤ v ∧ v ≤ u))) (mixW g S) := by
  refine ct_of hG [some (.long (v)), none, some (.long (l)), none, some (.long (u)), none] rfl rfl rfl (Nat.le_of_ble_eq_true rfl) (fun h => ?_) rfl
  refine q_lload_n dX10_in_0 rfl ?_
  refine q_lload_n dX10_in_1 rfl ?_
  refine q_lcmp_lt 17 dX10_in_2 dX10_in_3 rfl (fun c2 => ?_) (fun c2 => ?_)
  · refine q_iconst (v := 0) dX10_in_17 rfl ?_
    exact q_zret dX10_in_18 rfl rfl ⟨by rw [pI_f (by first | exact fun z => absurd c2 (Int64.not_lt.mpr z.1) | exact fun z => absurd c9 (Int64.not_lt.mpr z.2))], rfl⟩
  · refine q_lload_n dX10_in_6 rfl ?_
    refine q_lload dX10_in_7 rfl ?_
    refine q_lcmp_gt 17 dX10_in_9 dX10_in_10 rfl (fun c9 => ?_) (fun c9 => ?_)
    · refine q_iconst (v := 0) dX10_in_17 rfl ?_
      exact q_zret dX10_in_18 rfl rfl ⟨by rw [pI_f (by first | exact fun z => absurd c2 (Int64.not_lt.mpr z.1) | exact fun z => absurd c9 (Int64.not_lt.mpr z.2))], rfl⟩
    · refine q_iconst (v := 1) dX10_in_13 rfl ?_
      refine q_goto 18 dX10_in_14 rfl ?_
      exact q_zret dX10_in_18 rfl rfl ⟨by rw [pI_t ⟨Int64.not_lt.mp c2, Int64.not_lt.mp c9⟩], rfl⟩
set_option maxRecDepth 100000 in
set_option maxHeartbeats 4000000 in
theorem c_X10_refused {g : G0} (hG : Gd g) (S : SS) (x : Int32)   : ctv g mX10_refused [.ref 26, .int x] (mixW g S) (.int (pI (0 < x))) (mixW g (s_RF S (x))) := by
  refine ct_of hG [some (.ref 26), some (.int (x))] rfl rfl rfl (Nat.le_of_ble_eq_true rfl) (fun h => ?_) rfl
  refine q_aload_n dX10_refused_0 rfl ?_
  refine q_iload_n dX10_refused_1 rfl ?_
  refine q_put (j := 0) (ty := .int) dX10_refused_2 (Nat.le_of_ble_eq_true rfl) rfl rfl iuX10 tyX10_ok nmX10 (Nat.le_of_ble_eq_true rfl) uw_924 rfl rfl rfl rfl rfl (Nat.le_of_ble_eq_true rfl) ?_
  refine wp_w (u_RF g _ _) ?_
  refine q_iload_n dX10_refused_5 rfl ?_
  refine q_if_le 13 dX10_refused_6 rfl (fun c6 => ?_) (fun c6 => ?_)
  · refine q_iconst (v := 0) dX10_refused_13 rfl ?_
    exact q_zret dX10_refused_14 rfl rfl ⟨by rw [pI_f (Int32.not_lt.mpr c6)], rfl⟩
  · refine q_iconst (v := 1) dX10_refused_9 rfl ?_
    refine q_goto 14 dX10_refused_10 rfl ?_
    exact q_zret dX10_refused_14 rfl rfl ⟨by rw [pI_t (Int32.not_le.mp c6)], rfl⟩
set_option maxRecDepth 100000 in
set_option maxHeartbeats 4000000 in
theorem c_X10_isBit {g : G0} (hG : Gd g) (S : SS) (x : Int32)   : ctv g mX10_isBit [.int x] (mixW g S) (.int (pI (x = 0 ∨ x = 1))) (mixW g S) := by
  refine ct_of hG [some (.int (x))] rfl rfl rfl (Nat.le_of_ble_eq_true rfl) (fun h => ?_) rfl
  refine q_iload_n dX10_isBit_0 rfl ?_
  refine q_i2l dX10_isBit_1 ?_
  refine q_lconst (v := 0) dX10_isBit_2 rfl ?_
  refine q_lconst (v := 1) dX10_isBit_3 rfl ?_
  refine q_callSv (ν := mX10_in) dX10_isBit_4 uw_997 vX10_in (c_X10_in hG S (((x : Int32).toInt64)) (0) (1)) rfl rfl (Nat.le_of_ble_eq_true rfl) (Nat.le_of_ble_eq_true rfl) (Nat.le_of_ble_eq_true rfl) 0 (Nat.le_of_ble_eq_true rfl) ?_
  refine wp_top (y := pI (0 ≤ x ∧ x ≤ 1)) (inI (l2 := 0) (u2 := 1) rfl rfl) ?_
  exact q_zret dX10_isBit_7 rfl pI_z ⟨by rw [pI_iff (two_iff x)], rfl⟩
set_option maxRecDepth 100000 in
set_option maxHeartbeats 4000000 in
theorem c_X10_isGoal {g : G0} (hG : Gd g) (S : SS) (x : Int32)   : ctv g mX10_isGoal [.int x] (mixW g S) (.int (pI ((x = 8 ∨ x = 9) ∨ (0 ≤ x ∧ x < 6)))) (mixW g S) := by
  refine ct_of hG [some (.int (x))] rfl rfl rfl (Nat.le_of_ble_eq_true rfl) (fun h => ?_) rfl
  refine q_iload_n dX10_isGoal_0 rfl ?_
  refine q_i2l dX10_isGoal_1 ?_
  refine q_lconst (v := 0) dX10_isGoal_2 rfl ?_
  refine q_ldc2 dX10_isGoal_3 uw_1027 ?_
  refine q_callSv (ν := mX10_in) dX10_isGoal_6 uw_997 vX10_in (c_X10_in hG S (((x : Int32).toInt64)) (0) (5)) rfl rfl (Nat.le_of_ble_eq_true rfl) (Nat.le_of_ble_eq_true rfl) (Nat.le_of_ble_eq_true rfl) 0 (Nat.le_of_ble_eq_true rfl) ?_
  refine wp_top (y := pI (0 ≤ x ∧ x ≤ 5)) (inI (l2 := 0) (u2 := 5) rfl rfl) ?_
  refine q_if_ne 26 dX10_isGoal_9 rfl (fun c9 => ?_) (fun c9 => ?_)
  · refine q_iconst (v := 1) dX10_isGoal_26 rfl ?_
    refine q_goto 31 dX10_isGoal_27 rfl ?_
    exact q_zret dX10_isGoal_31 rfl rfl ⟨by rw [← pI_iff (goal_iff x), pI_t (by first | exact Or.inl (pI_1 c9) | exact Or.inr (pI_1 c23))], rfl⟩
  · refine q_iload_n dX10_isGoal_12 rfl ?_
    refine q_i2l dX10_isGoal_13 ?_
    refine q_ldc2 dX10_isGoal_14 uw_1028 ?_
    refine q_ldc2 dX10_isGoal_17 uw_1029 ?_
    refine q_callSv (ν := mX10_in) dX10_isGoal_20 uw_997 vX10_in (c_X10_in hG S (((x : Int32).toInt64)) (8) (9)) rfl rfl (Nat.le_of_ble_eq_true rfl) (Nat.le_of_ble_eq_true rfl) (Nat.le_of_ble_eq_true rfl) 0 (Nat.le_of_ble_eq_true rfl) ?_
    refine wp_top (y := pI (8 ≤ x ∧ x ≤ 9)) (inI (l2 := 8) (u2 := 9) rfl rfl) ?_
    refine q_if_eq 30 dX10_isGoal_23 rfl (fun c23 => ?_) (fun c23 => ?_)
    · refine q_iconst (v := 0) dX10_isGoal_30 rfl ?_
      exact q_zret dX10_isGoal_31 rfl rfl ⟨by rw [← pI_iff (goal_iff x), pI_f (fun z => z.elim (pI_0 c9) (pI_0 c23))], rfl⟩
    · refine q_iconst (v := 1) dX10_isGoal_26 rfl ?_
      refine q_goto 31 dX10_isGoal_27 rfl ?_
      exact q_zret dX10_isGoal_31 rfl rfl ⟨by rw [← pI_iff (goal_iff x), pI_t (by first | exact Or.inl (pI_1 c9) | exact Or.inr (pI_1 c23))], rfl⟩
set_option maxRecDepth 100000 in
set_option maxHeartbeats 4000000 in
theorem c_X10_isCell {g : G0} (hG : Gd g) (S : SS) (x : Int32) (N : Nat) (h1 : (z_NW S) 0 = nI N) (h2 : N ≤ 6) : ctv g mX10_isCell [.ref 26, .int x] (mixW g S) (.int (pI (0 ≤ x ∧ x < (z_NW S) 0))) (mixW g S) := by
  refine ct_of hG [some (.ref 26), some (.int (x))] rfl rfl rfl (Nat.le_of_ble_eq_true rfl) (fun h => ?_) rfl
  refine q_iload_n dX10_isCell_0 rfl ?_
  refine q_i2l dX10_isCell_1 ?_
  refine q_lconst (v := 0) dX10_isCell_2 rfl ?_
  refine q_aload_n dX10_isCell_3 rfl ?_
  refine q_get (j := 1) (v := .ref 27) dX10_isCell_4 (Nat.le_of_ble_eq_true rfl) rfl rfl iuX10 (Nat.le_of_ble_eq_true rfl) uw_925 rfl rfl ?_
  refine q_iconst (v := 0) dX10_isCell_7 rfl ?_
  refine q_iald (f := (z_NW S)) dX10_isCell_8 (Nat.le_of_ble_eq_true rfl) rfl (0) rfl (Nat.le_of_ble_eq_true rfl) (Nat.le_of_ble_eq_true rfl) ?_
  refine q_iconst (v := 1) dX10_isCell_9 rfl ?_
  refine q_isub dX10_isCell_10 ?_
  refine q_i2l dX10_isCell_11 ?_
  refine q_callSv (ν := mX10_in) dX10_isCell_12 uw_997 vX10_in (c_X10_in hG S (((x : Int32).toInt64)) (0) ((((((z_NW S) (0)) - 1) : Int32).toInt64))) rfl rfl (Nat.le_of_ble_eq_true rfl) (Nat.le_of_ble_eq_true rfl) (Nat.le_of_ble_eq_true rfl) 0 (Nat.le_of_ble_eq_true rfl) ?_
  refine wp_top (y := pI (0 ≤ x ∧ x ≤ z_NW S 0 - 1)) (inI (l2 := 0) (u2 := z_NW S 0 - 1) rfl rfl) ?_
  exact q_zret dX10_isCell_15 rfl pI_z ⟨by rw [pI_iff (cell_iff h1 h2)], rfl⟩
set_option maxRecDepth 100000 in
set_option maxHeartbeats 4000000 in
theorem l_X10_copy_34_27 {g : G0} {h : G1} (hG : Gd g) (S : SS) {Q : State → Prop}  (k : wp g h mX10_copy (mixW g (s_NW S (va_cpy (z_RD S) (z_NW S) 0 0 44))) [some (.ref 34), some (.ref 27), some (.int (nI 44))] [] 0 Q 20) : ∀ (n i : Nat), i + n = 44 → wp g h mX10_copy (mixW g (s_NW S (va_cpy (z_RD S) (z_NW S) 0 0 i))) [some (.ref 34), some (.ref 27), some (.int (nI i))] [] 0 Q 2 := by
  intro n
  induction n with
  | zero =>
    intro i hq1
    obtain rfl : 44 = i := by omega
    refine q_iload_n dX10_copy_2 rfl ?_
    refine q_bipush (v := 44) dX10_copy_3 rfl ?_
    refine q_icmp_ge 20 dX10_copy_5 rfl (fun c5 => ?_) (fun c5 => ?_)
    · have n5 := (nI_leI (a := 44) (b := 44) (by omega) (by omega)).mp c5
      exact k
    · have n5 := mt (nI_leI (a := 44) (b := 44) (by omega) (by omega)).mpr c5
      omega
  | succ n ih =>
    intro i hq1
    refine q_iload_n dX10_copy_2 rfl ?_
    refine q_bipush (v := 44) dX10_copy_3 rfl ?_
    refine q_icmp_ge 20 dX10_copy_5 rfl (fun c5 => ?_) (fun c5 => ?_)
    · have n5 := (nI_leI (a := 44) (b := i) (by omega) (by omega)).mp c5
      omega
    · have n5 := mt (nI_leI (a := 44) (b := i) (by omega) (by omega)).mpr c5
      refine q_aload_n dX10_copy_8 rfl ?_
      refine q_iload_n dX10_copy_9 rfl ?_
      refine q_aload_n dX10_copy_10 rfl ?_
      refine q_iload_n dX10_copy_11 rfl ?_
      refine q_iald (f := (z_RD S)) dX10_copy_12 (Nat.le_of_ble_eq_true rfl) rfl (i) rfl (by omega) (Nat.le_of_ble_eq_true rfl) ?_
      refine q_iast (f := (va_cpy (z_RD S) (z_NW S) 0 0 i)) dX10_copy_13 (Nat.le_of_ble_eq_true rfl) rfl (i) rfl (by omega) (Nat.le_of_ble_eq_true rfl) ?_
      refine wp_w (u_NW g _ _) ?_
      rw [ss_NW]
      refine q_iinc2 (k9 := 1) dX10_copy_14 rfl (Nat.le_of_ble_eq_true rfl) rfl ?_
      refine wp_L (L2 := [some (.ref 34), some (.ref 27), some (.int (nI (i + 1)))]) (by rw [show nI i + 1 = nI (i + 1) from nI_1 _]) ?_
      refine q_goto 2 dX10_copy_17 rfl ?_
      rw [show upd (va_cpy (z_RD S) (z_NW S) 0 0 i) i (z_RD S i) = va_cpy (z_RD S) (z_NW S) 0 0 (i + 1) by have e := cpy_up (z_RD S) (z_NW S) 0 i; rw [Nat.zero_add] at e; exact e]
      exact ih (i + 1) (by omega)
set_option maxRecDepth 100000 in
set_option maxHeartbeats 4000000 in
theorem c_X10_copy_34_27 {g : G0} (hG : Gd g) (S : SS)    : ctu g mX10_copy [.ref 34, .ref 27] (mixW g S) (mixW g (s_NW S (va_cpy (z_RD S) (z_NW S) 0 0 44))) := by
  refine ct_of hG [some (.ref 34), some (.ref 27), none] rfl rfl rfl (Nat.le_of_ble_eq_true rfl) (fun h => ?_) rfl
  refine q_iconst (v := 0) dX10_copy_0 rfl ?_
  refine q_ist2 dX10_copy_1 (Nat.le_of_ble_eq_true rfl) rfl ?_
  refine wp_w (w2 := mixW g (s_NW S (va_cpy (z_RD S) (z_NW S) 0 0 0))) (by rw [cpy_0, se_NW]) ?_
  refine l_X10_copy_34_27 hG S ?_ 44 0 (by omega)
  exact q_vret dX10_copy_20 rfl ⟨rfl, rfl⟩
set_option maxRecDepth 100000 in
set_option maxHeartbeats 4000000 in
theorem l_X10_copy_27_28 {g : G0} {h : G1} (hG : Gd g) (S : SS) {Q : State → Prop}  (k : wp g h mX10_copy (mixW g (s_TR S (va_cpy (z_NW S) (z_TR S) 0 0 44))) [some (.ref 27), some (.ref 28), some (.int (nI 44))] [] 0 Q 20) : ∀ (n i : Nat), i + n = 44 → wp g h mX10_copy (mixW g (s_TR S (va_cpy (z_NW S) (z_TR S) 0 0 i))) [some (.ref 27), some (.ref 28), some (.int (nI i))] [] 0 Q 2 := by
  intro n
  induction n with
  | zero =>
    intro i hq1
    obtain rfl : 44 = i := by omega
    refine q_iload_n dX10_copy_2 rfl ?_
    refine q_bipush (v := 44) dX10_copy_3 rfl ?_
    refine q_icmp_ge 20 dX10_copy_5 rfl (fun c5 => ?_) (fun c5 => ?_)
    · have n5 := (nI_leI (a := 44) (b := 44) (by omega) (by omega)).mp c5
      exact k
    · have n5 := mt (nI_leI (a := 44) (b := 44) (by omega) (by omega)).mpr c5
      omega
  | succ n ih =>
    intro i hq1
    refine q_iload_n dX10_copy_2 rfl ?_
    refine q_bipush (v := 44) dX10_copy_3 rfl ?_
    refine q_icmp_ge 20 dX10_copy_5 rfl (fun c5 => ?_) (fun c5 => ?_)
    · have n5 := (nI_leI (a := 44) (b := i) (by omega) (by omega)).mp c5
      omega
    · have n5 := mt (nI_leI (a := 44) (b := i) (by omega) (by omega)).mpr c5
      refine q_aload_n dX10_copy_8 rfl ?_
      refine q_iload_n dX10_copy_9 rfl ?_
      refine q_aload_n dX10_copy_10 rfl ?_
      refine q_iload_n dX10_copy_11 rfl ?_
      refine q_iald (f := (z_NW S)) dX10_copy_12 (Nat.le_of_ble_eq_true rfl) rfl (i) rfl (by omega) (Nat.le_of_ble_eq_true rfl) ?_
      refine q_iast (f := (va_cpy (z_NW S) (z_TR S) 0 0 i)) dX10_copy_13 (Nat.le_of_ble_eq_true rfl) rfl (i) rfl (by omega) (Nat.le_of_ble_eq_true rfl) ?_
      refine wp_w (u_TR g _ _) ?_
      rw [ss_TR]
      refine q_iinc2 (k9 := 1) dX10_copy_14 rfl (Nat.le_of_ble_eq_true rfl) rfl ?_
      refine wp_L (L2 := [some (.ref 27), some (.ref 28), some (.int (nI (i + 1)))]) (by rw [show nI i + 1 = nI (i + 1) from nI_1 _]) ?_
      refine q_goto 2 dX10_copy_17 rfl ?_
      rw [show upd (va_cpy (z_NW S) (z_TR S) 0 0 i) i (z_NW S i) = va_cpy (z_NW S) (z_TR S) 0 0 (i + 1) by have e := cpy_up (z_NW S) (z_TR S) 0 i; rw [Nat.zero_add] at e; exact e]
      exact ih (i + 1) (by omega)
set_option maxRecDepth 100000 in
set_option maxHeartbeats 4000000 in
theorem c_X10_copy_27_28 {g : G0} (hG : Gd g) (S : SS)    : ctu g mX10_copy [.ref 27, .ref 28] (mixW g S) (mixW g (s_TR S (va_cpy (z_NW S) (z_TR S) 0 0 44))) := by
  refine ct_of hG [some (.ref 27), some (.ref 28), none] rfl rfl rfl (Nat.le_of_ble_eq_true rfl) (fun h => ?_) rfl
  refine q_iconst (v := 0) dX10_copy_0 rfl ?_
  refine q_ist2 dX10_copy_1 (Nat.le_of_ble_eq_true rfl) rfl ?_
  refine wp_w (w2 := mixW g (s_TR S (va_cpy (z_NW S) (z_TR S) 0 0 0))) (by rw [cpy_0, se_TR]) ?_
  refine l_X10_copy_27_28 hG S ?_ 44 0 (by omega)
  exact q_vret dX10_copy_20 rfl ⟨rfl, rfl⟩
set_option maxRecDepth 100000 in
set_option maxHeartbeats 4000000 in
theorem l_X10_copy_27_29 {g : G0} {h : G1} (hG : Gd g) (S : SS) {Q : State → Prop}  (k : wp g h mX10_copy (mixW g (s_AF S (va_cpy (z_NW S) (z_AF S) 0 0 44))) [some (.ref 27), some (.ref 29), some (.int (nI 44))] [] 0 Q 20) : ∀ (n i : Nat), i + n = 44 → wp g h mX10_copy (mixW g (s_AF S (va_cpy (z_NW S) (z_AF S) 0 0 i))) [some (.ref 27), some (.ref 29), some (.int (nI i))] [] 0 Q 2 := by
  intro n
  induction n with
  | zero =>
    intro i hq1
    obtain rfl : 44 = i := by omega
    refine q_iload_n dX10_copy_2 rfl ?_
    refine q_bipush (v := 44) dX10_copy_3 rfl ?_
    refine q_icmp_ge 20 dX10_copy_5 rfl (fun c5 => ?_) (fun c5 => ?_)
    · have n5 := (nI_leI (a := 44) (b := 44) (by omega) (by omega)).mp c5
      exact k
    · have n5 := mt (nI_leI (a := 44) (b := 44) (by omega) (by omega)).mpr c5
      omega
  | succ n ih =>
    intro i hq1
    refine q_iload_n dX10_copy_2 rfl ?_
    refine q_bipush (v := 44) dX10_copy_3 rfl ?_
    refine q_icmp_ge 20 dX10_copy_5 rfl (fun c5 => ?_) (fun c5 => ?_)
    · have n5 := (nI_leI (a := 44) (b := i) (by omega) (by omega)).mp c5
      omega
    · have n5 := mt (nI_leI (a := 44) (b := i) (by omega) (by omega)).mpr c5
      refine q_aload_n dX10_copy_8 rfl ?_
      refine q_iload_n dX10_copy_9 rfl ?_
      refine q_aload_n dX10_copy_10 rfl ?_
      refine q_iload_n dX10_copy_11 rfl ?_
      refine q_iald (f := (z_NW S)) dX10_copy_12 (Nat.le_of_ble_eq_true rfl) rfl (i) rfl (by omega) (Nat.le_of_ble_eq_true rfl) ?_
      refine q_iast (f := (va_cpy (z_NW S) (z_AF S) 0 0 i)) dX10_copy_13 (Nat.le_of_ble_eq_true rfl) rfl (i) rfl (by omega) (Nat.le_of_ble_eq_true rfl) ?_
      refine wp_w (u_AF g _ _) ?_
      rw [ss_AF]
      refine q_iinc2 (k9 := 1) dX10_copy_14 rfl (Nat.le_of_ble_eq_true rfl) rfl ?_
      refine wp_L (L2 := [some (.ref 27), some (.ref 29), some (.int (nI (i + 1)))]) (by rw [show nI i + 1 = nI (i + 1) from nI_1 _]) ?_
      refine q_goto 2 dX10_copy_17 rfl ?_
      rw [show upd (va_cpy (z_NW S) (z_AF S) 0 0 i) i (z_NW S i) = va_cpy (z_NW S) (z_AF S) 0 0 (i + 1) by have e := cpy_up (z_NW S) (z_AF S) 0 i; rw [Nat.zero_add] at e; exact e]
      exact ih (i + 1) (by omega)
set_option maxRecDepth 100000 in
set_option maxHeartbeats 4000000 in
theorem c_X10_copy_27_29 {g : G0} (hG : Gd g) (S : SS)    : ctu g mX10_copy [.ref 27, .ref 29] (mixW g S) (mixW g (s_AF S (va_cpy (z_NW S) (z_AF S) 0 0 44))) := by
  refine ct_of hG [some (.ref 27), some (.ref 29), none] rfl rfl rfl (Nat.le_of_ble_eq_true rfl) (fun h => ?_) rfl
  refine q_iconst (v := 0) dX10_copy_0 rfl ?_
  refine q_ist2 dX10_copy_1 (Nat.le_of_ble_eq_true rfl) rfl ?_
  refine wp_w (w2 := mixW g (s_AF S (va_cpy (z_NW S) (z_AF S) 0 0 0))) (by rw [cpy_0, se_AF]) ?_
  refine l_X10_copy_27_29 hG S ?_ 44 0 (by omega)
  exact q_vret dX10_copy_20 rfl ⟨rfl, rfl⟩
set_option maxRecDepth 100000 in
set_option maxHeartbeats 4000000 in
theorem l_X10_copy_29_27 {g : G0} {h : G1} (hG : Gd g) (S : SS) {Q : State → Prop}  (k : wp g h mX10_copy (mixW g (s_NW S (va_cpy (z_AF S) (z_NW S) 0 0 44))) [some (.ref 29), some (.ref 27), some (.int (nI 44))] [] 0 Q 20) : ∀ (n i : Nat), i + n = 44 → wp g h mX10_copy (mixW g (s_NW S (va_cpy (z_AF S) (z_NW S) 0 0 i))) [some (.ref 29), some (.ref 27), some (.int (nI i))] [] 0 Q 2 := by
  intro n
  induction n with
  | zero =>
    intro i hq1
    obtain rfl : 44 = i := by omega
    refine q_iload_n dX10_copy_2 rfl ?_
    refine q_bipush (v := 44) dX10_copy_3 rfl ?_
    refine q_icmp_ge 20 dX10_copy_5 rfl (fun c5 => ?_) (fun c5 => ?_)
    · have n5 := (nI_leI (a := 44) (b := 44) (by omega) (by omega)).mp c5
      exact k
    · have n5 := mt (nI_leI (a := 44) (b := 44) (by omega) (by omega)).mpr c5
      omega
  | succ n ih =>
    intro i hq1
    refine q_iload_n dX10_copy_2 rfl ?_
    refine q_bipush (v := 44) dX10_copy_3 rfl ?_
    refine q_icmp_ge 20 dX10_copy_5 rfl (fun c5 => ?_) (fun c5 => ?_)
    · have n5 := (nI_leI (a := 44) (b := i) (by omega) (by omega)).mp c5
      omega
    · have n5 := mt (nI_leI (a := 44) (b := i) (by omega) (by omega)).mpr c5
      refine q_aload_n dX10_copy_8 rfl ?_
      refine q_iload_n dX10_copy_9 rfl ?_
      refine q_aload_n dX10_copy_10 rfl ?_
      refine q_iload_n dX10_copy_11 rfl ?_
      refine q_iald (f := (z_AF S)) dX10_copy_12 (Nat.le_of_ble_eq_true rfl) rfl (i) rfl (by omega) (Nat.le_of_ble_eq_true rfl) ?_
      refine q_iast (f := (va_cpy (z_AF S) (z_NW S) 0 0 i)) dX10_copy_13 (Nat.le_of_ble_eq_true rfl) rfl (i) rfl (by omega) (Nat.le_of_ble_eq_true rfl) ?_
      refine wp_w (u_NW g _ _) ?_
      rw [ss_NW]
      refine q_iinc2 (k9 := 1) dX10_copy_14 rfl (Nat.le_of_ble_eq_true rfl) rfl ?_
      refine wp_L (L2 := [some (.ref 29), some (.ref 27), some (.int (nI (i + 1)))]) (by rw [show nI i + 1 = nI (i + 1) from nI_1 _]) ?_
      refine q_goto 2 dX10_copy_17 rfl ?_
      rw [show upd (va_cpy (z_AF S) (z_NW S) 0 0 i) i (z_AF S i) = va_cpy (z_AF S) (z_NW S) 0 0 (i + 1) by have e := cpy_up (z_AF S) (z_NW S) 0 i; rw [Nat.zero_add] at e; exact e]
      exact ih (i + 1) (by omega)
set_option maxRecDepth 100000 in
set_option maxHeartbeats 4000000 in
theorem c_X10_copy_29_27 {g : G0} (hG : Gd g) (S : SS)    : ctu g mX10_copy [.ref 29, .ref 27] (mixW g S) (mixW g (s_NW S (va_cpy (z_AF S) (z_NW S) 0 0 44))) := by
  refine ct_of hG [some (.ref 29), some (.ref 27), none] rfl rfl rfl (Nat.le_of_ble_eq_true rfl) (fun h => ?_) rfl
  refine q_iconst (v := 0) dX10_copy_0 rfl ?_
  refine q_ist2 dX10_copy_1 (Nat.le_of_ble_eq_true rfl) rfl ?_
  refine wp_w (w2 := mixW g (s_NW S (va_cpy (z_AF S) (z_NW S) 0 0 0))) (by rw [cpy_0, se_NW]) ?_
  refine l_X10_copy_29_27 hG S ?_ 44 0 (by omega)
  exact q_vret dX10_copy_20 rfl ⟨rfl, rfl⟩
set_option maxRecDepth 100000 in
set_option maxHeartbeats 4000000 in
theorem l_X10_copy_28_29 {g : G0} {h : G1} (hG : Gd g) (S : SS) {Q : State → Prop}  (k : wp g h mX10_copy (mixW g (s_AF S (va_cpy (z_TR S) (z_AF S) 0 0 44))) [some (.ref 28), some (.ref 29), some (.int (nI 44))] [] 0 Q 20) : ∀ (n i : Nat), i + n = 44 → wp g h mX10_copy (mixW g (s_AF S (va_cpy (z_TR S) (z_AF S) 0 0 i))) [some (.ref 28), some (.ref 29), some (.int (nI i))] [] 0 Q 2 := by
  intro n
  induction n with
  | zero =>
    intro i hq1
    obtain rfl : 44 = i := by omega
    refine q_iload_n dX10_copy_2 rfl ?_
    refine q_bipush (v := 44) dX10_copy_3 rfl ?_
    refine q_icmp_ge 20 dX10_copy_5 rfl (fun c5 => ?_) (fun c5 => ?_)
    · have n5 := (nI_leI (a := 44) (b := 44) (by omega) (by omega)).mp c5
      exact k
    · have n5 := mt (nI_leI (a := 44) (b := 44) (by omega) (by omega)).mpr c5
      omega
  | succ n ih =>
    intro i hq1
    refine q_iload_n dX10_copy_2 rfl ?_
    refine q_bipush (v := 44) dX10_copy_3 rfl ?_
    refine q_icmp_ge 20 dX10_copy_5 rfl (fun c5 => ?_) (fun c5 => ?_)
    · have n5 := (nI_leI (a := 44) (b := i) (by omega) (by omega)).mp c5
      omega
    · have n5 := mt (nI_leI (a := 44) (b := i) (by omega) (by omega)).mpr c5
      refine q_aload_n dX10_copy_8 rfl ?_
      refine q_iload_n dX10_copy_9 rfl ?_
      refine q_aload_n dX10_copy_10 rfl ?_
      refine q_iload_n dX10_copy_11 rfl ?_
      refine q_iald (f := (z_TR S)) dX10_copy_12 (Nat.le_of_ble_eq_true rfl) rfl (i) rfl (by omega) (Nat.le_of_ble_eq_true rfl) ?_
      refine q_iast (f := (va_cpy (z_TR S) (z_AF S) 0 0 i)) dX10_copy_13 (Nat.le_of_ble_eq_true rfl) rfl (i) rfl (by omega) (Nat.le_of_ble_eq_true rfl) ?_
      refine wp_w (u_AF g _ _) ?_
      rw [ss_AF]
      refine q_iinc2 (k9 := 1) dX10_copy_14 rfl (Nat.le_of_ble_eq_true rfl) rfl ?_
      refine wp_L (L2 := [some (.ref 28), some (.ref 29), some (.int (nI (i + 1)))]) (by rw [show nI i + 1 = nI (i + 1) from nI_1 _]) ?_
      refine q_goto 2 dX10_copy_17 rfl ?_
      rw [show upd (va_cpy (z_TR S) (z_AF S) 0 0 i) i (z_TR S i) = va_cpy (z_TR S) (z_AF S) 0 0 (i + 1) by have e := cpy_up (z_TR S) (z_AF S) 0 i; rw [Nat.zero_add] at e; exact e]
      exact ih (i + 1) (by omega)
set_option maxRecDepth 100000 in
set_option maxHeartbeats 4000000 in
theorem c_X10_copy_28_29 {g : G0} (hG : Gd g) (S : SS)    : ctu g mX10_copy [.ref 28, .ref 29] (mixW g S) (mixW g (s_AF S (va_cpy (z_TR S) (z_AF S) 0 0 44))) := by
  refine ct_of hG [some (.ref 28), some (.ref 29), none] rfl rfl rfl (Nat.le_of_ble_eq_true rfl) (fun h => ?_) rfl
  refine q_iconst (v := 0) dX10_copy_0 rfl ?_
  refine q_ist2 dX10_copy_1 (Nat.le_of_ble_eq_true rfl) rfl ?_
  refine wp_w (w2 := mixW g (s_AF S (va_cpy (z_TR S) (z_AF S) 0 0 0))) (by rw [cpy_0, se_AF]) ?_
  refine l_X10_copy_28_29 hG S ?_ 44 0 (by omega)
  exact q_vret dX10_copy_20 rfl ⟨rfl, rfl⟩
set_option maxRecDepth 100000 in
set_option maxHeartbeats 4000000 in
theorem l_X10_copy_29_28 {g : G0} {h : G1} (hG : Gd g) (S : SS) {Q : State → Prop}  (k : wp g h mX10_copy (mixW g (s_TR S (va_cpy (z_AF S) (z_TR S) 0 0 44))) [some (.ref 29), some (.ref 28), some (.int (nI 44))] [] 0 Q 20) : ∀ (n i : Nat), i + n = 44 → wp g h mX10_copy (mixW g (s_TR S (va_cpy (z_AF S) (z_TR S) 0 0 i))) [some (.ref 29), some (.ref 28), some (.int (nI i))] [] 0 Q 2 := by
  intro n
  induction n with
  | zero =>
    intro i hq1
    obtain rfl : 44 = i := by omega
    refine q_iload_n dX10_copy_2 rfl ?_
    refine q_bipush (v := 44) dX10_copy_3 rfl ?_
    refine q_icmp_ge 20 dX10_copy_5 rfl (fun c5 => ?_) (fun c5 => ?_)
    · have n5 := (nI_leI (a := 44) (b := 44) (by omega) (by omega)).mp c5
      exact k
    · have n5 := mt (nI_leI (a := 44) (b := 44) (by omega) (by omega)).mpr c5
      omega
  | succ n ih =>
    intro i hq1
    refine q_iload_n dX10_copy_2 rfl ?_
    refine q_bipush (v := 44) dX10_copy_3 rfl ?_
    refine q_icmp_ge 20 dX10_copy_5 rfl (fun c5 => ?_) (fun c5 => ?_)
    · have n5 := (nI_leI (a := 44) (b := i) (by omega) (by omega)).mp c5
      omega
    · have n5 := mt (nI_leI (a := 44) (b := i) (by omega) (by omega)).mpr c5
      refine q_aload_n dX10_copy_8 rfl ?_
      refine q_iload_n dX10_copy_9 rfl ?_
      refine q_aload_n dX10_copy_10 rfl ?_
      refine q_iload_n dX10_copy_11 rfl ?_
      refine q_iald (f := (z_AF S)) dX10_copy_12 (Nat.le_of_ble_eq_true rfl) rfl (i) rfl (by omega) (Nat.le_of_ble_eq_true rfl) ?_
      refine q_iast (f := (va_cpy (z_AF S) (z_TR S) 0 0 i)) dX10_copy_13 (Nat.le_of_ble_eq_true rfl) rfl (i) rfl (by omega) (Nat.le_of_ble_eq_true rfl) ?_
      refine wp_w (u_TR g _ _) ?_
      rw [ss_TR]
      refine q_iinc2 (k9 := 1) dX10_copy_14 rfl (Nat.le_of_ble_eq_true rfl) rfl ?_
      refine wp_L (L2 := [some (.ref 29), some (.ref 28), some (.int (nI (i + 1)))]) (by rw [show nI i + 1 = nI (i + 1) from nI_1 _]) ?_
      refine q_goto 2 dX10_copy_17 rfl ?_
      rw [show upd (va_cpy (z_AF S) (z_TR S) 0 0 i) i (z_AF S i) = va_cpy (z_AF S) (z_TR S) 0 0 (i + 1) by have e := cpy_up (z_AF S) (z_TR S) 0 i; rw [Nat.zero_add] at e; exact e]
      exact ih (i + 1) (by omega)
set_option maxRecDepth 100000 in
set_option maxHeartbeats 4000000 in
theorem c_X10_copy_29_28 {g : G0} (hG : Gd g) (S : SS)    : ctu g mX10_copy [.ref 29, .ref 28] (mixW g S) (mixW g (s_TR S (va_cpy (z_AF S) (z_TR S) 0 0 44))) := by
  refine ct_of hG [some (.ref 29), some (.ref 28), none] rfl rfl rfl (Nat.le_of_ble_eq_true rfl) (fun h => ?_) rfl
  refine q_iconst (v := 0) dX10_copy_0 rfl ?_
  refine q_ist2 dX10_copy_1 (Nat.le_of_ble_eq_true rfl) rfl ?_
  refine wp_w (w2 := mixW g (s_TR S (va_cpy (z_AF S) (z_TR S) 0 0 0))) (by rw [cpy_0, se_TR]) ?_
  refine l_X10_copy_29_28 hG S ?_ 44 0 (by omega)
  exact q_vret dX10_copy_20 rfl ⟨rfl, rfl⟩
set_option maxRecDepth 100000 in
set_option maxHeartbeats 4000000 in
theorem l_X10_note {g : G0} {h : G1} (hG : Gd g) (S : SS) {Q : State → Prop} (r : Nat) (hr : z_NX S = nI r) (hr2 : r < 14) (k : wp g h mX10_note (mixW g (s_DI S (va_cpy (z_NW S) (z_DI S) 0 (r * 44) 44))) [some (.ref 26), some (.int (nI 44))] [] 0 Q 34) : ∀ (n i : Nat), i + n = 44 → wp g h mX10_note (mixW g (s_DI S (va_cpy (z_NW S) (z_DI S) 0 (r * 44) i))) [some (.ref 26), some (.int (nI i))] [] 0 Q 2 := by
  intro n
  induction n with
  | zero =>
    intro i hq1
    obtain rfl : 44 = i := by omega
    refine q_iload_n dX10_note_2 rfl ?_
    refine q_bipush (v := 44) dX10_note_3 rfl ?_
    refine q_icmp_ge 34 dX10_note_5 rfl (fun c5 => ?_) (fun c5 => ?_)
    · have n5 := (nI_leI (a := 44) (b := 44) (by omega) (by omega)).mp c5
      exact k
    · have n5 := mt (nI_leI (a := 44) (b := 44) (by omega) (by omega)).mpr c5
      omega
  | succ n ih =>
    intro i hq1
    refine q_iload_n dX10_note_2 rfl ?_
    refine q_bipush (v := 44) dX10_note_3 rfl ?_
    refine q_icmp_ge 34 dX10_note_5 rfl (fun c5 => ?_) (fun c5 => ?_)
    · have n5 := (nI_leI (a := 44) (b := i) (by omega) (by omega)).mp c5
      omega
    · have n5 := mt (nI_leI (a := 44) (b := i) (by omega) (by omega)).mpr c5
      refine q_aload_n dX10_note_8 rfl ?_
      refine q_get (j := 4) (v := .ref 30) dX10_note_9 (Nat.le_of_ble_eq_true rfl) rfl rfl iuX10 (Nat.le_of_ble_eq_true rfl) uw_928 rfl rfl ?_
      refine q_bipush (v := 44) dX10_note_12 rfl ?_
      refine q_aload_n dX10_note_14 rfl ?_
      refine q_get (j := 6) (v := .int ((z_NX S))) dX10_note_15 (Nat.le_of_ble_eq_true rfl) rfl rfl iuX10 (Nat.le_of_ble_eq_true rfl) uw_930 rfl rfl ?_
      refine wp_top (y := nI r) hr ?_
      refine q_imul dX10_note_18 ?_
      refine q_iload_n dX10_note_19 rfl ?_
      refine q_iadd dX10_note_20 ?_
      refine q_aload_n dX10_note_21 rfl ?_
      refine q_get (j := 1) (v := .ref 27) dX10_note_22 (Nat.le_of_ble_eq_true rfl) rfl rfl iuX10 (Nat.le_of_ble_eq_true rfl) uw_925 rfl rfl ?_
      refine q_iload_n dX10_note_25 rfl ?_
      refine q_iald (f := (z_NW S)) dX10_note_26 (Nat.le_of_ble_eq_true rfl) rfl (i) rfl (by omega) (Nat.le_of_ble_eq_true rfl) ?_
      refine q_iast (f := (va_cpy (z_NW S) (z_DI S) 0 (r * 44) i)) dX10_note_27 (Nat.le_of_ble_eq_true rfl) rfl (r * 44 + i) (by simp only [fa_lit, pk_mul, nI_add]; exact congrArg nI (by omega)) (by omega) (Nat.le_of_ble_eq_true rfl) ?_
      refine wp_w (u_DI g _ _) ?_
      rw [ss_DI]
      refine q_iinc1 (k9 := 1) dX10_note_28 rfl (Nat.le_of_ble_eq_true rfl) rfl ?_
      refine wp_L (L2 := [some (.ref 26), some (.int (nI (i + 1)))]) (by rw [show nI i + 1 = nI (i + 1) from nI_1 _]) ?_
      refine q_goto 2 dX10_note_31 rfl ?_
      rw [cpy_up]
      exact ih (i + 1) (by omega)
set_option maxRecDepth 100000 in
set_option maxHeartbeats 4000000 in
theorem c_X10_note {g : G0} (hG : Gd g) (S : SS)  (p : Nat) (q : Nat) (h1 : (z_NX S) = nI p) (h2 : p < 14) (h3 : (z_AC S) = nI q) (h4 : q ≤ 14) : ctu g mX10_note [.ref 26] (mixW g S) (mixW g (s_AC (s_NX (s_DI S (va_cpy (z_NW S) (z_DI S) 0 (p * 44) 44)) (nI ((p + 1) % 14))) (nI (min (q + 1) 14)))) := by
  refine ct_of hG [some (.ref 26), none] rfl rfl rfl (Nat.le_of_ble_eq_true rfl) (fun h => ?_) rfl
  refine q_iconst (v := 0) dX10_note_0 rfl ?_
  refine q_ist1 dX10_note_1 (Nat.le_of_ble_eq_true rfl) rfl ?_
  refine wp_w (w2 := mixW g (s_DI S (va_cpy (z_NW S) (z_DI S) 0 (p * 44) 0))) (by rw [cpy_0, se_DI]) ?_
  refine l_X10_note hG S p h1 h2 ?_ 44 0 (by omega)
  refine q_aload_n dX10_note_34 rfl ?_
  refine q_aload_n dX10_note_35 rfl ?_
  refine q_get (j := 6) (v := .int ((z_NX S))) dX10_note_36 (Nat.le_of_ble_eq_true rfl) rfl rfl iuX10 (Nat.le_of_ble_eq_true rfl) uw_930 rfl rfl ?_
  refine wp_top (y := nI p) h1 ?_
  refine q_iconst (v := 1) dX10_note_39 rfl ?_
  refine q_iadd dX10_note_40 ?_
  refine wp_top (y := nI (p + 1)) (nI_1 p) ?_
  refine q_bipush (v := 14) dX10_note_41 rfl ?_
  refine q_irem dX10_note_43 (by decide) ?_
  refine wp_top (y := nI ((p + 1) % 14)) (pk_rem (d := 14) (by omega) (by omega) (by omega)) ?_
  refine q_put (j := 6) (ty := .int) dX10_note_44 (Nat.le_of_ble_eq_true rfl) rfl rfl iuX10 tyX10_ok nmX10 (Nat.le_of_ble_eq_true rfl) uw_930 rfl rfl rfl rfl rfl (Nat.le_of_ble_eq_true rfl) ?_
  refine wp_w (u_NX g _ _) ?_
  refine q_aload_n dX10_note_47 rfl ?_
  refine q_aload_n dX10_note_48 rfl ?_
  refine q_get (j := 5) (v := .int ((z_AC S))) dX10_note_49 (Nat.le_of_ble_eq_true rfl) rfl rfl iuX10 (Nat.le_of_ble_eq_true rfl) uw_929 rfl rfl ?_
  refine wp_top (y := nI q) h3 ?_
  refine q_bipush (v := 14) dX10_note_52 rfl ?_
  refine q_icmp_ge 66 dX10_note_54 rfl (fun c54 => ?_) (fun c54 => ?_)
  · have n54 := (nI_leI (a := 14) (b := q) (by omega) (by omega)).mp c54
    refine q_bipush (v := 14) dX10_note_66 rfl ?_
    refine wp_top (y := nI (min (q + 1) 14)) (show nI 14 = _ from congrArg nI (by omega)) ?_
    refine q_put (j := 5) (ty := .int) dX10_note_68 (Nat.le_of_ble_eq_true rfl) rfl rfl iuX10 tyX10_ok nmX10 (Nat.le_of_ble_eq_true rfl) uw_929 rfl rfl rfl rfl rfl (Nat.le_of_ble_eq_true rfl) ?_
    refine wp_w (u_AC g _ _) ?_
    exact q_vret dX10_note_71 rfl ⟨rfl, rfl⟩
  · have n54 := mt (nI_leI (a := 14) (b := q) (by omega) (by omega)).mpr c54
    refine q_aload_n dX10_note_57 rfl ?_
    refine q_get (j := 5) (v := .int ((z_AC S))) dX10_note_58 (Nat.le_of_ble_eq_true rfl) rfl rfl iuX10 (Nat.le_of_ble_eq_true rfl) uw_929 rfl rfl ?_
    refine wp_top (y := nI q) h3 ?_
    refine q_iconst (v := 1) dX10_note_61 rfl ?_
    refine q_iadd dX10_note_62 ?_
    refine q_goto 68 dX10_note_63 rfl ?_
    refine wp_top (y := nI (min (q + 1) 14)) ((nI_1 q).trans (congrArg nI (by omega))) ?_
    refine q_put (j := 5) (ty := .int) dX10_note_68 (Nat.le_of_ble_eq_true rfl) rfl rfl iuX10 tyX10_ok nmX10 (Nat.le_of_ble_eq_true rfl) uw_929 rfl rfl rfl rfl rfl (Nat.le_of_ble_eq_true rfl) ?_
    refine wp_w (u_AC g _ _) ?_
    exact q_vret dX10_note_71 rfl ⟨rfl, rfl⟩
set_option maxRecDepth 100000 in
set_option maxHeartbeats 4000000 in
theorem c_X10_thrown {g : G0} (hG : Gd g) (S : SS)    : ctv g mX10_thrown [.ref 26] (mixW g S) (.int ((z_RF S))) (mixW g S) := by
  refine ct_of hG [some (.ref 26)] rfl rfl rfl (Nat.le_of_ble_eq_true rfl) (fun h => ?_) rfl
  refine q_aload_n dX10_thrown_0 rfl ?_
  refine q_get (j := 0) (v := .int ((z_RF S))) dX10_thrown_1 (Nat.le_of_ble_eq_true rfl) rfl rfl iuX10 (Nat.le_of_ble_eq_true rfl) uw_924 rfl rfl ?_
  exact q_iret dX10_thrown_4 rfl ⟨rfl, rfl⟩
set_option maxRecDepth 100000 in
set_option maxHeartbeats 4000000 in
theorem c_X10_clearText {g : G0} (hG : Gd g) (S : SS)    : ctv g mX10_clearText [.ref 26] (mixW g S) (.int ((z_SS S))) (mixW g (s_RF (s_SS S (0)) (0))) := by
  refine ct_of hG [some (.ref 26), none] rfl rfl rfl (Nat.le_of_ble_eq_true rfl) (fun h => ?_) rfl
  refine q_aload_n dX10_clearText_0 rfl ?_
  refine q_iconst (v := 0) dX10_clearText_1 rfl ?_
  refine q_put (j := 0) (ty := .int) dX10_clearText_2 (Nat.le_of_ble_eq_true rfl) rfl rfl iuX10 tyX10_ok nmX10 (Nat.le_of_ble_eq_true rfl) uw_924 rfl rfl rfl rfl rfl (Nat.le_of_ble_eq_true rfl) ?_
  refine wp_w (u_RF g _ _) ?_
  refine q_aload_n dX10_clearText_5 rfl ?_
  refine q_get (j := 10) (v := .int ((z_SS S))) dX10_clearText_6 (Nat.le_of_ble_eq_true rfl) rfl rfl iuX10 (Nat.le_of_ble_eq_true rfl) uw_934 rfl rfl ?_
  refine q_ist1 dX10_clearText_9 (Nat.le_of_ble_eq_true rfl) rfl ?_
  refine q_aload_n dX10_clearText_10 rfl ?_
  refine q_iconst (v := 0) dX10_clearText_11 rfl ?_
  refine q_put (j := 10) (ty := .int) dX10_clearText_12 (Nat.le_of_ble_eq_true rfl) rfl rfl iuX10 tyX10_ok nmX10 (Nat.le_of_ble_eq_true rfl) uw_934 rfl rfl rfl rfl rfl (Nat.le_of_ble_eq_true rfl) ?_
  refine wp_w (u_SS g _ _) ?_
  rw [sc_SS_RF]
  refine q_iload_n dX10_clearText_15 rfl ?_
  exact q_iret dX10_clearText_16 rfl ⟨rfl, rfl⟩
set_option maxRecDepth 100000 in
set_option maxHeartbeats 4000000 in
theorem c_X10_cellCount {g : G0} (hG : Gd g) (S : SS)    : ctv g mX10_cellCount [.ref 26] (mixW g S) (.int ((z_NW S) 0)) (mixW g (s_RF S (0))) := by
  refine ct_of hG [some (.ref 26)] rfl rfl rfl (Nat.le_of_ble_eq_true rfl) (fun h => ?_) rfl
  refine q_aload_n dX10_cellCount_0 rfl ?_
  refine q_iconst (v := 0) dX10_cellCount_1 rfl ?_
  refine q_put (j := 0) (ty := .int) dX10_cellCount_2 (Nat.le_of_ble_eq_true rfl) rfl rfl iuX10 tyX10_ok nmX10 (Nat.le_of_ble_eq_true rfl) uw_924 rfl rfl rfl rfl rfl (Nat.le_of_ble_eq_true rfl) ?_
  refine wp_w (u_RF g _ _) ?_
  refine q_aload_n dX10_cellCount_5 rfl ?_
  refine q_get (j := 1) (v := .ref 27) dX10_cellCount_6 (Nat.le_of_ble_eq_true rfl) rfl rfl iuX10 (Nat.le_of_ble_eq_true rfl) uw_925 rfl rfl ?_
  refine q_iconst (v := 0) dX10_cellCount_9 rfl ?_
  refine q_iald (f := (z_NW S)) dX10_cellCount_10 (Nat.le_of_ble_eq_true rfl) rfl (0) rfl (Nat.le_of_ble_eq_true rfl) (Nat.le_of_ble_eq_true rfl) ?_
  exact q_iret dX10_cellCount_11 rfl ⟨rfl, rfl⟩
set_option maxRecDepth 100000 in
set_option maxHeartbeats 4000000 in
theorem c_X10_feedCell {g : G0} (hG : Gd g) (S : SS)    : ctv g mX10_feedCell [.ref 26] (mixW g S) (.int ((z_NW S) 25)) (mixW g (s_RF S (0))) := by
  refine ct_of hG [some (.ref 26)] rfl rfl rfl (Nat.le_of_ble_eq_true rfl) (fun h => ?_) rfl
  refine q_aload_n dX10_feedCell_0 rfl ?_
  refine q_iconst (v := 0) dX10_feedCell_1 rfl ?_
  refine q_put (j := 0) (ty := .int) dX10_feedCell_2 (Nat.le_of_ble_eq_true rfl) rfl rfl iuX10 tyX10_ok nmX10 (Nat.le_of_ble_eq_true rfl) uw_924 rfl rfl rfl rfl rfl (Nat.le_of_ble_eq_true rfl) ?_
  refine wp_w (u_RF g _ _) ?_
  refine q_aload_n dX10_feedCell_5 rfl ?_
  refine q_get (j := 1) (v := .ref 27) dX10_feedCell_6 (Nat.le_of_ble_eq_true rfl) rfl rfl iuX10 (Nat.le_of_ble_eq_true rfl) uw_925 rfl rfl ?_
  refine q_bipush (v := 25) dX10_feedCell_9 rfl ?_
  refine q_iald (f := (z_NW S)) dX10_feedCell_11 (Nat.le_of_ble_eq_true rfl) rfl (25) rfl (Nat.le_of_ble_eq_true rfl) (Nat.le_of_ble_eq_true rfl) ?_
  exact q_iret dX10_feedCell_12 rfl ⟨rfl, rfl⟩
set_option maxRecDepth 100000 in
set_option maxHeartbeats 4000000 in
theorem c_X10_append {g : G0} (hG : Gd g) (S : SS) (c : Nat) (len : Nat) (h1 : (z_SS S) = nI len) (h2 : len < 60) (h3 : c ≤ 255) : ctv g mX10_append [.ref 26, .int (nI c)] (mixW g S) (.int (nI (len + 1))) (mixW g (s_RF (s_SS (s_SC S (upd (z_SC S) len (nI c))) (nI (len + 1))) (0))) := by
  refine ct_of hG [some (.ref 26), some (.int (nI c))] rfl rfl rfl (Nat.le_of_ble_eq_true rfl) (fun h => ?_) rfl
  refine q_aload_n dX10_append_0 rfl ?_
  refine q_iload_n dX10_append_1 rfl ?_
  refine q_i2l dX10_append_2 ?_
  refine q_lconst (v := 0) dX10_append_3 rfl ?_
  refine q_ldc2 dX10_append_4 uw_996 ?_
  refine q_callSv (ν := mX10_in) dX10_append_7 uw_997 vX10_in (c_X10_in hG S (((nI c : Int32).toInt64)) (0) (255)) rfl rfl (Nat.le_of_ble_eq_true rfl) (Nat.le_of_ble_eq_true rfl) (Nat.le_of_ble_eq_true rfl) 0 (Nat.le_of_ble_eq_true rfl) ?_
  refine wp_top (y := pI (0 ≤ (nI c) ∧ (nI c) ≤ 255)) (inI (l2 := 0) (u2 := 255) rfl rfl) ?_
  refine q_if_ne 17 dX10_append_10 rfl (fun c10 => ?_) (fun c10 => ?_)
  · refine q_aload_n dX10_append_17 rfl ?_
    refine q_get (j := 10) (v := .int ((z_SS S))) dX10_append_18 (Nat.le_of_ble_eq_true rfl) rfl rfl iuX10 (Nat.le_of_ble_eq_true rfl) uw_934 rfl rfl ?_
    refine wp_top (y := nI len) h1 ?_
    refine q_bipush (v := 60) dX10_append_21 rfl ?_
    refine q_icmp_ne 30 dX10_append_23 rfl (fun c23 => ?_) (fun c23 => ?_)
    · have n23 := mt (nI_eq (a := len) (b := 60) (by omega) (by omega)).mpr c23
      refine q_iconst (v := 0) dX10_append_30 rfl ?_
      refine q_callVv (ν := mX10_refused) dX10_append_31 uw_1000 vX10_refused (c_X10_refused hG S (0)) (Nat.le_of_ble_eq_true rfl) rfl rfl rfl rfl (Nat.le_of_ble_eq_true rfl) (Nat.le_of_ble_eq_true rfl) (Nat.le_of_ble_eq_true rfl) 0 (Nat.le_of_ble_eq_true rfl) ?_
      refine wp_w (w2 := mixW g (s_RF S (0))) rfl ?_
      refine wp_top (y := 0) (pI_f (by decide)) ?_
      refine q_if_eq 39 dX10_append_34 rfl (fun c34 => ?_) (fun c34 => ?_)
      · refine q_aload_n dX10_append_39 rfl ?_
        refine q_get (j := 9) (v := .ref 33) dX10_append_40 (Nat.le_of_ble_eq_true rfl) rfl rfl iuX10 (Nat.le_of_ble_eq_true rfl) uw_933 rfl rfl ?_
        refine q_aload_n dX10_append_43 rfl ?_
        refine q_get (j := 10) (v := .int ((z_SS S))) dX10_append_44 (Nat.le_of_ble_eq_true rfl) rfl rfl iuX10 (Nat.le_of_ble_eq_true rfl) uw_934 rfl rfl ?_
        refine wp_top (y := nI len) h1 ?_
        refine q_iload_n dX10_append_47 rfl ?_
        refine q_iast (f := (z_SC S)) dX10_append_48 (Nat.le_of_ble_eq_true rfl) rfl (len) rfl (by omega) (Nat.le_of_ble_eq_true rfl) ?_
        refine wp_w (u_SC g _ _) ?_
        rw [sc_SC_RF]
        refine q_aload_n dX10_append_49 rfl ?_
        refine q_dup dX10_append_50 rfl ?_
        refine q_get (j := 10) (v := .int ((z_SS S))) dX10_append_51 (Nat.le_of_ble_eq_true rfl) rfl rfl iuX10 (Nat.le_of_ble_eq_true rfl) uw_934 rfl rfl ?_
        refine wp_top (y := nI len) h1 ?_
        refine q_iconst (v := 1) dX10_append_54 rfl ?_
        refine q_iadd dX10_append_55 ?_
        refine wp_top (y := nI (len + 1)) (nI_1 len) ?_
        refine q_put (j := 10) (ty := .int) dX10_append_56 (Nat.le_of_ble_eq_true rfl) rfl rfl iuX10 tyX10_ok nmX10 (Nat.le_of_ble_eq_true rfl) uw_934 rfl rfl rfl rfl rfl (Nat.le_of_ble_eq_true rfl) ?_
        refine wp_w (u_SS g _ _) ?_
        rw [sc_SS_RF]
        refine q_aload_n dX10_append_59 rfl ?_
        refine q_get (j := 10) (v := .int ((nI (len + 1)))) dX10_append_60 (Nat.le_of_ble_eq_true rfl) rfl rfl iuX10 (Nat.le_of_ble_eq_true rfl) uw_934 rfl rfl ?_
        exact q_iret dX10_append_63 rfl ⟨rfl, rfl⟩
      · first | exact absurd (by decide) c34 | exact absurd c34 (by decide)
    · have n23 := (nI_eq (a := len) (b := 60) (by omega) (by omega)).mp c23
      omega
  · exact absurd (rng_ok (lo := 0) (hi := 255) (by omega) (by omega) (by omega)) (pI_0 c10)
set_option maxRecDepth 100000 in
set_option maxHeartbeats 4000000 in
theorem c_X10_append_x1 {g : G0} (hG : Gd g) (S : SS) (x : Int32)  (h1 : ¬ (0 ≤ x ∧ x ≤ 255)) : ctv g mX10_append [.ref 26, .int x] (mixW g S) (.int (0)) (mixW g (s_RF S (1))) := by
  refine ct_of hG [some (.ref 26), some (.int (x))] rfl rfl rfl (Nat.le_of_ble_eq_true rfl) (fun h => ?_) rfl
  refine q_aload_n dX10_append_0 rfl ?_
  refine q_iload_n dX10_append_1 rfl ?_
  refine q_i2l dX10_append_2 ?_
  refine q_lconst (v := 0) dX10_append_3 rfl ?_
  refine q_ldc2 dX10_append_4 uw_996 ?_
  refine q_callSv (ν := mX10_in) dX10_append_7 uw_997 vX10_in (c_X10_in hG S (((x : Int32).toInt64)) (0) (255)) rfl rfl (Nat.le_of_ble_eq_true rfl) (Nat.le_of_ble_eq_true rfl) (Nat.le_of_ble_eq_true rfl) 0 (Nat.le_of_ble_eq_true rfl) ?_
  refine wp_top (y := pI (0 ≤ x ∧ x ≤ 255)) (inI (l2 := 0) (u2 := 255) rfl rfl) ?_
  refine q_if_ne 17 dX10_append_10 rfl (fun c10 => ?_) (fun c10 => ?_)
  · exact absurd (pI_1 c10) h1
  · refine q_iconst (v := 1) dX10_append_13 rfl ?_
    refine q_goto 31 dX10_append_14 rfl ?_
    refine q_callVv (ν := mX10_refused) dX10_append_31 uw_1000 vX10_refused (c_X10_refused hG S (1)) (Nat.le_of_ble_eq_true rfl) rfl rfl rfl rfl (Nat.le_of_ble_eq_true rfl) (Nat.le_of_ble_eq_true rfl) (Nat.le_of_ble_eq_true rfl) 0 (Nat.le_of_ble_eq_true rfl) ?_
    refine wp_w (w2 := mixW g (s_RF S (1))) rfl ?_
    refine wp_top (y := 1) (pI_t (by decide)) ?_
    refine q_if_eq 39 dX10_append_34 rfl (fun c34 => ?_) (fun c34 => ?_)
    · first | exact absurd (by decide) c34 | exact absurd c34 (by decide)
    · refine q_iconst (v := 0) dX10_append_37 rfl ?_
      exact q_iret dX10_append_38 rfl ⟨rfl, rfl⟩
set_option maxRecDepth 100000 in
set_option maxHeartbeats 4000000 in
theorem c_X10_append_x2 {g : G0} (hG : Gd g) (S : SS) (c : Nat)  (h1 : (z_SS S) = nI 60) (h2 : c ≤ 255) : ctv g mX10_append [.ref 26, .int (nI c)] (mixW g S) (.int (0)) (mixW g (s_RF S (2))) := by
  refine ct_of hG [some (.ref 26), some (.int (nI c))] rfl rfl rfl (Nat.le_of_ble_eq_true rfl) (fun h => ?_) rfl
  refine q_aload_n dX10_append_0 rfl ?_
  refine q_iload_n dX10_append_1 rfl ?_
  refine q_i2l dX10_append_2 ?_
  refine q_lconst (v := 0) dX10_append_3 rfl ?_
  refine q_ldc2 dX10_append_4 uw_996 ?_
  refine q_callSv (ν := mX10_in) dX10_append_7 uw_997 vX10_in (c_X10_in hG S (((nI c : Int32).toInt64)) (0) (255)) rfl rfl (Nat.le_of_ble_eq_true rfl) (Nat.le_of_ble_eq_true rfl) (Nat.le_of_ble_eq_true rfl) 0 (Nat.le_of_ble_eq_true rfl) ?_
  refine wp_top (y := pI (0 ≤ (nI c) ∧ (nI c) ≤ 255)) (inI (l2 := 0) (u2 := 255) rfl rfl) ?_
  refine q_if_ne 17 dX10_append_10 rfl (fun c10 => ?_) (fun c10 => ?_)
  · refine q_aload_n dX10_append_17 rfl ?_
    refine q_get (j := 10) (v := .int ((z_SS S))) dX10_append_18 (Nat.le_of_ble_eq_true rfl) rfl rfl iuX10 (Nat.le_of_ble_eq_true rfl) uw_934 rfl rfl ?_
    refine wp_top (y := nI 60) h1 ?_
    refine q_bipush (v := 60) dX10_append_21 rfl ?_
    refine q_icmp_ne 30 dX10_append_23 rfl (fun c23 => ?_) (fun c23 => ?_)
    · have n23 := mt (nI_eq (a := 60) (b := 60) (by omega) (by omega)).mpr c23
      omega
    · have n23 := (nI_eq (a := 60) (b := 60) (by omega) (by omega)).mp c23
      refine q_iconst (v := 2) dX10_append_26 rfl ?_
      refine q_goto 31 dX10_append_27 rfl ?_
      refine q_callVv (ν := mX10_refused) dX10_append_31 uw_1000 vX10_refused (c_X10_refused hG S (2)) (Nat.le_of_ble_eq_true rfl) rfl rfl rfl rfl (Nat.le_of_ble_eq_true rfl) (Nat.le_of_ble_eq_true rfl) (Nat.le_of_ble_eq_true rfl) 0 (Nat.le_of_ble_eq_true rfl) ?_
      refine wp_w (w2 := mixW g (s_RF S (2))) rfl ?_
      refine wp_top (y := 1) (pI_t (by decide)) ?_
      refine q_if_eq 39 dX10_append_34 rfl (fun c34 => ?_) (fun c34 => ?_)
      · first | exact absurd (by decide) c34 | exact absurd c34 (by decide)
      · refine q_iconst (v := 0) dX10_append_37 rfl ?_
        exact q_iret dX10_append_38 rfl ⟨rfl, rfl⟩
  · exact absurd (rng_ok (lo := 0) (hi := 255) (by omega) (by omega) (by omega)) (pI_0 c10)
set_option maxRecDepth 100000 in
set_option maxHeartbeats 4000000 in
theorem c_X10_recovery {g : G0} (hG : Gd g) (S : SS) (c : Nat) (d : Nat) (N : Nat) (h1 : (z_NW S) 0 = nI N) (h2 : N ≤ 6) (h3 : c < N) (h4 : d < 2) : ctv g mX10_recovery [.ref 26, .int (nI c), .int (nI d)] (mixW g S) (.int ((z_NW S) (1 + 2 * c + d))) (mixW g (s_RF S (0))) := by
  refine ct_of hG [some (.ref 26), some (.int (nI c)), some (.int (nI d))] rfl rfl rfl (Nat.le_of_ble_eq_true rfl) (fun h => ?_) rfl
  refine q_aload_n dX10_recovery_0 rfl ?_
  refine q_aload_n dX10_recovery_1 rfl ?_
  refine q_iload_n dX10_recovery_2 rfl ?_
  refine q_callVv (ν := mX10_isCell) dX10_recovery_3 uw_1053 vX10_isCell (c_X10_isCell hG S ((nI c)) (N) h1 h2) (Nat.le_of_ble_eq_true rfl) rfl rfl rfl rfl (Nat.le_of_ble_eq_true rfl) (Nat.le_of_ble_eq_true rfl) (Nat.le_of_ble_eq_true rfl) 0 (Nat.le_of_ble_eq_true rfl) ?_
  refine q_if_eq 20 dX10_recovery_6 rfl (fun c6 => ?_) (fun c6 => ?_)
  · exact absurd (cel_ok h1 h2 (by omega)) (pI_0 c6)
  · refine q_iload_n dX10_recovery_9 rfl ?_
    refine q_callSv (ν := mX10_isBit) dX10_recovery_10 uw_1057 vX10_isBit (c_X10_isBit hG S ((nI d))) rfl rfl (Nat.le_of_ble_eq_true rfl) (Nat.le_of_ble_eq_true rfl) (Nat.le_of_ble_eq_true rfl) 0 (Nat.le_of_ble_eq_true rfl) ?_
    refine q_if_eq 20 dX10_recovery_13 rfl (fun c13 => ?_) (fun c13 => ?_)
    · exact absurd (two_ok (by omega)) (pI_0 c13)
    · refine q_iconst (v := 0) dX10_recovery_16 rfl ?_
      refine q_goto 21 dX10_recovery_17 rfl ?_
      refine q_callVv (ν := mX10_refused) dX10_recovery_21 uw_1000 vX10_refused (c_X10_refused hG S (0)) (Nat.le_of_ble_eq_true rfl) rfl rfl rfl rfl (Nat.le_of_ble_eq_true rfl) (Nat.le_of_ble_eq_true rfl) (Nat.le_of_ble_eq_true rfl) 0 (Nat.le_of_ble_eq_true rfl) ?_
      refine wp_w (w2 := mixW g (s_RF S (0))) rfl ?_
      refine wp_top (y := 0) (pI_f (by decide)) ?_
      refine q_if_eq 29 dX10_recovery_24 rfl (fun c24 => ?_) (fun c24 => ?_)
      · refine q_aload_n dX10_recovery_29 rfl ?_
        refine q_get (j := 1) (v := .ref 27) dX10_recovery_30 (Nat.le_of_ble_eq_true rfl) rfl rfl iuX10 (Nat.le_of_ble_eq_true rfl) uw_925 rfl rfl ?_
        refine q_iconst (v := 1) dX10_recovery_33 rfl ?_
        refine q_iconst (v := 2) dX10_recovery_34 rfl ?_
        refine q_iload_n dX10_recovery_35 rfl ?_
        refine q_imul dX10_recovery_36 ?_
        refine q_iadd dX10_recovery_37 ?_
        refine q_iload_n dX10_recovery_38 rfl ?_
        refine q_iadd dX10_recovery_39 ?_
        refine q_iald (f := (z_NW S)) dX10_recovery_40 (Nat.le_of_ble_eq_true rfl) rfl (((1 + (2 * c)) + d)) (by simp only [fa_lit, pk_mul, nI_add]) (by omega) (Nat.le_of_ble_eq_true rfl) ?_
        exact q_iret dX10_recovery_41 rfl ⟨rfl, rfl⟩
      · first | exact absurd (by decide) c24 | exact absurd c24 (by decide)
set_option maxRecDepth 100000 in
set_option maxHeartbeats 4000000 in
theorem c_X10_recovery_x {g : G0} (hG : Gd g) (S : SS) (x : Int32) (y : Int32) (N : Nat) (h1 : (z_NW S) 0 = nI N) (h2 : N ≤ 6) (h3 : ¬ ((0 ≤ x ∧ x < (z_NW S) 0) ∧ (y = 0 ∨ y = 1))) : ctv g mX10_recovery [.ref 26, .int x, .int y] (mixW g S) (.int (0)) (mixW g (s_RF S (1))) := by
  refine ct_of hG [some (.ref 26), some (.int (x)), some (.int (y))] rfl rfl rfl (Nat.le_of_ble_eq_true rfl) (fun h => ?_) rfl
  refine q_aload_n dX10_recovery_0 rfl ?_
  refine q_aload_n dX10_recovery_1 rfl ?_
  refine q_iload_n dX10_recovery_2 rfl ?_
  refine q_callVv (ν := mX10_isCell) dX10_recovery_3 uw_1053 vX10_isCell (c_X10_isCell hG S (x) (N) h1 h2) (Nat.le_of_ble_eq_true rfl) rfl rfl rfl rfl (Nat.le_of_ble_eq_true rfl) (Nat.le_of_ble_eq_true rfl) (Nat.le_of_ble_eq_true rfl) 0 (Nat.le_of_ble_eq_true rfl) ?_
  refine q_if_eq 20 dX10_recovery_6 rfl (fun c6 => ?_) (fun c6 => ?_)
  · refine q_iconst (v := 1) dX10_recovery_20 rfl ?_
    refine q_callVv (ν := mX10_refused) dX10_recovery_21 uw_1000 vX10_refused (c_X10_refused hG S (1)) (Nat.le_of_ble_eq_true rfl) rfl rfl rfl rfl (Nat.le_of_ble_eq_true rfl) (Nat.le_of_ble_eq_true rfl) (Nat.le_of_ble_eq_true rfl) 0 (Nat.le_of_ble_eq_true rfl) ?_
    refine wp_w (w2 := mixW g (s_RF S (1))) rfl ?_
    refine wp_top (y := 1) (pI_t (by decide)) ?_
    refine q_if_eq 29 dX10_recovery_24 rfl (fun c24 => ?_) (fun c24 => ?_)
    · first | exact absurd (by decide) c24 | exact absurd c24 (by decide)
    · refine q_iconst (v := 0) dX10_recovery_27 rfl ?_
      exact q_iret dX10_recovery_28 rfl ⟨rfl, rfl⟩
  · refine q_iload_n dX10_recovery_9 rfl ?_
    refine q_callSv (ν := mX10_isBit) dX10_recovery_10 uw_1057 vX10_isBit (c_X10_isBit hG S (y)) rfl rfl (Nat.le_of_ble_eq_true rfl) (Nat.le_of_ble_eq_true rfl) (Nat.le_of_ble_eq_true rfl) 0 (Nat.le_of_ble_eq_true rfl) ?_
    refine q_if_eq 20 dX10_recovery_13 rfl (fun c13 => ?_) (fun c13 => ?_)
    · refine q_iconst (v := 1) dX10_recovery_20 rfl ?_
      refine q_callVv (ν := mX10_refused) dX10_recovery_21 uw_1000 vX10_refused (c_X10_refused hG S (1)) (Nat.le_of_ble_eq_true rfl) rfl rfl rfl rfl (Nat.le_of_ble_eq_true rfl) (Nat.le_of_ble_eq_true rfl) (Nat.le_of_ble_eq_true rfl) 0 (Nat.le_of_ble_eq_true rfl) ?_
      refine wp_w (w2 := mixW g (s_RF S (1))) rfl ?_
      refine wp_top (y := 1) (pI_t (by decide)) ?_
      refine q_if_eq 29 dX10_recovery_24 rfl (fun c24 => ?_) (fun c24 => ?_)
      · first | exact absurd (by decide) c24 | exact absurd c24 (by decide)
      · refine q_iconst (v := 0) dX10_recovery_27 rfl ?_
        exact q_iret dX10_recovery_28 rfl ⟨rfl, rfl⟩
    · exact absurd ⟨pI_1 c6, pI_1 c13⟩ h3
set_option maxRecDepth 100000 in
set_option maxHeartbeats 4000000 in
theorem c_X10_destination {g : G0} (hG : Gd g) (S : SS) (c : Nat) (d : Nat) (N : Nat) (h1 : (z_NW S) 0 = nI N) (h2 : N ≤ 6) (h3 : c < N) (h4 : d < 2) : ctv g mX10_destination [.ref 26, .int (nI c), .int (nI d)] (mixW g S) (.int ((z_NW S) (13 + 2 * c + d))) (mixW g (s_RF S (0))) := by
  refine ct_of hG [some (.ref 26), some (.int (nI c)), some (.int (nI d))] rfl rfl rfl (Nat.le_of_ble_eq_true rfl) (fun h => ?_) rfl
  refine q_aload_n dX10_destination_0 rfl ?_
  refine q_aload_n dX10_destination_1 rfl ?_
  refine q_iload_n dX10_destination_2 rfl ?_
  refine q_callVv (ν := mX10_isCell) dX10_destination_3 uw_1053 vX10_isCell (c_X10_isCell hG S ((nI c)) (N) h1 h2) (Nat.le_of_ble_eq_true rfl) rfl rfl rfl rfl (Nat.le_of_ble_eq_true rfl) (Nat.le_of_ble_eq_true rfl) (Nat.le_of_ble_eq_true rfl) 0 (Nat.le_of_ble_eq_true rfl) ?_
  refine q_if_eq 20 dX10_destination_6 rfl (fun c6 => ?_) (fun c6 => ?_)
  · exact absurd (cel_ok h1 h2 (by omega)) (pI_0 c6)
  · refine q_iload_n dX10_destination_9 rfl ?_
    refine q_callSv (ν := mX10_isBit) dX10_destination_10 uw_1057 vX10_isBit (c_X10_isBit hG S ((nI d))) rfl rfl (Nat.le_of_ble_eq_true rfl) (Nat.le_of_ble_eq_true rfl) (Nat.le_of_ble_eq_true rfl) 0 (Nat.le_of_ble_eq_true rfl) ?_
    refine q_if_eq 20 dX10_destination_13 rfl (fun c13 => ?_) (fun c13 => ?_)
    · exact absurd (two_ok (by omega)) (pI_0 c13)
    · refine q_iconst (v := 0) dX10_destination_16 rfl ?_
      refine q_goto 21 dX10_destination_17 rfl ?_
      refine q_callVv (ν := mX10_refused) dX10_destination_21 uw_1000 vX10_refused (c_X10_refused hG S (0)) (Nat.le_of_ble_eq_true rfl) rfl rfl rfl rfl (Nat.le_of_ble_eq_true rfl) (Nat.le_of_ble_eq_true rfl) (Nat.le_of_ble_eq_true rfl) 0 (Nat.le_of_ble_eq_true rfl) ?_
      refine wp_w (w2 := mixW g (s_RF S (0))) rfl ?_
      refine wp_top (y := 0) (pI_f (by decide)) ?_
      refine q_if_eq 29 dX10_destination_24 rfl (fun c24 => ?_) (fun c24 => ?_)
      · refine q_aload_n dX10_destination_29 rfl ?_
        refine q_get (j := 1) (v := .ref 27) dX10_destination_30 (Nat.le_of_ble_eq_true rfl) rfl rfl iuX10 (Nat.le_of_ble_eq_true rfl) uw_925 rfl rfl ?_
        refine q_bipush (v := 13) dX10_destination_33 rfl ?_
        refine q_iconst (v := 2) dX10_destination_35 rfl ?_
        refine q_iload_n dX10_destination_36 rfl ?_
        refine q_imul dX10_destination_37 ?_
        refine q_iadd dX10_destination_38 ?_
        refine q_iload_n dX10_destination_39 rfl ?_
        refine q_iadd dX10_destination_40 ?_
        refine q_iald (f := (z_NW S)) dX10_destination_41 (Nat.le_of_ble_eq_true rfl) rfl (((13 + (2 * c)) + d)) (by simp only [fa_lit, pk_mul, nI_add]) (by omega) (Nat.le_of_ble_eq_true rfl) ?_
        exact q_iret dX10_destination_42 rfl ⟨rfl, rfl⟩
      · first | exact absurd (by decide) c24 | exact absurd c24 (by decide)
set_option maxRecDepth 100000 in
set_option maxHeartbeats 4000000 in
theorem c_X10_destination_x {g : G0} (hG : Gd g) (S : SS) (x : Int32) (y : Int32) (N : Nat) (h1 : (z_NW S) 0 = nI N) (h2 : N ≤ 6) (h3 : ¬ ((0 ≤ x ∧ x < (z_NW S) 0) ∧ (y = 0 ∨ y = 1))) : ctv g mX10_destination [.ref 26, .int x, .int y] (mixW g S) (.int (0)) (mixW g (s_RF S (1))) := by
  refine ct_of hG [some (.ref 26), some (.int (x)), some (.int (y))] rfl rfl rfl (Nat.le_of_ble_eq_true rfl) (fun h => ?_) rfl
  refine q_aload_n dX10_destination_0 rfl ?_
  refine q_aload_n dX10_destination_1 rfl ?_
  refine q_iload_n dX10_destination_2 rfl ?_
  refine q_callVv (ν := mX10_isCell) dX10_destination_3 uw_1053 vX10_isCell (c_X10_isCell hG S (x) (N) h1 h2) (Nat.le_of_ble_eq_true rfl) rfl rfl rfl rfl (Nat.le_of_ble_eq_true rfl) (Nat.le_of_ble_eq_true rfl) (Nat.le_of_ble_eq_true rfl) 0 (Nat.le_of_ble_eq_true rfl) ?_
  refine q_if_eq 20 dX10_destination_6 rfl (fun c6 => ?_) (fun c6 => ?_)
  · refine q_iconst (v := 1) dX10_destination_20 rfl ?_
    refine q_callVv (ν := mX10_refused) dX10_destination_21 uw_1000 vX10_refused (c_X10_refused hG S (1)) (Nat.le_of_ble_eq_true rfl) rfl rfl rfl rfl (Nat.le_of_ble_eq_true rfl) (Nat.le_of_ble_eq_true rfl) (Nat.le_of_ble_eq_true rfl) 0 (Nat.le_of_ble_eq_true rfl) ?_
    refine wp_w (w2 := mixW g (s_RF S (1))) rfl ?_
    refine wp_top (y := 1) (pI_t (by decide)) ?_
    refine q_if_eq 29 dX10_destination_24 rfl (fun c24 => ?_) (fun c24 => ?_)
    · first | exact absurd (by decide) c24 | exact absurd c24 (by decide)
    · refine q_iconst (v := 0) dX10_destination_27 rfl ?_
      exact q_iret dX10_destination_28 rfl ⟨rfl, rfl⟩
  · refine q_iload_n dX10_destination_9 rfl ?_
    refine q_callSv (ν := mX10_isBit) dX10_destination_10 uw_1057 vX10_isBit (c_X10_isBit hG S (y)) rfl rfl (Nat.le_of_ble_eq_true rfl) (Nat.le_of_ble_eq_true rfl) (Nat.le_of_ble_eq_true rfl) 0 (Nat.le_of_ble_eq_true rfl) ?_
    refine q_if_eq 20 dX10_destination_13 rfl (fun c13 => ?_) (fun c13 => ?_)
    · refine q_iconst (v := 1) dX10_destination_20 rfl ?_
      refine q_callVv (ν := mX10_refused) dX10_destination_21 uw_1000 vX10_refused (c_X10_refused hG S (1)) (Nat.le_of_ble_eq_true rfl) rfl rfl rfl rfl (Nat.le_of_ble_eq_true rfl) (Nat.le_of_ble_eq_true rfl) (Nat.le_of_ble_eq_true rfl) 0 (Nat.le_of_ble_eq_true rfl) ?_
      refine wp_w (w2 := mixW g (s_RF S (1))) rfl ?_
      refine wp_top (y := 1) (pI_t (by decide)) ?_
      refine q_if_eq 29 dX10_destination_24 rfl (fun c24 => ?_) (fun c24 => ?_)
      · first | exact absurd (by decide) c24 | exact absurd c24 (by decide)
      · refine q_iconst (v := 0) dX10_destination_27 rfl ?_
        exact q_iret dX10_destination_28 rfl ⟨rfl, rfl⟩
    · exact absurd ⟨pI_1 c6, pI_1 c13⟩ h3
set_option maxRecDepth 100000 in
set_option maxHeartbeats 4000000 in
theorem c_X10_content {g : G0} (hG : Gd g) (S : SS) (c : Nat) (d : Nat) (N : Nat) (h1 : (z_NW S) 0 = nI N) (h2 : N ≤ 6) (h3 : c < N) (h4 : d < 2) : ctv g mX10_content [.ref 26, .int (nI c), .int (nI d)] (mixW g S) (.int ((z_NW S) (28 + 2 * c + d))) (mixW g (s_RF S (0))) := by
  refine ct_of hG [some (.ref 26), some (.int (nI c)), some (.int (nI d))] rfl rfl rfl (Nat.le_of_ble_eq_true rfl) (fun h => ?_) rfl
  refine q_aload_n dX10_content_0 rfl ?_
  refine q_aload_n dX10_content_1 rfl ?_
  refine q_iload_n dX10_content_2 rfl ?_
  refine q_callVv (ν := mX10_isCell) dX10_content_3 uw_1053 vX10_isCell (c_X10_isCell hG S ((nI c)) (N) h1 h2) (Nat.le_of_ble_eq_true rfl) rfl rfl rfl rfl (Nat.le_of_ble_eq_true rfl) (Nat.le_of_ble_eq_true rfl) (Nat.le_of_ble_eq_true rfl) 0 (Nat.le_of_ble_eq_true rfl) ?_
  refine q_if_eq 20 dX10_content_6 rfl (fun c6 => ?_) (fun c6 => ?_)
  · exact absurd (cel_ok h1 h2 (by omega)) (pI_0 c6)
  · refine q_iload_n dX10_content_9 rfl ?_
    refine q_callSv (ν := mX10_isBit) dX10_content_10 uw_1057 vX10_isBit (c_X10_isBit hG S ((nI d))) rfl rfl (Nat.le_of_ble_eq_true rfl) (Nat.le_of_ble_eq_true rfl) (Nat.le_of_ble_eq_true rfl) 0 (Nat.le_of_ble_eq_true rfl) ?_
    refine q_if_eq 20 dX10_content_13 rfl (fun c13 => ?_) (fun c13 => ?_)
    · exact absurd (two_ok (by omega)) (pI_0 c13)
    · refine q_iconst (v := 0) dX10_content_16 rfl ?_
      refine q_goto 21 dX10_content_17 rfl ?_
      refine q_callVv (ν := mX10_refused) dX10_content_21 uw_1000 vX10_refused (c_X10_refused hG S (0)) (Nat.le_of_ble_eq_true rfl) rfl rfl rfl rfl (Nat.le_of_ble_eq_true rfl) (Nat.le_of_ble_eq_true rfl) (Nat.le_of_ble_eq_true rfl) 0 (Nat.le_of_ble_eq_true rfl) ?_
      refine wp_w (w2 := mixW g (s_RF S (0))) rfl ?_
      refine wp_top (y := 0) (pI_f (by decide)) ?_
      refine q_if_eq 29 dX10_content_24 rfl (fun c24 => ?_) (fun c24 => ?_)
      · refine q_aload_n dX10_content_29 rfl ?_
        refine q_get (j := 1) (v := .ref 27) dX10_content_30 (Nat.le_of_ble_eq_true rfl) rfl rfl iuX10 (Nat.le_of_ble_eq_true rfl) uw_925 rfl rfl ?_
        refine q_bipush (v := 28) dX10_content_33 rfl ?_
        refine q_iconst (v := 2) dX10_content_35 rfl ?_
        refine q_iload_n dX10_content_36 rfl ?_
        refine q_imul dX10_content_37 ?_
        refine q_iadd dX10_content_38 ?_
        refine q_iload_n dX10_content_39 rfl ?_
        refine q_iadd dX10_content_40 ?_
        refine q_iald (f := (z_NW S)) dX10_content_41 (Nat.le_of_ble_eq_true rfl) rfl (((28 + (2 * c)) + d)) (by simp only [fa_lit, pk_mul, nI_add]) (by omega) (Nat.le_of_ble_eq_true rfl) ?_
        exact q_iret dX10_content_42 rfl ⟨rfl, rfl⟩
      · first | exact absurd (by decide) c24 | exact absurd c24 (by decide)
set_option maxRecDepth 100000 in
set_option maxHeartbeats 4000000 in
theorem c_X10_content_x {g : G0} (hG : Gd g) (S : SS) (x : Int32) (y : Int32) (N : Nat) (h1 : (z_NW S) 0 = nI N) (h2 : N ≤ 6) (h3 : ¬ ((0 ≤ x ∧ x < (z_NW S) 0) ∧ (y = 0 ∨ y = 1))) : ctv g mX10_content [.ref 26, .int x, .int y] (mixW g S) (.int (0)) (mixW g (s_RF S (1))) := by
  refine ct_of hG [some (.ref 26), some (.int (x)), some (.int (y))] rfl rfl rfl (Nat.le_of_ble_eq_true rfl) (fun h => ?_) rfl
  refine q_aload_n dX10_content_0 rfl ?_
  refine q_aload_n dX10_content_1 rfl ?_
  refine q_iload_n dX10_content_2 rfl ?_
  refine q_callVv (ν := mX10_isCell) dX10_content_3 uw_1053 vX10_isCell (c_X10_isCell hG S (x) (N) h1 h2) (Nat.le_of_ble_eq_true rfl) rfl rfl rfl rfl (Nat.le_of_ble_eq_true rfl) (Nat.le_of_ble_eq_true rfl) (Nat.le_of_ble_eq_true rfl) 0 (Nat.le_of_ble_eq_true rfl) ?_
  refine q_if_eq 20 dX10_content_6 rfl (fun c6 => ?_) (fun c6 => ?_)
  · refine q_iconst (v := 1) dX10_content_20 rfl ?_
    refine q_callVv (ν := mX10_refused) dX10_content_21 uw_1000 vX10_refused (c_X10_refused hG S (1)) (Nat.le_of_ble_eq_true rfl) rfl rfl rfl rfl (Nat.le_of_ble_eq_true rfl) (Nat.le_of_ble_eq_true rfl) (Nat.le_of_ble_eq_true rfl) 0 (Nat.le_of_ble_eq_true rfl) ?_
    refine wp_w (w2 := mixW g (s_RF S (1))) rfl ?_
    refine wp_top (y := 1) (pI_t (by decide)) ?_
    refine q_if_eq 29 dX10_content_24 rfl (fun c24 => ?_) (fun c24 => ?_)
    · first | exact absurd (by decide) c24 | exact absurd c24 (by decide)
    · refine q_iconst (v := 0) dX10_content_27 rfl ?_
      exact q_iret dX10_content_28 rfl ⟨rfl, rfl⟩
  · refine q_iload_n dX10_content_9 rfl ?_
    refine q_callSv (ν := mX10_isBit) dX10_content_10 uw_1057 vX10_isBit (c_X10_isBit hG S (y)) rfl rfl (Nat.le_of_ble_eq_true rfl) (Nat.le_of_ble_eq_true rfl) (Nat.le_of_ble_eq_true rfl) 0 (Nat.le_of_ble_eq_true rfl) ?_
    refine q_if_eq 20 dX10_content_13 rfl (fun c13 => ?_) (fun c13 => ?_)
    · refine q_iconst (v := 1) dX10_content_20 rfl ?_
      refine q_callVv (ν := mX10_refused) dX10_content_21 uw_1000 vX10_refused (c_X10_refused hG S (1)) (Nat.le_of_ble_eq_true rfl) rfl rfl rfl rfl (Nat.le_of_ble_eq_true rfl) (Nat.le_of_ble_eq_true rfl) (Nat.le_of_ble_eq_true rfl) 0 (Nat.le_of_ble_eq_true rfl) ?_
      refine wp_w (w2 := mixW g (s_RF S (1))) rfl ?_
      refine wp_top (y := 1) (pI_t (by decide)) ?_
      refine q_if_eq 29 dX10_content_24 rfl (fun c24 => ?_) (fun c24 => ?_)
      · first | exact absurd (by decide) c24 | exact absurd c24 (by decide)
      · refine q_iconst (v := 0) dX10_content_27 rfl ?_
        exact q_iret dX10_content_28 rfl ⟨rfl, rfl⟩
    · exact absurd ⟨pI_1 c6, pI_1 c13⟩ h3
set_option maxRecDepth 100000 in
set_option maxHeartbeats 4000000 in
theorem c_X10_feedAmount {g : G0} (hG : Gd g) (S : SS) (d : Nat)  (h1 : d < 2) : ctv g mX10_feedAmount [.ref 26, .int (nI d)] (mixW g S) (.int ((z_NW S) (26 + d))) (mixW g (s_RF S (0))) := by
  refine ct_of hG [some (.ref 26), some (.int (nI d))] rfl rfl rfl (Nat.le_of_ble_eq_true rfl) (fun h => ?_) rfl
  refine q_aload_n dX10_feedAmount_0 rfl ?_
  refine q_iload_n dX10_feedAmount_1 rfl ?_
  refine q_callSv (ν := mX10_isBit) dX10_feedAmount_2 uw_1057 vX10_isBit (c_X10_isBit hG S ((nI d))) rfl rfl (Nat.le_of_ble_eq_true rfl) (Nat.le_of_ble_eq_true rfl) (Nat.le_of_ble_eq_true rfl) 0 (Nat.le_of_ble_eq_true rfl) ?_
  refine q_if_eq 12 dX10_feedAmount_5 rfl (fun c5 => ?_) (fun c5 => ?_)
  · exact absurd (two_ok (by omega)) (pI_0 c5)
  · refine q_iconst (v := 0) dX10_feedAmount_8 rfl ?_
    refine q_goto 13 dX10_feedAmount_9 rfl ?_
    refine q_callVv (ν := mX10_refused) dX10_feedAmount_13 uw_1000 vX10_refused (c_X10_refused hG S (0)) (Nat.le_of_ble_eq_true rfl) rfl rfl rfl rfl (Nat.le_of_ble_eq_true rfl) (Nat.le_of_ble_eq_true rfl) (Nat.le_of_ble_eq_true rfl) 0 (Nat.le_of_ble_eq_true rfl) ?_
    refine wp_w (w2 := mixW g (s_RF S (0))) rfl ?_
    refine wp_top (y := 0) (pI_f (by decide)) ?_
    refine q_if_eq 21 dX10_feedAmount_16 rfl (fun c16 => ?_) (fun c16 => ?_)
    · refine q_aload_n dX10_feedAmount_21 rfl ?_
      refine q_get (j := 1) (v := .ref 27) dX10_feedAmount_22 (Nat.le_of_ble_eq_true rfl) rfl rfl iuX10 (Nat.le_of_ble_eq_true rfl) uw_925 rfl rfl ?_
      refine q_bipush (v := 26) dX10_feedAmount_25 rfl ?_
      refine q_iload_n dX10_feedAmount_27 rfl ?_
      refine q_iadd dX10_feedAmount_28 ?_
      refine q_iald (f := (z_NW S)) dX10_feedAmount_29 (Nat.le_of_ble_eq_true rfl) rfl ((26 + d)) (by simp only [fa_lit, pk_mul, nI_add]) (by omega) (Nat.le_of_ble_eq_true rfl) ?_
      exact q_iret dX10_feedAmount_30 rfl ⟨rfl, rfl⟩
    · first | exact absurd (by decide) c16 | exact absurd c16 (by decide)
set_option maxRecDepth 100000 in
set_option maxHeartbeats 4000000 in
theorem c_X10_feedAmount_x {g : G0} (hG : Gd g) (S : SS) (y : Int32)  (h1 : ¬ (y = 0 ∨ y = 1)) : ctv g mX10_feedAmount [.ref 26, .int y] (mixW g S) (.int (0)) (mixW g (s_RF S (1))) := by
  refine ct_of hG [some (.ref 26), some (.int (y))] rfl rfl rfl (Nat.le_of_ble_eq_true rfl) (fun h => ?_) rfl
  refine q_aload_n dX10_feedAmount_0 rfl ?_
  refine q_iload_n dX10_feedAmount_1 rfl ?_
  refine q_callSv (ν := mX10_isBit) dX10_feedAmount_2 uw_1057 vX10_isBit (c_X10_isBit hG S (y)) rfl rfl (Nat.le_of_ble_eq_true rfl) (Nat.le_of_ble_eq_true rfl) (Nat.le_of_ble_eq_true rfl) 0 (Nat.le_of_ble_eq_true rfl) ?_
  refine q_if_eq 12 dX10_feedAmount_5 rfl (fun c5 => ?_) (fun c5 => ?_)
  · refine q_iconst (v := 1) dX10_feedAmount_12 rfl ?_
    refine q_callVv (ν := mX10_refused) dX10_feedAmount_13 uw_1000 vX10_refused (c_X10_refused hG S (1)) (Nat.le_of_ble_eq_true rfl) rfl rfl rfl rfl (Nat.le_of_ble_eq_true rfl) (Nat.le_of_ble_eq_true rfl) (Nat.le_of_ble_eq_true rfl) 0 (Nat.le_of_ble_eq_true rfl) ?_
    refine wp_w (w2 := mixW g (s_RF S (1))) rfl ?_
    refine wp_top (y := 1) (pI_t (by decide)) ?_
    refine q_if_eq 21 dX10_feedAmount_16 rfl (fun c16 => ?_) (fun c16 => ?_)
    · first | exact absurd (by decide) c16 | exact absurd c16 (by decide)
    · refine q_iconst (v := 0) dX10_feedAmount_19 rfl ?_
      exact q_iret dX10_feedAmount_20 rfl ⟨rfl, rfl⟩
  · exact absurd (pI_1 c5) h1
theorem prd_iff (x : Int32) : (8 ≤ x ∧ x ≤ 9) ↔ (x = 8 ∨ x = 9) := by
  rw [fa_le, fa_le, fa_eq, fa_eq, show (8 : Int32).toInt = 8 from rfl, show (9 : Int32).toInt = 9 from rfl]
  omega
set_option maxRecDepth 100000 in
set_option maxHeartbeats 4000000 in
theorem c_X10_amount {g : G0} (hG : Gd g) (S : SS) (p : Nat) (d : Nat)  (h1 : p = 8 ∨ p = 9) (h2 : d < 2) : ctv g mX10_amount [.ref 26, .int (nI p), .int (nI d)] (mixW g S) (.int ((z_NW S) (40 + 2 * (p - 8) + d))) (mixW g (s_RF S (0))) := by
  refine ct_of hG [some (.ref 26), some (.int (nI p)), some (.int (nI d))] rfl rfl rfl (Nat.le_of_ble_eq_true rfl) (fun h => ?_) rfl
  refine q_aload_n dX10_amount_0 rfl ?_
  refine q_iload_n dX10_amount_1 rfl ?_
  refine q_i2l dX10_amount_2 ?_
  refine q_ldc2 dX10_amount_3 uw_1028 ?_
  refine q_ldc2 dX10_amount_6 uw_1029 ?_
  refine q_callSv (ν := mX10_in) dX10_amount_9 uw_997 vX10_in (c_X10_in hG S (((nI p : Int32).toInt64)) (8) (9)) rfl rfl (Nat.le_of_ble_eq_true rfl) (Nat.le_of_ble_eq_true rfl) (Nat.le_of_ble_eq_true rfl) 0 (Nat.le_of_ble_eq_true rfl) ?_
  refine wp_top (y := pI (8 ≤ (nI p) ∧ (nI p) ≤ 9)) (inI (l2 := 8) (u2 := 9) rfl rfl) ?_
  refine q_if_eq 26 dX10_amount_12 rfl (fun c12 => ?_) (fun c12 => ?_)
  · exact absurd (rng_ok (v := p) (lo := 8) (hi := 9) (by omega) (by omega) (by omega)) (pI_0 c12)
  · refine q_iload_n dX10_amount_15 rfl ?_
    refine q_callSv (ν := mX10_isBit) dX10_amount_16 uw_1057 vX10_isBit (c_X10_isBit hG S ((nI d))) rfl rfl (Nat.le_of_ble_eq_true rfl) (Nat.le_of_ble_eq_true rfl) (Nat.le_of_ble_eq_true rfl) 0 (Nat.le_of_ble_eq_true rfl) ?_
    refine q_if_eq 26 dX10_amount_19 rfl (fun c19 => ?_) (fun c19 => ?_)
    · exact absurd (two_ok (by omega)) (pI_0 c19)
    · refine q_iconst (v := 0) dX10_amount_22 rfl ?_
      refine q_goto 27 dX10_amount_23 rfl ?_
      refine q_callVv (ν := mX10_refused) dX10_amount_27 uw_1000 vX10_refused (c_X10_refused hG S (0)) (Nat.le_of_ble_eq_true rfl) rfl rfl rfl rfl (Nat.le_of_ble_eq_true rfl) (Nat.le_of_ble_eq_true rfl) (Nat.le_of_ble_eq_true rfl) 0 (Nat.le_of_ble_eq_true rfl) ?_
      refine wp_w (w2 := mixW g (s_RF S (0))) rfl ?_
      refine wp_top (y := 0) (pI_f (by decide)) ?_
      refine q_if_eq 35 dX10_amount_30 rfl (fun c30 => ?_) (fun c30 => ?_)
      · refine q_aload_n dX10_amount_35 rfl ?_
        refine q_get (j := 1) (v := .ref 27) dX10_amount_36 (Nat.le_of_ble_eq_true rfl) rfl rfl iuX10 (Nat.le_of_ble_eq_true rfl) uw_925 rfl rfl ?_
        refine q_bipush (v := 40) dX10_amount_39 rfl ?_
        refine q_iconst (v := 2) dX10_amount_41 rfl ?_
        refine q_iload_n dX10_amount_42 rfl ?_
        refine q_bipush (v := 8) dX10_amount_43 rfl ?_
        refine q_isub dX10_amount_45 ?_
        refine wp_top (y := nI (p - 8)) (pk_sub (a := p) (b := 8) (by omega)) ?_
        refine q_imul dX10_amount_46 ?_
        refine q_iadd dX10_amount_47 ?_
        refine q_iload_n dX10_amount_48 rfl ?_
        refine q_iadd dX10_amount_49 ?_
        refine q_iald (f := (z_NW S)) dX10_amount_50 (Nat.le_of_ble_eq_true rfl) rfl (((40 + (2 * (p - 8))) + d)) (by simp only [fa_lit, pk_mul, nI_add]) (by omega) (Nat.le_of_ble_eq_true rfl) ?_
        exact q_iret dX10_amount_51 rfl ⟨rfl, rfl⟩
      · first | exact absurd (by decide) c30 | exact absurd c30 (by decide)
set_option maxRecDepth 100000 in
set_option maxHeartbeats 4000000 in
theorem c_X10_amount_x {g : G0} (hG : Gd g) (S : SS) (x : Int32) (y : Int32)  (h1 : ¬ ((x = 8 ∨ x = 9) ∧ (y = 0 ∨ y = 1))) : ctv g mX10_amount [.ref 26, .int x, .int y] (mixW g S) (.int (0)) (mixW g (s_RF S (1))) := by
  refine ct_of hG [some (.ref 26), some (.int (x)), some (.int (y))] rfl rfl rfl (Nat.le_of_ble_eq_true rfl) (fun h => ?_) rfl
  refine q_aload_n dX10_amount_0 rfl ?_
  refine q_iload_n dX10_amount_1 rfl ?_
  refine q_i2l dX10_amount_2 ?_
  refine q_ldc2 dX10_amount_3 uw_1028 ?_
  refine q_ldc2 dX10_amount_6 uw_1029 ?_
  refine q_callSv (ν := mX10_in) dX10_amount_9 uw_997 vX10_in (c_X10_in hG S (((x : Int32).toInt64)) (8) (9)) rfl rfl (Nat.le_of_ble_eq_true rfl) (Nat.le_of_ble_eq_true rfl) (Nat.le_of_ble_eq_true rfl) 0 (Nat.le_of_ble_eq_true rfl) ?_
  refine wp_top (y := pI (8 ≤ x ∧ x ≤ 9)) (inI (l2 := 8) (u2 := 9) rfl rfl) ?_
  refine q_if_eq 26 dX10_amount_12 rfl (fun c12 => ?_) (fun c12 => ?_)
  · refine q_iconst (v := 1) dX10_amount_26 rfl ?_
    refine q_callVv (ν := mX10_refused) dX10_amount_27 uw_1000 vX10_refused (c_X10_refused hG S (1)) (Nat.le_of_ble_eq_true rfl) rfl rfl rfl rfl (Nat.le_of_ble_eq_true rfl) (Nat.le_of_ble_eq_true rfl) (Nat.le_of_ble_eq_true rfl) 0 (Nat.le_of_ble_eq_true rfl) ?_
    refine wp_w (w2 := mixW g (s_RF S (1))) rfl ?_
    refine wp_top (y := 1) (pI_t (by decide)) ?_
    refine q_if_eq 35 dX10_amount_30 rfl (fun c30 => ?_) (fun c30 => ?_)
    · first | exact absurd (by decide) c30 | exact absurd c30 (by decide)
    · refine q_iconst (v := 0) dX10_amount_33 rfl ?_
      exact q_iret dX10_amount_34 rfl ⟨rfl, rfl⟩
  · refine q_iload_n dX10_amount_15 rfl ?_
    refine q_callSv (ν := mX10_isBit) dX10_amount_16 uw_1057 vX10_isBit (c_X10_isBit hG S (y)) rfl rfl (Nat.le_of_ble_eq_true rfl) (Nat.le_of_ble_eq_true rfl) (Nat.le_of_ble_eq_true rfl) 0 (Nat.le_of_ble_eq_true rfl) ?_
    refine q_if_eq 26 dX10_amount_19 rfl (fun c19 => ?_) (fun c19 => ?_)
    · refine q_iconst (v := 1) dX10_amount_26 rfl ?_
      refine q_callVv (ν := mX10_refused) dX10_amount_27 uw_1000 vX10_refused (c_X10_refused hG S (1)) (Nat.le_of_ble_eq_true rfl) rfl rfl rfl rfl (Nat.le_of_ble_eq_true rfl) (Nat.le_of_ble_eq_true rfl) (Nat.le_of_ble_eq_true rfl) 0 (Nat.le_of_ble_eq_true rfl) ?_
      refine wp_w (w2 := mixW g (s_RF S (1))) rfl ?_
      refine wp_top (y := 1) (pI_t (by decide)) ?_
      refine q_if_eq 35 dX10_amount_30 rfl (fun c30 => ?_) (fun c30 => ?_)
      · first | exact absurd (by decide) c30 | exact absurd c30 (by decide)
      · refine q_iconst (v := 0) dX10_amount_33 rfl ?_
        exact q_iret dX10_amount_34 rfl ⟨rfl, rfl⟩
    · exact absurd ⟨(prd_iff x).mp (pI_1 c12), pI_1 c19⟩ h1
