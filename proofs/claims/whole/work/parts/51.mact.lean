def pushM (f : Nat → Int32) (n : Nat) (a b c d : Int32) : Nat → Int32 := upd (upd (upd (upd (upd f (1 + 2 * n) a) (1 + 2 * n + 1) b) (13 + 2 * n) c) (13 + 2 * n + 1) d) 0 (nI n + 1)
def popM (f : Nat → Int32) (c : Nat) : Nat → Int32 := upd (upd (upd (upd (upd (upd (upd f 0 (nI c)) (1 + 2 * c + 0) 0) (13 + 2 * c + 0) 0) (28 + 2 * c + 0) 0) (1 + 2 * c + 1) 0) (13 + 2 * c + 1) 0) (28 + 2 * c + 1) 0
def smM (f : Nat → Int32) : Nat → Int32
  | 0 => 0
  | i + 1 => smM f i + f (28 + i)
theorem zer_at (f : Nat → Int32) (i : Nat) : zerF f i i = f i := by simp only [zerF]; rw [if_neg (by omega)]
def shF (w : Nat → Int32) (i : Nat) : Nat → Int32 := fun j => if j < i then w (j + 1) else w j
theorem sh_0 (w : Nat → Int32) : shF w 0 = w := by funext j; simp [shF]
theorem sh_up (w : Nat → Int32) (i : Nat) : upd (shF w i) i (shF w i (i + 1)) = shF w (i + 1) := by
  funext j
  simp only [upd, shF]
  by_cases h : j = i
  · subst h
    rw [if_pos rfl, if_neg (by omega), if_pos (by omega)]
  · rw [if_neg h]
    by_cases h2 : j < i
    · rw [if_pos h2, if_pos (by omega)]
    · rw [if_neg h2, if_neg (by omega)]
set_option maxRecDepth 100000 in
set_option maxHeartbeats 4000000 in
theorem c_X10_addCell {g : G0} (hG : Gd g) (S : SS) (a : Nat) (b : Nat) (x : Nat) (y : Nat) (N : Nat) (p : Nat) (q : Nat) (h1 : (z_NW S) 0 = nI N) (h2 : N ≤ 6) (h3 : (z_NX S) = nI p) (h4 : p < 14) (h5 : (z_AC S) = nI q) (h6 : q ≤ 14) (h7 : a ≤ 100) (h8 : b ≤ 100) (h9 : desOk x) (h10 : desOk y) (h11 : N < 6) : ctv g mX10_addCell [.ref 26, .int (nI a), .int (nI b), .int (nI x), .int (nI y)] (mixW g S) (.int (nI N)) (mixW g (s_RF (s_AC (s_NX (s_NW (s_DI S (va_cpy (z_NW S) (z_DI S) 0 (p * 44) 44)) (pushM (z_NW S) N (nI a) (nI b) (nI x) (nI y))) (nI ((p + 1) % 14))) (nI (min (q + 1) 14))) (0))) := by
  refine ct_of hG [some (.ref 26), some (.int (nI a)), some (.int (nI b)), some (.int (nI x)), some (.int (nI y)), none, none] rfl rfl rfl (Nat.le_of_ble_eq_true rfl) (fun h => ?_) rfl
  refine q_iload_n dX10_addCell_0 rfl ?_
  refine q_i2l dX10_addCell_1 ?_
  refine q_lconst (v := 0) dX10_addCell_2 rfl ?_
  refine q_ldc2 dX10_addCell_3 uw_1076 ?_
  refine q_callSv (ν := mX10_in) dX10_addCell_6 uw_997 vX10_in (c_X10_in hG S (((nI a : Int32).toInt64)) (0) (100)) rfl rfl (Nat.le_of_ble_eq_true rfl) (Nat.le_of_ble_eq_true rfl) (Nat.le_of_ble_eq_true rfl) 0 (Nat.le_of_ble_eq_true rfl) ?_
  refine wp_top (y := pI (0 ≤ (nI a) ∧ (nI a) ≤ 100)) (inI (l2 := 0) (u2 := 100) rfl rfl) ?_
  refine q_if_eq 43 dX10_addCell_9 rfl (fun c9 => ?_) (fun c9 => ?_)
  · exact absurd (rng_ok (lo := 0) (hi := 100) (by omega) (by omega) (by omega)) (pI_0 c9)
  · refine q_iload_n dX10_addCell_12 rfl ?_
    refine q_i2l dX10_addCell_13 ?_
    refine q_lconst (v := 0) dX10_addCell_14 rfl ?_
    refine q_ldc2 dX10_addCell_15 uw_1076 ?_
    refine q_callSv (ν := mX10_in) dX10_addCell_18 uw_997 vX10_in (c_X10_in hG S (((nI b : Int32).toInt64)) (0) (100)) rfl rfl (Nat.le_of_ble_eq_true rfl) (Nat.le_of_ble_eq_true rfl) (Nat.le_of_ble_eq_true rfl) 0 (Nat.le_of_ble_eq_true rfl) ?_
    refine wp_top (y := pI (0 ≤ (nI b) ∧ (nI b) ≤ 100)) (inI (l2 := 0) (u2 := 100) rfl rfl) ?_
    refine q_if_eq 43 dX10_addCell_21 rfl (fun c21 => ?_) (fun c21 => ?_)
    · exact absurd (rng_ok (lo := 0) (hi := 100) (by omega) (by omega) (by omega)) (pI_0 c21)
    · refine q_iload_n dX10_addCell_24 rfl ?_
      refine q_callSv (ν := mX10_isGoal) dX10_addCell_25 uw_1024 vX10_isGoal (c_X10_isGoal hG S ((nI x))) rfl rfl (Nat.le_of_ble_eq_true rfl) (Nat.le_of_ble_eq_true rfl) (Nat.le_of_ble_eq_true rfl) 0 (Nat.le_of_ble_eq_true rfl) ?_
      refine q_if_eq 43 dX10_addCell_28 rfl (fun c28 => ?_) (fun c28 => ?_)
      · exact absurd (des_ok h9) (pI_0 c28)
      · refine q_iload dX10_addCell_31 rfl ?_
        refine q_callSv (ν := mX10_isGoal) dX10_addCell_33 uw_1024 vX10_isGoal (c_X10_isGoal hG S ((nI y))) rfl rfl (Nat.le_of_ble_eq_true rfl) (Nat.le_of_ble_eq_true rfl) (Nat.le_of_ble_eq_true rfl) 0 (Nat.le_of_ble_eq_true rfl) ?_
        refine q_if_eq 43 dX10_addCell_36 rfl (fun c36 => ?_) (fun c36 => ?_)
        · exact absurd (des_ok h10) (pI_0 c36)
        · refine q_iconst (v := 1) dX10_addCell_39 rfl ?_
          refine q_goto 44 dX10_addCell_40 rfl ?_
          refine q_ist5 dX10_addCell_44 (Nat.le_of_ble_eq_true rfl) rfl ?_
          refine q_aload_n dX10_addCell_46 rfl ?_
          refine q_iload dX10_addCell_47 rfl ?_
          refine q_if_ne 56 dX10_addCell_49 rfl (fun c49 => ?_) (fun c49 => ?_)
          · refine q_aload_n dX10_addCell_56 rfl ?_
            refine q_get (j := 1) (v := .ref 27) dX10_addCell_57 (Nat.le_of_ble_eq_true rfl) rfl rfl iuX10 (Nat.le_of_ble_eq_true rfl) uw_925 rfl rfl ?_
            refine q_iconst (v := 0) dX10_addCell_60 rfl ?_
            refine q_iald (f := (z_NW S)) dX10_addCell_61 (Nat.le_of_ble_eq_true rfl) rfl (0) rfl (Nat.le_of_ble_eq_true rfl) (Nat.le_of_ble_eq_true rfl) ?_
            refine wp_top (y := nI N) h1 ?_
            refine q_bipush (v := 6) dX10_addCell_62 rfl ?_
            refine q_icmp_ne 71 dX10_addCell_64 rfl (fun c64 => ?_) (fun c64 => ?_)
            · have n64 := mt (nI_eq (a := N) (b := 6) (by omega) (by omega)).mpr c64
              refine q_iconst (v := 0) dX10_addCell_71 rfl ?_
              refine q_callVv (ν := mX10_refused) dX10_addCell_72 uw_1000 vX10_refused (c_X10_refused hG S (0)) (Nat.le_of_ble_eq_true rfl) rfl rfl rfl rfl (Nat.le_of_ble_eq_true rfl) (Nat.le_of_ble_eq_true rfl) (Nat.le_of_ble_eq_true rfl) 0 (Nat.le_of_ble_eq_true rfl) ?_
              refine wp_w (w2 := mixW g (s_RF S (0))) rfl ?_
              refine wp_top (y := 0) (pI_f (by decide)) ?_
              refine q_if_eq 80 dX10_addCell_75 rfl (fun c75 => ?_) (fun c75 => ?_)
              · refine q_aload_n dX10_addCell_80 rfl ?_
                refine q_callVu (ν := mX10_note) dX10_addCell_81 uw_1077 vX10_note (c_X10_note hG (s_RF S (0)) (p) (q) h3 h4 h5 h6) (Nat.le_of_ble_eq_true rfl) rfl rfl rfl rfl (Nat.le_of_ble_eq_true rfl) (Nat.le_of_ble_eq_true rfl) (Nat.le_of_ble_eq_true rfl) 0 (Nat.le_of_ble_eq_true rfl) ?_
                rw [sc_DI_RF, sc_NX_RF, sc_AC_RF]
                refine wp_w (w2 := mixW g (s_RF (s_AC (s_NX (s_DI S (va_cpy (z_NW S) (z_DI S) 0 (p * 44) 44)) (nI ((p + 1) % 14))) (nI (min (q + 1) 14))) (0))) rfl ?_
                refine q_aload_n dX10_addCell_84 rfl ?_
                refine q_get (j := 1) (v := .ref 27) dX10_addCell_85 (Nat.le_of_ble_eq_true rfl) rfl rfl iuX10 (Nat.le_of_ble_eq_true rfl) uw_925 rfl rfl ?_
                refine q_iconst (v := 0) dX10_addCell_88 rfl ?_
                refine q_iald (f := (z_NW S)) dX10_addCell_89 (Nat.le_of_ble_eq_true rfl) rfl (0) rfl (Nat.le_of_ble_eq_true rfl) (Nat.le_of_ble_eq_true rfl) ?_
                refine wp_top (y := nI N) h1 ?_
                refine q_ist6 dX10_addCell_90 (Nat.le_of_ble_eq_true rfl) rfl ?_
                refine q_aload_n dX10_addCell_92 rfl ?_
                refine q_get (j := 1) (v := .ref 27) dX10_addCell_93 (Nat.le_of_ble_eq_true rfl) rfl rfl iuX10 (Nat.le_of_ble_eq_true rfl) uw_925 rfl rfl ?_
                refine q_iconst (v := 1) dX10_addCell_96 rfl ?_
                refine q_iconst (v := 2) dX10_addCell_97 rfl ?_
                refine q_iload dX10_addCell_98 rfl ?_
                refine q_imul dX10_addCell_100 ?_
                refine q_iadd dX10_addCell_101 ?_
                refine q_iload_n dX10_addCell_102 rfl ?_
                refine q_iast (f := (z_NW S)) dX10_addCell_103 (Nat.le_of_ble_eq_true rfl) rfl ((1 + (2 * N))) (by simp only [fa_lit, pk_mul, nI_add]) (by omega) (Nat.le_of_ble_eq_true rfl) ?_
                refine wp_w (u_NW g _ _) ?_
                rw [sc_NW_RF, sc_NW_AC, sc_NW_NX]
                refine q_aload_n dX10_addCell_104 rfl ?_
                refine q_get (j := 1) (v := .ref 27) dX10_addCell_105 (Nat.le_of_ble_eq_true rfl) rfl rfl iuX10 (Nat.le_of_ble_eq_true rfl) uw_925 rfl rfl ?_
                refine q_iconst (v := 1) dX10_addCell_108 rfl ?_
                refine q_iconst (v := 2) dX10_addCell_109 rfl ?_
                refine q_iload dX10_addCell_110 rfl ?_
                refine q_imul dX10_addCell_112 ?_
                refine q_iadd dX10_addCell_113 ?_
                refine q_iconst (v := 1) dX10_addCell_114 rfl ?_
                refine q_iadd dX10_addCell_115 ?_
                refine q_iload_n dX10_addCell_116 rfl ?_
                refine q_iast (f := (upd (z_NW S) ((1 + (2 * N))) (nI a))) dX10_addCell_117 (Nat.le_of_ble_eq_true rfl) rfl (((1 + (2 * N)) + 1)) (by simp only [fa_lit, pk_mul, nI_add]) (by omega) (Nat.le_of_ble_eq_true rfl) ?_
                refine wp_w (u_NW g _ _) ?_
                rw [sc_NW_RF, sc_NW_AC, sc_NW_NX, ss_NW]
                refine q_aload_n dX10_addCell_118 rfl ?_
                refine q_get (j := 1) (v := .ref 27) dX10_addCell_119 (Nat.le_of_ble_eq_true rfl) rfl rfl iuX10 (Nat.le_of_ble_eq_true rfl) uw_925 rfl rfl ?_
                refine q_bipush (v := 13) dX10_addCell_122 rfl ?_
                refine q_iconst (v := 2) dX10_addCell_124 rfl ?_
                refine q_iload dX10_addCell_125 rfl ?_
                refine q_imul dX10_addCell_127 ?_
                refine q_iadd dX10_addCell_128 ?_
                refine q_iload_n dX10_addCell_129 rfl ?_
                refine q_iast (f := (upd (upd (z_NW S) ((1 + (2 * N))) (nI a)) (((1 + (2 * N)) + 1)) (nI b))) dX10_addCell_130 (Nat.le_of_ble_eq_true rfl) rfl ((13 + (2 * N))) (by simp only [fa_lit, pk_mul, nI_add]) (by omega) (Nat.le_of_ble_eq_true rfl) ?_
                refine wp_w (u_NW g _ _) ?_
                rw [sc_NW_RF, sc_NW_AC, sc_NW_NX, ss_NW]
                refine q_aload_n dX10_addCell_131 rfl ?_
                refine q_get (j := 1) (v := .ref 27) dX10_addCell_132 (Nat.le_of_ble_eq_true rfl) rfl rfl iuX10 (Nat.le_of_ble_eq_true rfl) uw_925 rfl rfl ?_
                refine q_bipush (v := 13) dX10_addCell_135 rfl ?_
                refine q_iconst (v := 2) dX10_addCell_137 rfl ?_
                refine q_iload dX10_addCell_138 rfl ?_
                refine q_imul dX10_addCell_140 ?_
                refine q_iadd dX10_addCell_141 ?_
                refine q_iconst (v := 1) dX10_addCell_142 rfl ?_
                refine q_iadd dX10_addCell_143 ?_
                refine q_iload dX10_addCell_144 rfl ?_
                refine q_iast (f := (upd (upd (upd (z_NW S) ((1 + (2 * N))) (nI a)) (((1 + (2 * N)) + 1)) (nI b)) ((13 + (2 * N))) (nI x))) dX10_addCell_146 (Nat.le_of_ble_eq_true rfl) rfl (((13 + (2 * N)) + 1)) (by simp only [fa_lit, pk_mul, nI_add]) (by omega) (Nat.le_of_ble_eq_true rfl) ?_
                refine wp_w (u_NW g _ _) ?_
                rw [sc_NW_RF, sc_NW_AC, sc_NW_NX, ss_NW]
                refine q_aload_n dX10_addCell_147 rfl ?_
                refine q_get (j := 1) (v := .ref 27) dX10_addCell_148 (Nat.le_of_ble_eq_true rfl) rfl rfl iuX10 (Nat.le_of_ble_eq_true rfl) uw_925 rfl rfl ?_
                refine q_iconst (v := 0) dX10_addCell_151 rfl ?_
                refine q_dup2_11 dX10_addCell_152 rfl rfl ?_
                refine q_iald (f := (upd (upd (upd (upd (z_NW S) ((1 + (2 * N))) (nI a)) (((1 + (2 * N)) + 1)) (nI b)) ((13 + (2 * N))) (nI x)) (((13 + (2 * N)) + 1)) (nI y))) dX10_addCell_153 (Nat.le_of_ble_eq_true rfl) rfl (0) rfl (Nat.le_of_ble_eq_true rfl) (Nat.le_of_ble_eq_true rfl) ?_
                refine wp_top (y := nI N) (by simp only [upd]; rw [if_neg (by omega), if_neg (by omega), if_neg (by omega), if_neg (by omega)]; exact h1) ?_
                refine q_iconst (v := 1) dX10_addCell_154 rfl ?_
                refine q_iadd dX10_addCell_155 ?_
                refine q_iast (f := (upd (upd (upd (upd (z_NW S) ((1 + (2 * N))) (nI a)) (((1 + (2 * N)) + 1)) (nI b)) ((13 + (2 * N))) (nI x)) (((13 + (2 * N)) + 1)) (nI y))) dX10_addCell_156 (Nat.le_of_ble_eq_true rfl) rfl (0) rfl (Nat.le_of_ble_eq_true rfl) (Nat.le_of_ble_eq_true rfl) ?_
                refine wp_w (u_NW g _ _) ?_
                rw [sc_NW_RF, sc_NW_AC, sc_NW_NX, ss_NW]
                refine q_iload dX10_addCell_157 rfl ?_
                exact q_iret dX10_addCell_159 rfl ⟨rfl, rfl⟩
              · first | exact absurd (by decide) c75 | exact absurd c75 (by decide)
            · have n64 := (nI_eq (a := N) (b := 6) (by omega) (by omega)).mp c64
              omega
          · first | exact absurd (by decide) c49 | exact absurd c49 (by decide)
set_option maxRecDepth 100000 in
set_option maxHeartbeats 4000000 in
theorem c_X10_addCell_x1 {g : G0} (hG : Gd g) (S : SS) (a : Int32) (b : Int32) (x : Int32) (y : Int32)  (h1 : ¬ ((0 ≤ a ∧ a ≤ 100) ∧ (0 ≤ b ∧ b ≤ 100) ∧ ((x = 8 ∨ x = 9) ∨ (0 ≤ x ∧ x < 6)) ∧ ((y = 8 ∨ y = 9) ∨ (0 ≤ y ∧ y < 6)))) : ctv g mX10_addCell [.ref 26, .int a, .int b, .int x, .int y] (mixW g S) (.int (0)) (mixW g (s_RF S (1))) := by
  refine ct_of hG [some (.ref 26), some (.int (a)), some (.int (b)), some (.int (x)), some (.int (y)), none, none] rfl rfl rfl (Nat.le_of_ble_eq_true rfl) (fun h => ?_) rfl
  refine q_iload_n dX10_addCell_0 rfl ?_
  refine q_i2l dX10_addCell_1 ?_
  refine q_lconst (v := 0) dX10_addCell_2 rfl ?_
  refine q_ldc2 dX10_addCell_3 uw_1076 ?_
  refine q_callSv (ν := mX10_in) dX10_addCell_6 uw_997 vX10_in (c_X10_in hG S (((a : Int32).toInt64)) (0) (100)) rfl rfl (Nat.le_of_ble_eq_true rfl) (Nat.le_of_ble_eq_true rfl) (Nat.le_of_ble_eq_true rfl) 0 (Nat.le_of_ble_eq_true rfl) ?_
  refine wp_top (y := pI (0 ≤ a ∧ a ≤ 100)) (inI (l2 := 0) (u2 := 100) rfl rfl) ?_
  refine q_if_eq 43 dX10_addCell_9 rfl (fun c9 => ?_) (fun c9 => ?_)
  · refine q_iconst (v := 0) dX10_addCell_43 rfl ?_
    refine q_ist5 dX10_addCell_44 (Nat.le_of_ble_eq_true rfl) rfl ?_
    refine q_aload_n dX10_addCell_46 rfl ?_
    refine q_iload dX10_addCell_47 rfl ?_
    refine q_if_ne 56 dX10_addCell_49 rfl (fun c49 => ?_) (fun c49 => ?_)
    · first | exact absurd (by decide) c49 | exact absurd c49 (by decide)
    · refine q_iconst (v := 1) dX10_addCell_52 rfl ?_
      refine q_goto 72 dX10_addCell_53 rfl ?_
      refine q_callVv (ν := mX10_refused) dX10_addCell_72 uw_1000 vX10_refused (c_X10_refused hG S (1)) (Nat.le_of_ble_eq_true rfl) rfl rfl rfl rfl (Nat.le_of_ble_eq_true rfl) (Nat.le_of_ble_eq_true rfl) (Nat.le_of_ble_eq_true rfl) 0 (Nat.le_of_ble_eq_true rfl) ?_
      refine wp_w (w2 := mixW g (s_RF S (1))) rfl ?_
      refine wp_top (y := 1) (pI_t (by decide)) ?_
      refine q_if_eq 80 dX10_addCell_75 rfl (fun c75 => ?_) (fun c75 => ?_)
      · first | exact absurd (by decide) c75 | exact absurd c75 (by decide)
      · refine q_iconst (v := 0) dX10_addCell_78 rfl ?_
        exact q_iret dX10_addCell_79 rfl ⟨rfl, rfl⟩
  · refine q_iload_n dX10_addCell_12 rfl ?_
    refine q_i2l dX10_addCell_13 ?_
    refine q_lconst (v := 0) dX10_addCell_14 rfl ?_
    refine q_ldc2 dX10_addCell_15 uw_1076 ?_
    refine q_callSv (ν := mX10_in) dX10_addCell_18 uw_997 vX10_in (c_X10_in hG S (((b : Int32).toInt64)) (0) (100)) rfl rfl (Nat.le_of_ble_eq_true rfl) (Nat.le_of_ble_eq_true rfl) (Nat.le_of_ble_eq_true rfl) 0 (Nat.le_of_ble_eq_true rfl) ?_
    refine wp_top (y := pI (0 ≤ b ∧ b ≤ 100)) (inI (l2 := 0) (u2 := 100) rfl rfl) ?_
    refine q_if_eq 43 dX10_addCell_21 rfl (fun c21 => ?_) (fun c21 => ?_)
    · refine q_iconst (v := 0) dX10_addCell_43 rfl ?_
      refine q_ist5 dX10_addCell_44 (Nat.le_of_ble_eq_true rfl) rfl ?_
      refine q_aload_n dX10_addCell_46 rfl ?_
      refine q_iload dX10_addCell_47 rfl ?_
      refine q_if_ne 56 dX10_addCell_49 rfl (fun c49 => ?_) (fun c49 => ?_)
      · first | exact absurd (by decide) c49 | exact absurd c49 (by decide)
      · refine q_iconst (v := 1) dX10_addCell_52 rfl ?_
        refine q_goto 72 dX10_addCell_53 rfl ?_
        refine q_callVv (ν := mX10_refused) dX10_addCell_72 uw_1000 vX10_refused (c_X10_refused hG S (1)) (Nat.le_of_ble_eq_true rfl) rfl rfl rfl rfl (Nat.le_of_ble_eq_true rfl) (Nat.le_of_ble_eq_true rfl) (Nat.le_of_ble_eq_true rfl) 0 (Nat.le_of_ble_eq_true rfl) ?_
        refine wp_w (w2 := mixW g (s_RF S (1))) rfl ?_
        refine wp_top (y := 1) (pI_t (by decide)) ?_
        refine q_if_eq 80 dX10_addCell_75 rfl (fun c75 => ?_) (fun c75 => ?_)
        · first | exact absurd (by decide) c75 | exact absurd c75 (by decide)
        · refine q_iconst (v := 0) dX10_addCell_78 rfl ?_
          exact q_iret dX10_addCell_79 rfl ⟨rfl, rfl⟩
    · refine q_iload_n dX10_addCell_24 rfl ?_
      refine q_callSv (ν := mX10_isGoal) dX10_addCell_25 uw_1024 vX10_isGoal (c_X10_isGoal hG S (x)) rfl rfl (Nat.le_of_ble_eq_true rfl) (Nat.le_of_ble_eq_true rfl) (Nat.le_of_ble_eq_true rfl) 0 (Nat.le_of_ble_eq_true rfl) ?_
      refine q_if_eq 43 dX10_addCell_28 rfl (fun c28 => ?_) (fun c28 => ?_)
      · refine q_iconst (v := 0) dX10_addCell_43 rfl ?_
        refine q_ist5 dX10_addCell_44 (Nat.le_of_ble_eq_true rfl) rfl ?_
        refine q_aload_n dX10_addCell_46 rfl ?_
        refine q_iload dX10_addCell_47 rfl ?_
        refine q_if_ne 56 dX10_addCell_49 rfl (fun c49 => ?_) (fun c49 => ?_)
        · first | exact absurd (by decide) c49 | exact absurd c49 (by decide)
        · refine q_iconst (v := 1) dX10_addCell_52 rfl ?_
          refine q_goto 72 dX10_addCell_53 rfl ?_
          refine q_callVv (ν := mX10_refused) dX10_addCell_72 uw_1000 vX10_refused (c_X10_refused hG S (1)) (Nat.le_of_ble_eq_true rfl) rfl rfl rfl rfl (Nat.le_of_ble_eq_true rfl) (Nat.le_of_ble_eq_true rfl) (Nat.le_of_ble_eq_true rfl) 0 (Nat.le_of_ble_eq_true rfl) ?_
          refine wp_w (w2 := mixW g (s_RF S (1))) rfl ?_
          refine wp_top (y := 1) (pI_t (by decide)) ?_
          refine q_if_eq 80 dX10_addCell_75 rfl (fun c75 => ?_) (fun c75 => ?_)
          · first | exact absurd (by decide) c75 | exact absurd c75 (by decide)
          · refine q_iconst (v := 0) dX10_addCell_78 rfl ?_
            exact q_iret dX10_addCell_79 rfl ⟨rfl, rfl⟩
      · refine q_iload dX10_addCell_31 rfl ?_
        refine q_callSv (ν := mX10_isGoal) dX10_addCell_33 uw_1024 vX10_isGoal (c_X10_isGoal hG S (y)) rfl rfl (Nat.le_of_ble_eq_true rfl) (Nat.le_of_ble_eq_true rfl) (Nat.le_of_ble_eq_true rfl) 0 (Nat.le_of_ble_eq_true rfl) ?_
        refine q_if_eq 43 dX10_addCell_36 rfl (fun c36 => ?_) (fun c36 => ?_)
        · refine q_iconst (v := 0) dX10_addCell_43 rfl ?_
          refine q_ist5 dX10_addCell_44 (Nat.le_of_ble_eq_true rfl) rfl ?_
          refine q_aload_n dX10_addCell_46 rfl ?_
          refine q_iload dX10_addCell_47 rfl ?_
          refine q_if_ne 56 dX10_addCell_49 rfl (fun c49 => ?_) (fun c49 => ?_)
          · first | exact absurd (by decide) c49 | exact absurd c49 (by decide)
          · refine q_iconst (v := 1) dX10_addCell_52 rfl ?_
            refine q_goto 72 dX10_addCell_53 rfl ?_
            refine q_callVv (ν := mX10_refused) dX10_addCell_72 uw_1000 vX10_refused (c_X10_refused hG S (1)) (Nat.le_of_ble_eq_true rfl) rfl rfl rfl rfl (Nat.le_of_ble_eq_true rfl) (Nat.le_of_ble_eq_true rfl) (Nat.le_of_ble_eq_true rfl) 0 (Nat.le_of_ble_eq_true rfl) ?_
            refine wp_w (w2 := mixW g (s_RF S (1))) rfl ?_
            refine wp_top (y := 1) (pI_t (by decide)) ?_
            refine q_if_eq 80 dX10_addCell_75 rfl (fun c75 => ?_) (fun c75 => ?_)
            · first | exact absurd (by decide) c75 | exact absurd c75 (by decide)
            · refine q_iconst (v := 0) dX10_addCell_78 rfl ?_
              exact q_iret dX10_addCell_79 rfl ⟨rfl, rfl⟩
        · exact absurd ⟨pI_1 c9, pI_1 c21, pI_1 c28, pI_1 c36⟩ h1
set_option maxRecDepth 100000 in
set_option maxHeartbeats 4000000 in
theorem c_X10_addCell_x2 {g : G0} (hG : Gd g) (S : SS) (a : Nat) (b : Nat) (x : Nat) (y : Nat)  (h1 : (z_NW S) 0 = nI 6) (h2 : a ≤ 100) (h3 : b ≤ 100) (h4 : desOk x) (h5 : desOk y) : ctv g mX10_addCell [.ref 26, .int (nI a), .int (nI b), .int (nI x), .int (nI y)] (mixW g S) (.int (0)) (mixW g (s_RF S (2))) := by
  refine ct_of hG [some (.ref 26), some (.int (nI a)), some (.int (nI b)), some (.int (nI x)), some (.int (nI y)), none, none] rfl rfl rfl (Nat.le_of_ble_eq_true rfl) (fun h => ?_) rfl
  refine q_iload_n dX10_addCell_0 rfl ?_
  refine q_i2l dX10_addCell_1 ?_
  refine q_lconst (v := 0) dX10_addCell_2 rfl ?_
  refine q_ldc2 dX10_addCell_3 uw_1076 ?_
  refine q_callSv (ν := mX10_in) dX10_addCell_6 uw_997 vX10_in (c_X10_in hG S (((nI a : Int32).toInt64)) (0) (100)) rfl rfl (Nat.le_of_ble_eq_true rfl) (Nat.le_of_ble_eq_true rfl) (Nat.le_of_ble_eq_true rfl) 0 (Nat.le_of_ble_eq_true rfl) ?_
  refine wp_top (y := pI (0 ≤ (nI a) ∧ (nI a) ≤ 100)) (inI (l2 := 0) (u2 := 100) rfl rfl) ?_
  refine q_if_eq 43 dX10_addCell_9 rfl (fun c9 => ?_) (fun c9 => ?_)
  · exact absurd (rng_ok (lo := 0) (hi := 100) (by omega) (by omega) (by omega)) (pI_0 c9)
  · refine q_iload_n dX10_addCell_12 rfl ?_
    refine q_i2l dX10_addCell_13 ?_
    refine q_lconst (v := 0) dX10_addCell_14 rfl ?_
    refine q_ldc2 dX10_addCell_15 uw_1076 ?_
    refine q_callSv (ν := mX10_in) dX10_addCell_18 uw_997 vX10_in (c_X10_in hG S (((nI b : Int32).toInt64)) (0) (100)) rfl rfl (Nat.le_of_ble_eq_true rfl) (Nat.le_of_ble_eq_true rfl) (Nat.le_of_ble_eq_true rfl) 0 (Nat.le_of_ble_eq_true rfl) ?_
    refine wp_top (y := pI (0 ≤ (nI b) ∧ (nI b) ≤ 100)) (inI (l2 := 0) (u2 := 100) rfl rfl) ?_
    refine q_if_eq 43 dX10_addCell_21 rfl (fun c21 => ?_) (fun c21 => ?_)
    · exact absurd (rng_ok (lo := 0) (hi := 100) (by omega) (by omega) (by omega)) (pI_0 c21)
    · refine q_iload_n dX10_addCell_24 rfl ?_
      refine q_callSv (ν := mX10_isGoal) dX10_addCell_25 uw_1024 vX10_isGoal (c_X10_isGoal hG S ((nI x))) rfl rfl (Nat.le_of_ble_eq_true rfl) (Nat.le_of_ble_eq_true rfl) (Nat.le_of_ble_eq_true rfl) 0 (Nat.le_of_ble_eq_true rfl) ?_
      refine q_if_eq 43 dX10_addCell_28 rfl (fun c28 => ?_) (fun c28 => ?_)
      · exact absurd (des_ok h4) (pI_0 c28)
      · refine q_iload dX10_addCell_31 rfl ?_
        refine q_callSv (ν := mX10_isGoal) dX10_addCell_33 uw_1024 vX10_isGoal (c_X10_isGoal hG S ((nI y))) rfl rfl (Nat.le_of_ble_eq_true rfl) (Nat.le_of_ble_eq_true rfl) (Nat.le_of_ble_eq_true rfl) 0 (Nat.le_of_ble_eq_true rfl) ?_
        refine q_if_eq 43 dX10_addCell_36 rfl (fun c36 => ?_) (fun c36 => ?_)
        · exact absurd (des_ok h5) (pI_0 c36)
        · refine q_iconst (v := 1) dX10_addCell_39 rfl ?_
          refine q_goto 44 dX10_addCell_40 rfl ?_
          refine q_ist5 dX10_addCell_44 (Nat.le_of_ble_eq_true rfl) rfl ?_
          refine q_aload_n dX10_addCell_46 rfl ?_
          refine q_iload dX10_addCell_47 rfl ?_
          refine q_if_ne 56 dX10_addCell_49 rfl (fun c49 => ?_) (fun c49 => ?_)
          · refine q_aload_n dX10_addCell_56 rfl ?_
            refine q_get (j := 1) (v := .ref 27) dX10_addCell_57 (Nat.le_of_ble_eq_true rfl) rfl rfl iuX10 (Nat.le_of_ble_eq_true rfl) uw_925 rfl rfl ?_
            refine q_iconst (v := 0) dX10_addCell_60 rfl ?_
            refine q_iald (f := (z_NW S)) dX10_addCell_61 (Nat.le_of_ble_eq_true rfl) rfl (0) rfl (Nat.le_of_ble_eq_true rfl) (Nat.le_of_ble_eq_true rfl) ?_
            refine wp_top (y := nI 6) h1 ?_
            refine q_bipush (v := 6) dX10_addCell_62 rfl ?_
            refine q_icmp_ne 71 dX10_addCell_64 rfl (fun c64 => ?_) (fun c64 => ?_)
            · have n64 := mt (nI_eq (a := 6) (b := 6) (by omega) (by omega)).mpr c64
              omega
            · have n64 := (nI_eq (a := 6) (b := 6) (by omega) (by omega)).mp c64
              refine q_iconst (v := 2) dX10_addCell_67 rfl ?_
              refine q_goto 72 dX10_addCell_68 rfl ?_
              refine q_callVv (ν := mX10_refused) dX10_addCell_72 uw_1000 vX10_refused (c_X10_refused hG S (2)) (Nat.le_of_ble_eq_true rfl) rfl rfl rfl rfl (Nat.le_of_ble_eq_true rfl) (Nat.le_of_ble_eq_true rfl) (Nat.le_of_ble_eq_true rfl) 0 (Nat.le_of_ble_eq_true rfl) ?_
              refine wp_w (w2 := mixW g (s_RF S (2))) rfl ?_
              refine wp_top (y := 1) (pI_t (by decide)) ?_
              refine q_if_eq 80 dX10_addCell_75 rfl (fun c75 => ?_) (fun c75 => ?_)
              · first | exact absurd (by decide) c75 | exact absurd c75 (by decide)
              · refine q_iconst (v := 0) dX10_addCell_78 rfl ?_
                exact q_iret dX10_addCell_79 rfl ⟨rfl, rfl⟩
          · first | exact absurd (by decide) c49 | exact absurd c49 (by decide)
set_option maxRecDepth 100000 in
set_option maxHeartbeats 4000000 in
theorem c_X10_removeLastCell {g : G0} (hG : Gd g) (S : SS)  (N : Nat) (p : Nat) (q : Nat) (h1 : (z_NW S) 0 = nI N) (h2 : N ≤ 6) (h3 : (z_NX S) = nI p) (h4 : p < 14) (h5 : (z_AC S) = nI q) (h6 : q ≤ 14) (h7 : 0 < N) : ctv g mX10_removeLastCell [.ref 26] (mixW g S) (.int (nI (N - 1))) (mixW g (s_RF (s_AC (s_NX (s_NW (s_DI S (va_cpy (z_NW S) (z_DI S) 0 (p * 44) 44)) (popM (z_NW S) (N - 1))) (nI ((p + 1) % 14))) (nI (min (q + 1) 14))) (0))) := by
  refine ct_of hG [some (.ref 26), none, none] rfl rfl rfl (Nat.le_of_ble_eq_true rfl) (fun h => ?_) rfl
  refine q_aload_n dX10_removeLastCell_0 rfl ?_
  refine q_aload_n dX10_removeLastCell_1 rfl ?_
  refine q_get (j := 1) (v := .ref 27) dX10_removeLastCell_2 (Nat.le_of_ble_eq_true rfl) rfl rfl iuX10 (Nat.le_of_ble_eq_true rfl) uw_925 rfl rfl ?_
  refine q_iconst (v := 0) dX10_removeLastCell_5 rfl ?_
  refine q_iald (f := (z_NW S)) dX10_removeLastCell_6 (Nat.le_of_ble_eq_true rfl) rfl (0) rfl (Nat.le_of_ble_eq_true rfl) (Nat.le_of_ble_eq_true rfl) ?_
  refine wp_top (y := nI N) h1 ?_
  refine q_if_ne 14 dX10_removeLastCell_7 rfl (fun c7 => ?_) (fun c7 => ?_)
  · have n7 := mt (nI_eq (a := N) (b := 0) (by omega) (by omega)).mpr c7
    refine q_iconst (v := 0) dX10_removeLastCell_14 rfl ?_
    refine q_callVv (ν := mX10_refused) dX10_removeLastCell_15 uw_1000 vX10_refused (c_X10_refused hG S (0)) (Nat.le_of_ble_eq_true rfl) rfl rfl rfl rfl (Nat.le_of_ble_eq_true rfl) (Nat.le_of_ble_eq_true rfl) (Nat.le_of_ble_eq_true rfl) 0 (Nat.le_of_ble_eq_true rfl) ?_
    refine wp_w (w2 := mixW g (s_RF S (0))) rfl ?_
    refine wp_top (y := 0) (pI_f (by decide)) ?_
    refine q_if_eq 23 dX10_removeLastCell_18 rfl (fun c18 => ?_) (fun c18 => ?_)
    · refine q_aload_n dX10_removeLastCell_23 rfl ?_
      refine q_callVu (ν := mX10_note) dX10_removeLastCell_24 uw_1077 vX10_note (c_X10_note hG (s_RF S (0)) (p) (q) h3 h4 h5 h6) (Nat.le_of_ble_eq_true rfl) rfl rfl rfl rfl (Nat.le_of_ble_eq_true rfl) (Nat.le_of_ble_eq_true rfl) (Nat.le_of_ble_eq_true rfl) 0 (Nat.le_of_ble_eq_true rfl) ?_
      rw [sc_DI_RF, sc_NX_RF, sc_AC_RF]
      refine wp_w (w2 := mixW g (s_RF (s_AC (s_NX (s_DI S (va_cpy (z_NW S) (z_DI S) 0 (p * 44) 44)) (nI ((p + 1) % 14))) (nI (min (q + 1) 14))) (0))) rfl ?_
      refine q_aload_n dX10_removeLastCell_27 rfl ?_
      refine q_get (j := 1) (v := .ref 27) dX10_removeLastCell_28 (Nat.le_of_ble_eq_true rfl) rfl rfl iuX10 (Nat.le_of_ble_eq_true rfl) uw_925 rfl rfl ?_
      refine q_iconst (v := 0) dX10_removeLastCell_31 rfl ?_
      refine q_dup2_11 dX10_removeLastCell_32 rfl rfl ?_
      refine q_iald (f := (z_NW S)) dX10_removeLastCell_33 (Nat.le_of_ble_eq_true rfl) rfl (0) rfl (Nat.le_of_ble_eq_true rfl) (Nat.le_of_ble_eq_true rfl) ?_
      refine wp_top (y := nI N) h1 ?_
      refine q_iconst (v := 1) dX10_removeLastCell_34 rfl ?_
      refine q_isub dX10_removeLastCell_35 ?_
      refine wp_top (y := nI (N - 1)) (pk_sub (a := N) (b := 1) (by omega)) ?_
      refine q_iast (f := (z_NW S)) dX10_removeLastCell_36 (Nat.le_of_ble_eq_true rfl) rfl (0) rfl (Nat.le_of_ble_eq_true rfl) (Nat.le_of_ble_eq_true rfl) ?_
      refine wp_w (u_NW g _ _) ?_
      rw [sc_NW_RF, sc_NW_AC, sc_NW_NX]
      refine q_aload_n dX10_removeLastCell_37 rfl ?_
      refine q_get (j := 1) (v := .ref 27) dX10_removeLastCell_38 (Nat.le_of_ble_eq_true rfl) rfl rfl iuX10 (Nat.le_of_ble_eq_true rfl) uw_925 rfl rfl ?_
      refine q_iconst (v := 0) dX10_removeLastCell_41 rfl ?_
      refine q_iald (f := (upd (z_NW S) (0) (nI (N - 1)))) dX10_removeLastCell_42 (Nat.le_of_ble_eq_true rfl) rfl (0) rfl (Nat.le_of_ble_eq_true rfl) (Nat.le_of_ble_eq_true rfl) ?_
      refine wp_top (y := nI (N - 1)) (by simp only [upd, if_true]) ?_
      refine q_ist1 dX10_removeLastCell_43 (Nat.le_of_ble_eq_true rfl) rfl ?_
      refine q_iconst (v := 0) dX10_removeLastCell_44 rfl ?_
      refine q_ist2 dX10_removeLastCell_45 (Nat.le_of_ble_eq_true rfl) rfl ?_
      refine q_iload_n dX10_removeLastCell_46 rfl ?_
      refine q_iconst (v := 2) dX10_removeLastCell_47 rfl ?_
      refine q_icmp_ge 98 dX10_removeLastCell_48 rfl (fun c48 => ?_) (fun c48 => ?_)
      · first | exact absurd (by decide) c48 | exact absurd c48 (by decide)
      · refine q_aload_n dX10_removeLastCell_51 rfl ?_
        refine q_get (j := 1) (v := .ref 27) dX10_removeLastCell_52 (Nat.le_of_ble_eq_true rfl) rfl rfl iuX10 (Nat.le_of_ble_eq_true rfl) uw_925 rfl rfl ?_
        refine q_iconst (v := 1) dX10_removeLastCell_55 rfl ?_
        refine q_iconst (v := 2) dX10_removeLastCell_56 rfl ?_
        refine q_iload_n dX10_removeLastCell_57 rfl ?_
        refine q_imul dX10_removeLastCell_58 ?_
        refine q_iadd dX10_removeLastCell_59 ?_
        refine q_iload_n dX10_removeLastCell_60 rfl ?_
        refine q_iadd dX10_removeLastCell_61 ?_
        refine q_iconst (v := 0) dX10_removeLastCell_62 rfl ?_
        refine q_iast (f := (upd (z_NW S) (0) (nI (N - 1)))) dX10_removeLastCell_63 (Nat.le_of_ble_eq_true rfl) rfl (((1 + (2 * (N - 1))) + 0)) (by simp only [fa_lit, pk_mul, nI_add]) (by omega) (Nat.le_of_ble_eq_true rfl) ?_
        refine wp_w (u_NW g _ _) ?_
        rw [sc_NW_RF, sc_NW_AC, sc_NW_NX, ss_NW]
        refine q_aload_n dX10_removeLastCell_64 rfl ?_
        refine q_get (j := 1) (v := .ref 27) dX10_removeLastCell_65 (Nat.le_of_ble_eq_true rfl) rfl rfl iuX10 (Nat.le_of_ble_eq_true rfl) uw_925 rfl rfl ?_
        refine q_bipush (v := 13) dX10_removeLastCell_68 rfl ?_
        refine q_iconst (v := 2) dX10_removeLastCell_70 rfl ?_
        refine q_iload_n dX10_removeLastCell_71 rfl ?_
        refine q_imul dX10_removeLastCell_72 ?_
        refine q_iadd dX10_removeLastCell_73 ?_
        refine q_iload_n dX10_removeLastCell_74 rfl ?_
        refine q_iadd dX10_removeLastCell_75 ?_
        refine q_iconst (v := 0) dX10_removeLastCell_76 rfl ?_
        refine q_iast (f := (upd (upd (z_NW S) (0) (nI (N - 1))) (((1 + (2 * (N - 1))) + 0)) (0))) dX10_removeLastCell_77 (Nat.le_of_ble_eq_true rfl) rfl (((13 + (2 * (N - 1))) + 0)) (by simp only [fa_lit, pk_mul, nI_add]) (by omega) (Nat.le_of_ble_eq_true rfl) ?_
        refine wp_w (u_NW g _ _) ?_
        rw [sc_NW_RF, sc_NW_AC, sc_NW_NX, ss_NW]
        refine q_aload_n dX10_removeLastCell_78 rfl ?_
        refine q_get (j := 1) (v := .ref 27) dX10_removeLastCell_79 (Nat.le_of_ble_eq_true rfl) rfl rfl iuX10 (Nat.le_of_ble_eq_true rfl) uw_925 rfl rfl ?_
        refine q_bipush (v := 28) dX10_removeLastCell_82 rfl ?_
        refine q_iconst (v := 2) dX10_removeLastCell_84 rfl ?_
        refine q_iload_n dX10_removeLastCell_85 rfl ?_
        refine q_imul dX10_removeLastCell_86 ?_
        refine q_iadd dX10_removeLastCell_87 ?_
        refine q_iload_n dX10_removeLastCell_88 rfl ?_
        refine q_iadd dX10_removeLastCell_89 ?_
        refine q_iconst (v := 0) dX10_removeLastCell_90 rfl ?_
        refine q_iast (f := (upd (upd (upd (z_NW S) (0) (nI (N - 1))) (((1 + (2 * (N - 1))) + 0)) (0)) (((13 + (2 * (N - 1))) + 0)) (0))) dX10_removeLastCell_91 (Nat.le_of_ble_eq_true rfl) rfl (((28 + (2 * (N - 1))) + 0)) (by simp only [fa_lit, pk_mul, nI_add]) (by omega) (Nat.le_of_ble_eq_true rfl) ?_
        refine wp_w (u_NW g _ _) ?_
        rw [sc_NW_RF, sc_NW_AC, sc_NW_NX, ss_NW]
        refine q_iinc2 (k9 := 1) dX10_removeLastCell_92 rfl (Nat.le_of_ble_eq_true rfl) rfl ?_
        refine wp_L (L2 := [some (.ref 26), some (.int (nI (N - 1))), some (.int (1))]) rfl ?_
        refine q_goto 46 dX10_removeLastCell_95 rfl ?_
        refine q_iload_n dX10_removeLastCell_46 rfl ?_
        refine q_iconst (v := 2) dX10_removeLastCell_47 rfl ?_
        refine q_icmp_ge 98 dX10_removeLastCell_48 rfl (fun c48 => ?_) (fun c48 => ?_)
        · first | exact absurd (by decide) c48 | exact absurd c48 (by decide)
        · refine q_aload_n dX10_removeLastCell_51 rfl ?_
          refine q_get (j := 1) (v := .ref 27) dX10_removeLastCell_52 (Nat.le_of_ble_eq_true rfl) rfl rfl iuX10 (Nat.le_of_ble_eq_true rfl) uw_925 rfl rfl ?_
          refine q_iconst (v := 1) dX10_removeLastCell_55 rfl ?_
          refine q_iconst (v := 2) dX10_removeLastCell_56 rfl ?_
          refine q_iload_n dX10_removeLastCell_57 rfl ?_
          refine q_imul dX10_removeLastCell_58 ?_
          refine q_iadd dX10_removeLastCell_59 ?_
          refine q_iload_n dX10_removeLastCell_60 rfl ?_
          refine q_iadd dX10_removeLastCell_61 ?_
          refine q_iconst (v := 0) dX10_removeLastCell_62 rfl ?_
          refine q_iast (f := (upd (upd (upd (upd (z_NW S) (0) (nI (N - 1))) (((1 + (2 * (N - 1))) + 0)) (0)) (((13 + (2 * (N - 1))) + 0)) (0)) (((28 + (2 * (N - 1))) + 0)) (0))) dX10_removeLastCell_63 (Nat.le_of_ble_eq_true rfl) rfl (((1 + (2 * (N - 1))) + 1)) (by simp only [fa_lit, pk_mul, nI_add]) (by omega) (Nat.le_of_ble_eq_true rfl) ?_
          refine wp_w (u_NW g _ _) ?_
          rw [sc_NW_RF, sc_NW_AC, sc_NW_NX, ss_NW]
          refine q_aload_n dX10_removeLastCell_64 rfl ?_
          refine q_get (j := 1) (v := .ref 27) dX10_removeLastCell_65 (Nat.le_of_ble_eq_true rfl) rfl rfl iuX10 (Nat.le_of_ble_eq_true rfl) uw_925 rfl rfl ?_
          refine q_bipush (v := 13) dX10_removeLastCell_68 rfl ?_
          refine q_iconst (v := 2) dX10_removeLastCell_70 rfl ?_
          refine q_iload_n dX10_removeLastCell_71 rfl ?_
          refine q_imul dX10_removeLastCell_72 ?_
          refine q_iadd dX10_removeLastCell_73 ?_
          refine q_iload_n dX10_removeLastCell_74 rfl ?_
          refine q_iadd dX10_removeLastCell_75 ?_
          refine q_iconst (v := 0) dX10_removeLastCell_76 rfl ?_
          refine q_iast (f := (upd (upd (upd (upd (upd (z_NW S) (0) (nI (N - 1))) (((1 + (2 * (N - 1))) + 0)) (0)) (((13 + (2 * (N - 1))) + 0)) (0)) (((28 + (2 * (N - 1))) + 0)) (0)) (((1 + (2 * (N - 1))) + 1)) (0))) dX10_removeLastCell_77 (Nat.le_of_ble_eq_true rfl) rfl (((13 + (2 * (N - 1))) + 1)) (by simp only [fa_lit, pk_mul, nI_add]) (by omega) (Nat.le_of_ble_eq_true rfl) ?_
          refine wp_w (u_NW g _ _) ?_
          rw [sc_NW_RF, sc_NW_AC, sc_NW_NX, ss_NW]
          refine q_aload_n dX10_removeLastCell_78 rfl ?_
          refine q_get (j := 1) (v := .ref 27) dX10_removeLastCell_79 (Nat.le_of_ble_eq_true rfl) rfl rfl iuX10 (Nat.le_of_ble_eq_true rfl) uw_925 rfl rfl ?_
          refine q_bipush (v := 28) dX10_removeLastCell_82 rfl ?_
          refine q_iconst (v := 2) dX10_removeLastCell_84 rfl ?_
          refine q_iload_n dX10_removeLastCell_85 rfl ?_
          refine q_imul dX10_removeLastCell_86 ?_
          refine q_iadd dX10_removeLastCell_87 ?_
          refine q_iload_n dX10_removeLastCell_88 rfl ?_
          refine q_iadd dX10_removeLastCell_89 ?_
          refine q_iconst (v := 0) dX10_removeLastCell_90 rfl ?_
          refine q_iast (f := (upd (upd (upd (upd (upd (upd (z_NW S) (0) (nI (N - 1))) (((1 + (2 * (N - 1))) + 0)) (0)) (((13 + (2 * (N - 1))) + 0)) (0)) (((28 + (2 * (N - 1))) + 0)) (0)) (((1 + (2 * (N - 1))) + 1)) (0)) (((13 + (2 * (N - 1))) + 1)) (0))) dX10_removeLastCell_91 (Nat.le_of_ble_eq_true rfl) rfl (((28 + (2 * (N - 1))) + 1)) (by simp only [fa_lit, pk_mul, nI_add]) (by omega) (Nat.le_of_ble_eq_true rfl) ?_
          refine wp_w (u_NW g _ _) ?_
          rw [sc_NW_RF, sc_NW_AC, sc_NW_NX, ss_NW]
          refine q_iinc2 (k9 := 1) dX10_removeLastCell_92 rfl (Nat.le_of_ble_eq_true rfl) rfl ?_
          refine wp_L (L2 := [some (.ref 26), some (.int (nI (N - 1))), some (.int (2))]) rfl ?_
          refine q_goto 46 dX10_removeLastCell_95 rfl ?_
          refine q_iload_n dX10_removeLastCell_46 rfl ?_
          refine q_iconst (v := 2) dX10_removeLastCell_47 rfl ?_
          refine q_icmp_ge 98 dX10_removeLastCell_48 rfl (fun c48 => ?_) (fun c48 => ?_)
          · refine q_iload_n dX10_removeLastCell_98 rfl ?_
            exact q_iret dX10_removeLastCell_99 rfl ⟨rfl, rfl⟩
          · first | exact absurd (by decide) c48 | exact absurd c48 (by decide)
    · first | exact absurd (by decide) c18 | exact absurd c18 (by decide)
  · have n7 := (nI_eq (a := N) (b := 0) (by omega) (by omega)).mp c7
    omega
set_option maxRecDepth 100000 in
set_option maxHeartbeats 4000000 in
theorem c_X10_removeLastCell_x {g : G0} (hG : Gd g) (S : SS)   (h1 : (z_NW S) 0 = nI 0) : ctv g mX10_removeLastCell [.ref 26] (mixW g S) (.int (0)) (mixW g (s_RF S (1))) := by
  refine ct_of hG [some (.ref 26), none, none] rfl rfl rfl (Nat.le_of_ble_eq_true rfl) (fun h => ?_) rfl
  refine q_aload_n dX10_removeLastCell_0 rfl ?_
  refine q_aload_n dX10_removeLastCell_1 rfl ?_
  refine q_get (j := 1) (v := .ref 27) dX10_removeLastCell_2 (Nat.le_of_ble_eq_true rfl) rfl rfl iuX10 (Nat.le_of_ble_eq_true rfl) uw_925 rfl rfl ?_
  refine q_iconst (v := 0) dX10_removeLastCell_5 rfl ?_
  refine q_iald (f := (z_NW S)) dX10_removeLastCell_6 (Nat.le_of_ble_eq_true rfl) rfl (0) rfl (Nat.le_of_ble_eq_true rfl) (Nat.le_of_ble_eq_true rfl) ?_
  refine wp_top (y := nI 0) h1 ?_
  refine q_if_ne 14 dX10_removeLastCell_7 rfl (fun c7 => ?_) (fun c7 => ?_)
  · have n7 := mt (nI_eq (a := 0) (b := 0) (by omega) (by omega)).mpr c7
    omega
  · have n7 := (nI_eq (a := 0) (b := 0) (by omega) (by omega)).mp c7
    refine q_iconst (v := 1) dX10_removeLastCell_10 rfl ?_
    refine q_goto 15 dX10_removeLastCell_11 rfl ?_
    refine q_callVv (ν := mX10_refused) dX10_removeLastCell_15 uw_1000 vX10_refused (c_X10_refused hG S (1)) (Nat.le_of_ble_eq_true rfl) rfl rfl rfl rfl (Nat.le_of_ble_eq_true rfl) (Nat.le_of_ble_eq_true rfl) (Nat.le_of_ble_eq_true rfl) 0 (Nat.le_of_ble_eq_true rfl) ?_
    refine wp_w (w2 := mixW g (s_RF S (1))) rfl ?_
    refine wp_top (y := 1) (pI_t (by decide)) ?_
    refine q_if_eq 23 dX10_removeLastCell_18 rfl (fun c18 => ?_) (fun c18 => ?_)
    · first | exact absurd (by decide) c18 | exact absurd c18 (by decide)
    · refine q_iconst (v := 0) dX10_removeLastCell_21 rfl ?_
      exact q_iret dX10_removeLastCell_22 rfl ⟨rfl, rfl⟩
set_option maxRecDepth 100000 in
set_option maxHeartbeats 4000000 in
theorem c_X10_setRecovery {g : G0} (hG : Gd g) (S : SS) (c : Nat) (d : Nat) (r : Nat) (N : Nat) (p : Nat) (q : Nat) (h1 : (z_NW S) 0 = nI N) (h2 : N ≤ 6) (h3 : (z_NX S) = nI p) (h4 : p < 14) (h5 : (z_AC S) = nI q) (h6 : q ≤ 14) (h7 : c < N) (h8 : d < 2) (h9 : r ≤ 100) : ctv g mX10_setRecovery [.ref 26, .int (nI c), .int (nI d), .int (nI r)] (mixW g S) (.int ((z_NW S) (1 + 2 * c + d))) (mixW g (s_RF (s_AC (s_NX (s_NW (s_DI S (va_cpy (z_NW S) (z_DI S) 0 (p * 44) 44)) (upd (z_NW S) (1 + 2 * c + d) (nI r))) (nI ((p + 1) % 14))) (nI (min (q + 1) 14))) (0))) := by
  refine ct_of hG [some (.ref 26), some (.int (nI c)), some (.int (nI d)), some (.int (nI r)), none] rfl rfl rfl (Nat.le_of_ble_eq_true rfl) (fun h => ?_) rfl
  refine q_aload_n dX10_setRecovery_0 rfl ?_
  refine q_aload_n dX10_setRecovery_1 rfl ?_
  refine q_iload_n dX10_setRecovery_2 rfl ?_
  refine q_callVv (ν := mX10_isCell) dX10_setRecovery_3 uw_1053 vX10_isCell (c_X10_isCell hG S ((nI c)) (N) h1 h2) (Nat.le_of_ble_eq_true rfl) rfl rfl rfl rfl (Nat.le_of_ble_eq_true rfl) (Nat.le_of_ble_eq_true rfl) (Nat.le_of_ble_eq_true rfl) 0 (Nat.le_of_ble_eq_true rfl) ?_
  refine q_if_eq 16 dX10_setRecovery_6 rfl (fun c6 => ?_) (fun c6 => ?_)
  · exact absurd (cel_ok h1 h2 (by omega)) (pI_0 c6)
  · refine q_iload_n dX10_setRecovery_9 rfl ?_
    refine q_callSv (ν := mX10_isBit) dX10_setRecovery_10 uw_1057 vX10_isBit (c_X10_isBit hG S ((nI d))) rfl rfl (Nat.le_of_ble_eq_true rfl) (Nat.le_of_ble_eq_true rfl) (Nat.le_of_ble_eq_true rfl) 0 (Nat.le_of_ble_eq_true rfl) ?_
    refine q_if_ne 20 dX10_setRecovery_13 rfl (fun c13 => ?_) (fun c13 => ?_)
    · refine q_iload_n dX10_setRecovery_20 rfl ?_
      refine q_i2l dX10_setRecovery_21 ?_
      refine q_lconst (v := 0) dX10_setRecovery_22 rfl ?_
      refine q_ldc2 dX10_setRecovery_23 uw_1076 ?_
      refine q_callSv (ν := mX10_in) dX10_setRecovery_26 uw_997 vX10_in (c_X10_in hG S (((nI r : Int32).toInt64)) (0) (100)) rfl rfl (Nat.le_of_ble_eq_true rfl) (Nat.le_of_ble_eq_true rfl) (Nat.le_of_ble_eq_true rfl) 0 (Nat.le_of_ble_eq_true rfl) ?_
      refine wp_top (y := pI (0 ≤ (nI r) ∧ (nI r) ≤ 100)) (inI (l2 := 0) (u2 := 100) rfl rfl) ?_
      refine q_if_ne 36 dX10_setRecovery_29 rfl (fun c29 => ?_) (fun c29 => ?_)
      · refine q_iconst (v := 0) dX10_setRecovery_36 rfl ?_
        refine q_callVv (ν := mX10_refused) dX10_setRecovery_37 uw_1000 vX10_refused (c_X10_refused hG S (0)) (Nat.le_of_ble_eq_true rfl) rfl rfl rfl rfl (Nat.le_of_ble_eq_true rfl) (Nat.le_of_ble_eq_true rfl) (Nat.le_of_ble_eq_true rfl) 0 (Nat.le_of_ble_eq_true rfl) ?_
        refine wp_w (w2 := mixW g (s_RF S (0))) rfl ?_
        refine wp_top (y := 0) (pI_f (by decide)) ?_
        refine q_if_eq 45 dX10_setRecovery_40 rfl (fun c40 => ?_) (fun c40 => ?_)
        · refine q_aload_n dX10_setRecovery_45 rfl ?_
          refine q_callVu (ν := mX10_note) dX10_setRecovery_46 uw_1077 vX10_note (c_X10_note hG (s_RF S (0)) (p) (q) h3 h4 h5 h6) (Nat.le_of_ble_eq_true rfl) rfl rfl rfl rfl (Nat.le_of_ble_eq_true rfl) (Nat.le_of_ble_eq_true rfl) (Nat.le_of_ble_eq_true rfl) 0 (Nat.le_of_ble_eq_true rfl) ?_
          rw [sc_DI_RF, sc_NX_RF, sc_AC_RF]
          refine wp_w (w2 := mixW g (s_RF (s_AC (s_NX (s_DI S (va_cpy (z_NW S) (z_DI S) 0 (p * 44) 44)) (nI ((p + 1) % 14))) (nI (min (q + 1) 14))) (0))) rfl ?_
          refine q_aload_n dX10_setRecovery_49 rfl ?_
          refine q_get (j := 1) (v := .ref 27) dX10_setRecovery_50 (Nat.le_of_ble_eq_true rfl) rfl rfl iuX10 (Nat.le_of_ble_eq_true rfl) uw_925 rfl rfl ?_
          refine q_iconst (v := 1) dX10_setRecovery_53 rfl ?_
          refine q_iconst (v := 2) dX10_setRecovery_54 rfl ?_
          refine q_iload_n dX10_setRecovery_55 rfl ?_
          refine q_imul dX10_setRecovery_56 ?_
          refine q_iadd dX10_setRecovery_57 ?_
          refine q_iload_n dX10_setRecovery_58 rfl ?_
          refine q_iadd dX10_setRecovery_59 ?_
          refine q_iald (f := (z_NW S)) dX10_setRecovery_60 (Nat.le_of_ble_eq_true rfl) rfl (((1 + (2 * c)) + d)) (by simp only [fa_lit, pk_mul, nI_add]) (by omega) (Nat.le_of_ble_eq_true rfl) ?_
          refine q_ist4 dX10_setRecovery_61 (Nat.le_of_ble_eq_true rfl) rfl ?_
          refine q_aload_n dX10_setRecovery_63 rfl ?_
          refine q_get (j := 1) (v := .ref 27) dX10_setRecovery_64 (Nat.le_of_ble_eq_true rfl) rfl rfl iuX10 (Nat.le_of_ble_eq_true rfl) uw_925 rfl rfl ?_
          refine q_iconst (v := 1) dX10_setRecovery_67 rfl ?_
          refine q_iconst (v := 2) dX10_setRecovery_68 rfl ?_
          refine q_iload_n dX10_setRecovery_69 rfl ?_
          refine q_imul dX10_setRecovery_70 ?_
          refine q_iadd dX10_setRecovery_71 ?_
          refine q_iload_n dX10_setRecovery_72 rfl ?_
          refine q_iadd dX10_setRecovery_73 ?_
          refine q_iload_n dX10_setRecovery_74 rfl ?_
          refine q_iast (f := (z_NW S)) dX10_setRecovery_75 (Nat.le_of_ble_eq_true rfl) rfl (((1 + (2 * c)) + d)) (by simp only [fa_lit, pk_mul, nI_add]) (by omega) (Nat.le_of_ble_eq_true rfl) ?_
          refine wp_w (u_NW g _ _) ?_
          rw [sc_NW_RF, sc_NW_AC, sc_NW_NX]
          refine q_iload dX10_setRecovery_76 rfl ?_
          exact q_iret dX10_setRecovery_78 rfl ⟨rfl, rfl⟩
        · first | exact absurd (by decide) c40 | exact absurd c40 (by decide)
      · exact absurd (rng_ok (lo := 0) (hi := 100) (by omega) (by omega) (by omega)) (pI_0 c29)
    · exact absurd (two_ok (by omega)) (pI_0 c13)
set_option maxRecDepth 100000 in
set_option maxHeartbeats 4000000 in
theorem c_X10_setRecovery_x1 {g : G0} (hG : Gd g) (S : SS) (x : Int32) (y : Int32) (r : Int32) (N : Nat) (h1 : (z_NW S) 0 = nI N) (h2 : N ≤ 6) (h3 : ¬ ((0 ≤ x ∧ x < (z_NW S) 0) ∧ (y = 0 ∨ y = 1))) : ctv g mX10_setRecovery [.ref 26, .int x, .int y, .int r] (mixW g S) (.int (0)) (mixW g (s_RF S (1))) := by
  refine ct_of hG [some (.ref 26), some (.int (x)), some (.int (y)), some (.int (r)), none] rfl rfl rfl (Nat.le_of_ble_eq_true rfl) (fun h => ?_) rfl
  refine q_aload_n dX10_setRecovery_0 rfl ?_
  refine q_aload_n dX10_setRecovery_1 rfl ?_
  refine q_iload_n dX10_setRecovery_2 rfl ?_
  refine q_callVv (ν := mX10_isCell) dX10_setRecovery_3 uw_1053 vX10_isCell (c_X10_isCell hG S (x) (N) h1 h2) (Nat.le_of_ble_eq_true rfl) rfl rfl rfl rfl (Nat.le_of_ble_eq_true rfl) (Nat.le_of_ble_eq_true rfl) (Nat.le_of_ble_eq_true rfl) 0 (Nat.le_of_ble_eq_true rfl) ?_
  refine q_if_eq 16 dX10_setRecovery_6 rfl (fun c6 => ?_) (fun c6 => ?_)
  · refine q_iconst (v := 1) dX10_setRecovery_16 rfl ?_
    refine q_goto 37 dX10_setRecovery_17 rfl ?_
    refine q_callVv (ν := mX10_refused) dX10_setRecovery_37 uw_1000 vX10_refused (c_X10_refused hG S (1)) (Nat.le_of_ble_eq_true rfl) rfl rfl rfl rfl (Nat.le_of_ble_eq_true rfl) (Nat.le_of_ble_eq_true rfl) (Nat.le_of_ble_eq_true rfl) 0 (Nat.le_of_ble_eq_true rfl) ?_
    refine wp_w (w2 := mixW g (s_RF S (1))) rfl ?_
    refine wp_top (y := 1) (pI_t (by decide)) ?_
    refine q_if_eq 45 dX10_setRecovery_40 rfl (fun c40 => ?_) (fun c40 => ?_)
    · first | exact absurd (by decide) c40 | exact absurd c40 (by decide)
    · refine q_iconst (v := 0) dX10_setRecovery_43 rfl ?_
      exact q_iret dX10_setRecovery_44 rfl ⟨rfl, rfl⟩
  · refine q_iload_n dX10_setRecovery_9 rfl ?_
    refine q_callSv (ν := mX10_isBit) dX10_setRecovery_10 uw_1057 vX10_isBit (c_X10_isBit hG S (y)) rfl rfl (Nat.le_of_ble_eq_true rfl) (Nat.le_of_ble_eq_true rfl) (Nat.le_of_ble_eq_true rfl) 0 (Nat.le_of_ble_eq_true rfl) ?_
    refine q_if_ne 20 dX10_setRecovery_13 rfl (fun c13 => ?_) (fun c13 => ?_)
    · exact absurd ⟨pI_1 c6, pI_1 c13⟩ h3
    · refine q_iconst (v := 1) dX10_setRecovery_16 rfl ?_
      refine q_goto 37 dX10_setRecovery_17 rfl ?_
      refine q_callVv (ν := mX10_refused) dX10_setRecovery_37 uw_1000 vX10_refused (c_X10_refused hG S (1)) (Nat.le_of_ble_eq_true rfl) rfl rfl rfl rfl (Nat.le_of_ble_eq_true rfl) (Nat.le_of_ble_eq_true rfl) (Nat.le_of_ble_eq_true rfl) 0 (Nat.le_of_ble_eq_true rfl) ?_
      refine wp_w (w2 := mixW g (s_RF S (1))) rfl ?_
      refine wp_top (y := 1) (pI_t (by decide)) ?_
      refine q_if_eq 45 dX10_setRecovery_40 rfl (fun c40 => ?_) (fun c40 => ?_)
      · first | exact absurd (by decide) c40 | exact absurd c40 (by decide)
      · refine q_iconst (v := 0) dX10_setRecovery_43 rfl ?_
        exact q_iret dX10_setRecovery_44 rfl ⟨rfl, rfl⟩
set_option maxRecDepth 100000 in
set_option maxHeartbeats 4000000 in
theorem c_X10_setRecovery_x2 {g : G0} (hG : Gd g) (S : SS) (c : Nat) (d : Nat) (r : Int32) (N : Nat) (h1 : (z_NW S) 0 = nI N) (h2 : N ≤ 6) (h3 : c < N) (h4 : d < 2) (h5 : ¬ (0 ≤ r ∧ r ≤ 100)) : ctv g mX10_setRecovery [.ref 26, .int (nI c), .int (nI d), .int r] (mixW g S) (.int (0)) (mixW g (s_RF S (2))) := by
  refine ct_of hG [some (.ref 26), some (.int (nI c)), some (.int (nI d)), some (.int (r)), none] rfl rfl rfl (Nat.le_of_ble_eq_true rfl) (fun h => ?_) rfl
  refine q_aload_n dX10_setRecovery_0 rfl ?_
  refine q_aload_n dX10_setRecovery_1 rfl ?_
  refine q_iload_n dX10_setRecovery_2 rfl ?_
  refine q_callVv (ν := mX10_isCell) dX10_setRecovery_3 uw_1053 vX10_isCell (c_X10_isCell hG S ((nI c)) (N) h1 h2) (Nat.le_of_ble_eq_true rfl) rfl rfl rfl rfl (Nat.le_of_ble_eq_true rfl) (Nat.le_of_ble_eq_true rfl) (Nat.le_of_ble_eq_true rfl) 0 (Nat.le_of_ble_eq_true rfl) ?_
  refine q_if_eq 16 dX10_setRecovery_6 rfl (fun c6 => ?_) (fun c6 => ?_)
  · exact absurd (cel_ok h1 h2 (by omega)) (pI_0 c6)
  · refine q_iload_n dX10_setRecovery_9 rfl ?_
    refine q_callSv (ν := mX10_isBit) dX10_setRecovery_10 uw_1057 vX10_isBit (c_X10_isBit hG S ((nI d))) rfl rfl (Nat.le_of_ble_eq_true rfl) (Nat.le_of_ble_eq_true rfl) (Nat.le_of_ble_eq_true rfl) 0 (Nat.le_of_ble_eq_true rfl) ?_
    refine q_if_ne 20 dX10_setRecovery_13 rfl (fun c13 => ?_) (fun c13 => ?_)
    · refine q_iload_n dX10_setRecovery_20 rfl ?_
      refine q_i2l dX10_setRecovery_21 ?_
      refine q_lconst (v := 0) dX10_setRecovery_22 rfl ?_
      refine q_ldc2 dX10_setRecovery_23 uw_1076 ?_
      refine q_callSv (ν := mX10_in) dX10_setRecovery_26 uw_997 vX10_in (c_X10_in hG S (((r : Int32).toInt64)) (0) (100)) rfl rfl (Nat.le_of_ble_eq_true rfl) (Nat.le_of_ble_eq_true rfl) (Nat.le_of_ble_eq_true rfl) 0 (Nat.le_of_ble_eq_true rfl) ?_
      refine wp_top (y := pI (0 ≤ r ∧ r ≤ 100)) (inI (l2 := 0) (u2 := 100) rfl rfl) ?_
      refine q_if_ne 36 dX10_setRecovery_29 rfl (fun c29 => ?_) (fun c29 => ?_)
      · exact absurd (pI_1 c29) h5
      · refine q_iconst (v := 2) dX10_setRecovery_32 rfl ?_
        refine q_goto 37 dX10_setRecovery_33 rfl ?_
        refine q_callVv (ν := mX10_refused) dX10_setRecovery_37 uw_1000 vX10_refused (c_X10_refused hG S (2)) (Nat.le_of_ble_eq_true rfl) rfl rfl rfl rfl (Nat.le_of_ble_eq_true rfl) (Nat.le_of_ble_eq_true rfl) (Nat.le_of_ble_eq_true rfl) 0 (Nat.le_of_ble_eq_true rfl) ?_
        refine wp_w (w2 := mixW g (s_RF S (2))) rfl ?_
        refine wp_top (y := 1) (pI_t (by decide)) ?_
        refine q_if_eq 45 dX10_setRecovery_40 rfl (fun c40 => ?_) (fun c40 => ?_)
        · first | exact absurd (by decide) c40 | exact absurd c40 (by decide)
        · refine q_iconst (v := 0) dX10_setRecovery_43 rfl ?_
          exact q_iret dX10_setRecovery_44 rfl ⟨rfl, rfl⟩
    · exact absurd (two_ok (by omega)) (pI_0 c13)
set_option maxRecDepth 100000 in
set_option maxHeartbeats 4000000 in
theorem c_X10_setDestination {g : G0} (hG : Gd g) (S : SS) (c : Nat) (d : Nat) (r : Nat) (N : Nat) (p : Nat) (q : Nat) (h1 : (z_NW S) 0 = nI N) (h2 : N ≤ 6) (h3 : (z_NX S) = nI p) (h4 : p < 14) (h5 : (z_AC S) = nI q) (h6 : q ≤ 14) (h7 : c < N) (h8 : d < 2) (h9 : desOk r) : ctv g mX10_setDestination [.ref 26, .int (nI c), .int (nI d), .int (nI r)] (mixW g S) (.int ((z_NW S) (13 + 2 * c + d))) (mixW g (s_RF (s_AC (s_NX (s_NW (s_DI S (va_cpy (z_NW S) (z_DI S) 0 (p * 44) 44)) (upd (z_NW S) (13 + 2 * c + d) (nI r))) (nI ((p + 1) % 14))) (nI (min (q + 1) 14))) (0))) := by
  refine ct_of hG [some (.ref 26), some (.int (nI c)), some (.int (nI d)), some (.int (nI r)), none] rfl rfl rfl (Nat.le_of_ble_eq_true rfl) (fun h => ?_) rfl
  refine q_aload_n dX10_setDestination_0 rfl ?_
  refine q_aload_n dX10_setDestination_1 rfl ?_
  refine q_iload_n dX10_setDestination_2 rfl ?_
  refine q_callVv (ν := mX10_isCell) dX10_setDestination_3 uw_1053 vX10_isCell (c_X10_isCell hG S ((nI c)) (N) h1 h2) (Nat.le_of_ble_eq_true rfl) rfl rfl rfl rfl (Nat.le_of_ble_eq_true rfl) (Nat.le_of_ble_eq_true rfl) (Nat.le_of_ble_eq_true rfl) 0 (Nat.le_of_ble_eq_true rfl) ?_
  refine q_if_eq 16 dX10_setDestination_6 rfl (fun c6 => ?_) (fun c6 => ?_)
  · exact absurd (cel_ok h1 h2 (by omega)) (pI_0 c6)
  · refine q_iload_n dX10_setDestination_9 rfl ?_
    refine q_callSv (ν := mX10_isBit) dX10_setDestination_10 uw_1057 vX10_isBit (c_X10_isBit hG S ((nI d))) rfl rfl (Nat.le_of_ble_eq_true rfl) (Nat.le_of_ble_eq_true rfl) (Nat.le_of_ble_eq_true rfl) 0 (Nat.le_of_ble_eq_true rfl) ?_
    refine q_if_ne 20 dX10_setDestination_13 rfl (fun c13 => ?_) (fun c13 => ?_)
    · refine q_iload_n dX10_setDestination_20 rfl ?_
      refine q_callSv (ν := mX10_isGoal) dX10_setDestination_21 uw_1024 vX10_isGoal (c_X10_isGoal hG S ((nI r))) rfl rfl (Nat.le_of_ble_eq_true rfl) (Nat.le_of_ble_eq_true rfl) (Nat.le_of_ble_eq_true rfl) 0 (Nat.le_of_ble_eq_true rfl) ?_
      refine q_if_ne 31 dX10_setDestination_24 rfl (fun c24 => ?_) (fun c24 => ?_)
      · refine q_iconst (v := 0) dX10_setDestination_31 rfl ?_
        refine q_callVv (ν := mX10_refused) dX10_setDestination_32 uw_1000 vX10_refused (c_X10_refused hG S (0)) (Nat.le_of_ble_eq_true rfl) rfl rfl rfl rfl (Nat.le_of_ble_eq_true rfl) (Nat.le_of_ble_eq_true rfl) (Nat.le_of_ble_eq_true rfl) 0 (Nat.le_of_ble_eq_true rfl) ?_
        refine wp_w (w2 := mixW g (s_RF S (0))) rfl ?_
        refine wp_top (y := 0) (pI_f (by decide)) ?_
        refine q_if_eq 40 dX10_setDestination_35 rfl (fun c35 => ?_) (fun c35 => ?_)
        · refine q_aload_n dX10_setDestination_40 rfl ?_
          refine q_callVu (ν := mX10_note) dX10_setDestination_41 uw_1077 vX10_note (c_X10_note hG (s_RF S (0)) (p) (q) h3 h4 h5 h6) (Nat.le_of_ble_eq_true rfl) rfl rfl rfl rfl (Nat.le_of_ble_eq_true rfl) (Nat.le_of_ble_eq_true rfl) (Nat.le_of_ble_eq_true rfl) 0 (Nat.le_of_ble_eq_true rfl) ?_
          rw [sc_DI_RF, sc_NX_RF, sc_AC_RF]
          refine wp_w (w2 := mixW g (s_RF (s_AC (s_NX (s_DI S (va_cpy (z_NW S) (z_DI S) 0 (p * 44) 44)) (nI ((p + 1) % 14))) (nI (min (q + 1) 14))) (0))) rfl ?_
          refine q_aload_n dX10_setDestination_44 rfl ?_
          refine q_get (j := 1) (v := .ref 27) dX10_setDestination_45 (Nat.le_of_ble_eq_true rfl) rfl rfl iuX10 (Nat.le_of_ble_eq_true rfl) uw_925 rfl rfl ?_
          refine q_bipush (v := 13) dX10_setDestination_48 rfl ?_
          refine q_iconst (v := 2) dX10_setDestination_50 rfl ?_
          refine q_iload_n dX10_setDestination_51 rfl ?_
          refine q_imul dX10_setDestination_52 ?_
          refine q_iadd dX10_setDestination_53 ?_
          refine q_iload_n dX10_setDestination_54 rfl ?_
          refine q_iadd dX10_setDestination_55 ?_
          refine q_iald (f := (z_NW S)) dX10_setDestination_56 (Nat.le_of_ble_eq_true rfl) rfl (((13 + (2 * c)) + d)) (by simp only [fa_lit, pk_mul, nI_add]) (by omega) (Nat.le_of_ble_eq_true rfl) ?_
          refine q_ist4 dX10_setDestination_57 (Nat.le_of_ble_eq_true rfl) rfl ?_
          refine q_aload_n dX10_setDestination_59 rfl ?_
          refine q_get (j := 1) (v := .ref 27) dX10_setDestination_60 (Nat.le_of_ble_eq_true rfl) rfl rfl iuX10 (Nat.le_of_ble_eq_true rfl) uw_925 rfl rfl ?_
          refine q_bipush (v := 13) dX10_setDestination_63 rfl ?_
          refine q_iconst (v := 2) dX10_setDestination_65 rfl ?_
          refine q_iload_n dX10_setDestination_66 rfl ?_
          refine q_imul dX10_setDestination_67 ?_
          refine q_iadd dX10_setDestination_68 ?_
          refine q_iload_n dX10_setDestination_69 rfl ?_
          refine q_iadd dX10_setDestination_70 ?_
          refine q_iload_n dX10_setDestination_71 rfl ?_
          refine q_iast (f := (z_NW S)) dX10_setDestination_72 (Nat.le_of_ble_eq_true rfl) rfl (((13 + (2 * c)) + d)) (by simp only [fa_lit, pk_mul, nI_add]) (by omega) (Nat.le_of_ble_eq_true rfl) ?_
          refine wp_w (u_NW g _ _) ?_
          rw [sc_NW_RF, sc_NW_AC, sc_NW_NX]
          refine q_iload dX10_setDestination_73 rfl ?_
          exact q_iret dX10_setDestination_75 rfl ⟨rfl, rfl⟩
        · first | exact absurd (by decide) c35 | exact absurd c35 (by decide)
      · exact absurd (des_ok h9) (pI_0 c24)
    · exact absurd (two_ok (by omega)) (pI_0 c13)
set_option maxRecDepth 100000 in
set_option maxHeartbeats 4000000 in
theorem c_X10_setDestination_x1 {g : G0} (hG : Gd g) (S : SS) (x : Int32) (y : Int32) (r : Int32) (N : Nat) (h1 : (z_NW S) 0 = nI N) (h2 : N ≤ 6) (h3 : ¬ ((0 ≤ x ∧ x < (z_NW S) 0) ∧ (y = 0 ∨ y = 1))) : ctv g mX10_setDestination [.ref 26, .int x, .int y, .int r] (mixW g S) (.int (0)) (mixW g (s_RF S (1))) := by
  refine ct_of hG [some (.ref 26), some (.int (x)), some (.int (y)), some (.int (r)), none] rfl rfl rfl (Nat.le_of_ble_eq_true rfl) (fun h => ?_) rfl
  refine q_aload_n dX10_setDestination_0 rfl ?_
  refine q_aload_n dX10_setDestination_1 rfl ?_
  refine q_iload_n dX10_setDestination_2 rfl ?_
  refine q_callVv (ν := mX10_isCell) dX10_setDestination_3 uw_1053 vX10_isCell (c_X10_isCell hG S (x) (N) h1 h2) (Nat.le_of_ble_eq_true rfl) rfl rfl rfl rfl (Nat.le_of_ble_eq_true rfl) (Nat.le_of_ble_eq_true rfl) (Nat.le_of_ble_eq_true rfl) 0 (Nat.le_of_ble_eq_true rfl) ?_
  refine q_if_eq 16 dX10_setDestination_6 rfl (fun c6 => ?_) (fun c6 => ?_)
  · refine q_iconst (v := 1) dX10_setDestination_16 rfl ?_
    refine q_goto 32 dX10_setDestination_17 rfl ?_
    refine q_callVv (ν := mX10_refused) dX10_setDestination_32 uw_1000 vX10_refused (c_X10_refused hG S (1)) (Nat.le_of_ble_eq_true rfl) rfl rfl rfl rfl (Nat.le_of_ble_eq_true rfl) (Nat.le_of_ble_eq_true rfl) (Nat.le_of_ble_eq_true rfl) 0 (Nat.le_of_ble_eq_true rfl) ?_
    refine wp_w (w2 := mixW g (s_RF S (1))) rfl ?_
    refine wp_top (y := 1) (pI_t (by decide)) ?_
    refine q_if_eq 40 dX10_setDestination_35 rfl (fun c35 => ?_) (fun c35 => ?_)
    · first | exact absurd (by decide) c35 | exact absurd c35 (by decide)
    · refine q_iconst (v := 0) dX10_setDestination_38 rfl ?_
      exact q_iret dX10_setDestination_39 rfl ⟨rfl, rfl⟩
  · refine q_iload_n dX10_setDestination_9 rfl ?_
    refine q_callSv (ν := mX10_isBit) dX10_setDestination_10 uw_1057 vX10_isBit (c_X10_isBit hG S (y)) rfl rfl (Nat.le_of_ble_eq_true rfl) (Nat.le_of_ble_eq_true rfl) (Nat.le_of_ble_eq_true rfl) 0 (Nat.le_of_ble_eq_true rfl) ?_
    refine q_if_ne 20 dX10_setDestination_13 rfl (fun c13 => ?_) (fun c13 => ?_)
    · exact absurd ⟨pI_1 c6, pI_1 c13⟩ h3
    · refine q_iconst (v := 1) dX10_setDestination_16 rfl ?_
      refine q_goto 32 dX10_setDestination_17 rfl ?_
      refine q_callVv (ν := mX10_refused) dX10_setDestination_32 uw_1000 vX10_refused (c_X10_refused hG S (1)) (Nat.le_of_ble_eq_true rfl) rfl rfl rfl rfl (Nat.le_of_ble_eq_true rfl) (Nat.le_of_ble_eq_true rfl) (Nat.le_of_ble_eq_true rfl) 0 (Nat.le_of_ble_eq_true rfl) ?_
      refine wp_w (w2 := mixW g (s_RF S (1))) rfl ?_
      refine wp_top (y := 1) (pI_t (by decide)) ?_
      refine q_if_eq 40 dX10_setDestination_35 rfl (fun c35 => ?_) (fun c35 => ?_)
      · first | exact absurd (by decide) c35 | exact absurd c35 (by decide)
      · refine q_iconst (v := 0) dX10_setDestination_38 rfl ?_
        exact q_iret dX10_setDestination_39 rfl ⟨rfl, rfl⟩
set_option maxRecDepth 100000 in
set_option maxHeartbeats 4000000 in
theorem c_X10_setDestination_x2 {g : G0} (hG : Gd g) (S : SS) (c : Nat) (d : Nat) (r : Int32) (N : Nat) (h1 : (z_NW S) 0 = nI N) (h2 : N ≤ 6) (h3 : c < N) (h4 : d < 2) (h5 : ¬ ((r = 8 ∨ r = 9) ∨ (0 ≤ r ∧ r < 6))) : ctv g mX10_setDestination [.ref 26, .int (nI c), .int (nI d), .int r] (mixW g S) (.int (0)) (mixW g (s_RF S (2))) := by
  refine ct_of hG [some (.ref 26), some (.int (nI c)), some (.int (nI d)), some (.int (r)), none] rfl rfl rfl (Nat.le_of_ble_eq_true rfl) (fun h => ?_) rfl
  refine q_aload_n dX10_setDestination_0 rfl ?_
  refine q_aload_n dX10_setDestination_1 rfl ?_
  refine q_iload_n dX10_setDestination_2 rfl ?_
  refine q_callVv (ν := mX10_isCell) dX10_setDestination_3 uw_1053 vX10_isCell (c_X10_isCell hG S ((nI c)) (N) h1 h2) (Nat.le_of_ble_eq_true rfl) rfl rfl rfl rfl (Nat.le_of_ble_eq_true rfl) (Nat.le_of_ble_eq_true rfl) (Nat.le_of_ble_eq_true rfl) 0 (Nat.le_of_ble_eq_true rfl) ?_
  refine q_if_eq 16 dX10_setDestination_6 rfl (fun c6 => ?_) (fun c6 => ?_)
  · exact absurd (cel_ok h1 h2 (by omega)) (pI_0 c6)
  · refine q_iload_n dX10_setDestination_9 rfl ?_
    refine q_callSv (ν := mX10_isBit) dX10_setDestination_10 uw_1057 vX10_isBit (c_X10_isBit hG S ((nI d))) rfl rfl (Nat.le_of_ble_eq_true rfl) (Nat.le_of_ble_eq_true rfl) (Nat.le_of_ble_eq_true rfl) 0 (Nat.le_of_ble_eq_true rfl) ?_
    refine q_if_ne 20 dX10_setDestination_13 rfl (fun c13 => ?_) (fun c13 => ?_)
    · refine q_iload_n dX10_setDestination_20 rfl ?_
      refine q_callSv (ν := mX10_isGoal) dX10_setDestination_21 uw_1024 vX10_isGoal (c_X10_isGoal hG S (r)) rfl rfl (Nat.le_of_ble_eq_true rfl) (Nat.le_of_ble_eq_true rfl) (Nat.le_of_ble_eq_true rfl) 0 (Nat.le_of_ble_eq_true rfl) ?_
      refine q_if_ne 31 dX10_setDestination_24 rfl (fun c24 => ?_) (fun c24 => ?_)
      · exact absurd (pI_1 c24) h5
      · refine q_iconst (v := 2) dX10_setDestination_27 rfl ?_
        refine q_goto 32 dX10_setDestination_28 rfl ?_
        refine q_callVv (ν := mX10_refused) dX10_setDestination_32 uw_1000 vX10_refused (c_X10_refused hG S (2)) (Nat.le_of_ble_eq_true rfl) rfl rfl rfl rfl (Nat.le_of_ble_eq_true rfl) (Nat.le_of_ble_eq_true rfl) (Nat.le_of_ble_eq_true rfl) 0 (Nat.le_of_ble_eq_true rfl) ?_
        refine wp_w (w2 := mixW g (s_RF S (2))) rfl ?_
        refine wp_top (y := 1) (pI_t (by decide)) ?_
        refine q_if_eq 40 dX10_setDestination_35 rfl (fun c35 => ?_) (fun c35 => ?_)
        · first | exact absurd (by decide) c35 | exact absurd c35 (by decide)
        · refine q_iconst (v := 0) dX10_setDestination_38 rfl ?_
          exact q_iret dX10_setDestination_39 rfl ⟨rfl, rfl⟩
    · exact absurd (two_ok (by omega)) (pI_0 c13)
set_option maxRecDepth 100000 in
set_option maxHeartbeats 4000000 in
theorem c_X10_setFeed {g : G0} (hG : Gd g) (S : SS) (c : Nat) (a : Nat) (b : Nat) (N : Nat) (p : Nat) (q : Nat) (h1 : (z_NW S) 0 = nI N) (h2 : N ≤ 6) (h3 : (z_NX S) = nI p) (h4 : p < 14) (h5 : (z_AC S) = nI q) (h6 : q ≤ 14) (h7 : c ≤ 5) (h8 : a ≤ 999) (h9 : b ≤ 999) : ctv g mX10_setFeed [.ref 26, .int (nI c), .int (nI a), .int (nI b)] (mixW g S) (.int ((z_NW S) 25)) (mixW g (s_RF (s_AC (s_NX (s_NW (s_DI S (va_cpy (z_NW S) (z_DI S) 0 (p * 44) 44)) (upd (upd (upd (z_NW S) 25 (nI c)) 26 (nI a)) 27 (nI b))) (nI ((p + 1) % 14))) (nI (min (q + 1) 14))) (0))) := by
  refine ct_of hG [some (.ref 26), some (.int (nI c)), some (.int (nI a)), some (.int (nI b)), none] rfl rfl rfl (Nat.le_of_ble_eq_true rfl) (fun h => ?_) rfl
  refine q_aload_n dX10_setFeed_0 rfl ?_
  refine q_iload_n dX10_setFeed_1 rfl ?_
  refine q_i2l dX10_setFeed_2 ?_
  refine q_lconst (v := 0) dX10_setFeed_3 rfl ?_
  refine q_ldc2 dX10_setFeed_4 uw_1027 ?_
  refine q_callSv (ν := mX10_in) dX10_setFeed_7 uw_997 vX10_in (c_X10_in hG S (((nI c : Int32).toInt64)) (0) (5)) rfl rfl (Nat.le_of_ble_eq_true rfl) (Nat.le_of_ble_eq_true rfl) (Nat.le_of_ble_eq_true rfl) 0 (Nat.le_of_ble_eq_true rfl) ?_
  refine wp_top (y := pI (0 ≤ (nI c) ∧ (nI c) ≤ 5)) (inI (l2 := 0) (u2 := 5) rfl rfl) ?_
  refine q_if_eq 41 dX10_setFeed_10 rfl (fun c10 => ?_) (fun c10 => ?_)
  · exact absurd (rng_ok (lo := 0) (hi := 5) (by omega) (by omega) (by omega)) (pI_0 c10)
  · refine q_iload_n dX10_setFeed_13 rfl ?_
    refine q_i2l dX10_setFeed_14 ?_
    refine q_lconst (v := 0) dX10_setFeed_15 rfl ?_
    refine q_ldc2 dX10_setFeed_16 uw_1097 ?_
    refine q_callSv (ν := mX10_in) dX10_setFeed_19 uw_997 vX10_in (c_X10_in hG S (((nI a : Int32).toInt64)) (0) (999)) rfl rfl (Nat.le_of_ble_eq_true rfl) (Nat.le_of_ble_eq_true rfl) (Nat.le_of_ble_eq_true rfl) 0 (Nat.le_of_ble_eq_true rfl) ?_
    refine wp_top (y := pI (0 ≤ (nI a) ∧ (nI a) ≤ 999)) (inI (l2 := 0) (u2 := 999) rfl rfl) ?_
    refine q_if_eq 41 dX10_setFeed_22 rfl (fun c22 => ?_) (fun c22 => ?_)
    · exact absurd (rng_ok (lo := 0) (hi := 999) (by omega) (by omega) (by omega)) (pI_0 c22)
    · refine q_iload_n dX10_setFeed_25 rfl ?_
      refine q_i2l dX10_setFeed_26 ?_
      refine q_lconst (v := 0) dX10_setFeed_27 rfl ?_
      refine q_ldc2 dX10_setFeed_28 uw_1097 ?_
      refine q_callSv (ν := mX10_in) dX10_setFeed_31 uw_997 vX10_in (c_X10_in hG S (((nI b : Int32).toInt64)) (0) (999)) rfl rfl (Nat.le_of_ble_eq_true rfl) (Nat.le_of_ble_eq_true rfl) (Nat.le_of_ble_eq_true rfl) 0 (Nat.le_of_ble_eq_true rfl) ?_
      refine wp_top (y := pI (0 ≤ (nI b) ∧ (nI b) ≤ 999)) (inI (l2 := 0) (u2 := 999) rfl rfl) ?_
      refine q_if_eq 41 dX10_setFeed_34 rfl (fun c34 => ?_) (fun c34 => ?_)
      · exact absurd (rng_ok (lo := 0) (hi := 999) (by omega) (by omega) (by omega)) (pI_0 c34)
      · refine q_iconst (v := 0) dX10_setFeed_37 rfl ?_
        refine q_goto 42 dX10_setFeed_38 rfl ?_
        refine q_callVv (ν := mX10_refused) dX10_setFeed_42 uw_1000 vX10_refused (c_X10_refused hG S (0)) (Nat.le_of_ble_eq_true rfl) rfl rfl rfl rfl (Nat.le_of_ble_eq_true rfl) (Nat.le_of_ble_eq_true rfl) (Nat.le_of_ble_eq_true rfl) 0 (Nat.le_of_ble_eq_true rfl) ?_
        refine wp_w (w2 := mixW g (s_RF S (0))) rfl ?_
        refine wp_top (y := 0) (pI_f (by decide)) ?_
        refine q_if_eq 50 dX10_setFeed_45 rfl (fun c45 => ?_) (fun c45 => ?_)
        · refine q_aload_n dX10_setFeed_50 rfl ?_
          refine q_callVu (ν := mX10_note) dX10_setFeed_51 uw_1077 vX10_note (c_X10_note hG (s_RF S (0)) (p) (q) h3 h4 h5 h6) (Nat.le_of_ble_eq_true rfl) rfl rfl rfl rfl (Nat.le_of_ble_eq_true rfl) (Nat.le_of_ble_eq_true rfl) (Nat.le_of_ble_eq_true rfl) 0 (Nat.le_of_ble_eq_true rfl) ?_
          rw [sc_DI_RF, sc_NX_RF, sc_AC_RF]
          refine wp_w (w2 := mixW g (s_RF (s_AC (s_NX (s_DI S (va_cpy (z_NW S) (z_DI S) 0 (p * 44) 44)) (nI ((p + 1) % 14))) (nI (min (q + 1) 14))) (0))) rfl ?_
          refine q_aload_n dX10_setFeed_54 rfl ?_
          refine q_get (j := 1) (v := .ref 27) dX10_setFeed_55 (Nat.le_of_ble_eq_true rfl) rfl rfl iuX10 (Nat.le_of_ble_eq_true rfl) uw_925 rfl rfl ?_
          refine q_bipush (v := 25) dX10_setFeed_58 rfl ?_
          refine q_iald (f := (z_NW S)) dX10_setFeed_60 (Nat.le_of_ble_eq_true rfl) rfl (25) rfl (Nat.le_of_ble_eq_true rfl) (Nat.le_of_ble_eq_true rfl) ?_
          refine q_ist4 dX10_setFeed_61 (Nat.le_of_ble_eq_true rfl) rfl ?_
          refine q_aload_n dX10_setFeed_63 rfl ?_
          refine q_get (j := 1) (v := .ref 27) dX10_setFeed_64 (Nat.le_of_ble_eq_true rfl) rfl rfl iuX10 (Nat.le_of_ble_eq_true rfl) uw_925 rfl rfl ?_
          refine q_bipush (v := 25) dX10_setFeed_67 rfl ?_
          refine q_iload_n dX10_setFeed_69 rfl ?_
          refine q_iast (f := (z_NW S)) dX10_setFeed_70 (Nat.le_of_ble_eq_true rfl) rfl (25) rfl (Nat.le_of_ble_eq_true rfl) (Nat.le_of_ble_eq_true rfl) ?_
          refine wp_w (u_NW g _ _) ?_
          rw [sc_NW_RF, sc_NW_AC, sc_NW_NX]
          refine q_aload_n dX10_setFeed_71 rfl ?_
          refine q_get (j := 1) (v := .ref 27) dX10_setFeed_72 (Nat.le_of_ble_eq_true rfl) rfl rfl iuX10 (Nat.le_of_ble_eq_true rfl) uw_925 rfl rfl ?_
          refine q_bipush (v := 26) dX10_setFeed_75 rfl ?_
          refine q_iload_n dX10_setFeed_77 rfl ?_
          refine q_iast (f := (upd (z_NW S) (25) (nI c))) dX10_setFeed_78 (Nat.le_of_ble_eq_true rfl) rfl (26) rfl (Nat.le_of_ble_eq_true rfl) (Nat.le_of_ble_eq_true rfl) ?_
          refine wp_w (u_NW g _ _) ?_
          rw [sc_NW_RF, sc_NW_AC, sc_NW_NX, ss_NW]
          refine q_aload_n dX10_setFeed_79 rfl ?_
          refine q_get (j := 1) (v := .ref 27) dX10_setFeed_80 (Nat.le_of_ble_eq_true rfl) rfl rfl iuX10 (Nat.le_of_ble_eq_true rfl) uw_925 rfl rfl ?_
          refine q_bipush (v := 27) dX10_setFeed_83 rfl ?_
          refine q_iload_n dX10_setFeed_85 rfl ?_
          refine q_iast (f := (upd (upd (z_NW S) (25) (nI c)) (26) (nI a))) dX10_setFeed_86 (Nat.le_of_ble_eq_true rfl) rfl (27) rfl (Nat.le_of_ble_eq_true rfl) (Nat.le_of_ble_eq_true rfl) ?_
          refine wp_w (u_NW g _ _) ?_
          rw [sc_NW_RF, sc_NW_AC, sc_NW_NX, ss_NW]
          refine q_iload dX10_setFeed_87 rfl ?_
          exact q_iret dX10_setFeed_89 rfl ⟨rfl, rfl⟩
        · first | exact absurd (by decide) c45 | exact absurd c45 (by decide)
set_option maxRecDepth 100000 in
set_option maxHeartbeats 4000000 in
theorem c_X10_setFeed_x {g : G0} (hG : Gd g) (S : SS) (c : Int32) (a : Int32) (b : Int32)  (h1 : ¬ ((0 ≤ c ∧ c ≤ 5) ∧ (0 ≤ a ∧ a ≤ 999) ∧ (0 ≤ b ∧ b ≤ 999))) : ctv g mX10_setFeed [.ref 26, .int c, .int a, .int b] (mixW g S) (.int (0)) (mixW g (s_RF S (1))) := by
  refine ct_of hG [some (.ref 26), some (.int (c)), some (.int (a)), some (.int (b)), none] rfl rfl rfl (Nat.le_of_ble_eq_true rfl) (fun h => ?_) rfl
  refine q_aload_n dX10_setFeed_0 rfl ?_
  refine q_iload_n dX10_setFeed_1 rfl ?_
  refine q_i2l dX10_setFeed_2 ?_
  refine q_lconst (v := 0) dX10_setFeed_3 rfl ?_
  refine q_ldc2 dX10_setFeed_4 uw_1027 ?_
  refine q_callSv (ν := mX10_in) dX10_setFeed_7 uw_997 vX10_in (c_X10_in hG S (((c : Int32).toInt64)) (0) (5)) rfl rfl (Nat.le_of_ble_eq_true rfl) (Nat.le_of_ble_eq_true rfl) (Nat.le_of_ble_eq_true rfl) 0 (Nat.le_of_ble_eq_true rfl) ?_
  refine wp_top (y := pI (0 ≤ c ∧ c ≤ 5)) (inI (l2 := 0) (u2 := 5) rfl rfl) ?_
  refine q_if_eq 41 dX10_setFeed_10 rfl (fun c10 => ?_) (fun c10 => ?_)
  · refine q_iconst (v := 1) dX10_setFeed_41 rfl ?_
    refine q_callVv (ν := mX10_refused) dX10_setFeed_42 uw_1000 vX10_refused (c_X10_refused hG S (1)) (Nat.le_of_ble_eq_true rfl) rfl rfl rfl rfl (Nat.le_of_ble_eq_true rfl) (Nat.le_of_ble_eq_true rfl) (Nat.le_of_ble_eq_true rfl) 0 (Nat.le_of_ble_eq_true rfl) ?_
    refine wp_w (w2 := mixW g (s_RF S (1))) rfl ?_
    refine wp_top (y := 1) (pI_t (by decide)) ?_
    refine q_if_eq 50 dX10_setFeed_45 rfl (fun c45 => ?_) (fun c45 => ?_)
    · first | exact absurd (by decide) c45 | exact absurd c45 (by decide)
    · refine q_iconst (v := 0) dX10_setFeed_48 rfl ?_
      exact q_iret dX10_setFeed_49 rfl ⟨rfl, rfl⟩
  · refine q_iload_n dX10_setFeed_13 rfl ?_
    refine q_i2l dX10_setFeed_14 ?_
    refine q_lconst (v := 0) dX10_setFeed_15 rfl ?_
    refine q_ldc2 dX10_setFeed_16 uw_1097 ?_
    refine q_callSv (ν := mX10_in) dX10_setFeed_19 uw_997 vX10_in (c_X10_in hG S (((a : Int32).toInt64)) (0) (999)) rfl rfl (Nat.le_of_ble_eq_true rfl) (Nat.le_of_ble_eq_true rfl) (Nat.le_of_ble_eq_true rfl) 0 (Nat.le_of_ble_eq_true rfl) ?_
    refine wp_top (y := pI (0 ≤ a ∧ a ≤ 999)) (inI (l2 := 0) (u2 := 999) rfl rfl) ?_
    refine q_if_eq 41 dX10_setFeed_22 rfl (fun c22 => ?_) (fun c22 => ?_)
    · refine q_iconst (v := 1) dX10_setFeed_41 rfl ?_
      refine q_callVv (ν := mX10_refused) dX10_setFeed_42 uw_1000 vX10_refused (c_X10_refused hG S (1)) (Nat.le_of_ble_eq_true rfl) rfl rfl rfl rfl (Nat.le_of_ble_eq_true rfl) (Nat.le_of_ble_eq_true rfl) (Nat.le_of_ble_eq_true rfl) 0 (Nat.le_of_ble_eq_true rfl) ?_
      refine wp_w (w2 := mixW g (s_RF S (1))) rfl ?_
      refine wp_top (y := 1) (pI_t (by decide)) ?_
      refine q_if_eq 50 dX10_setFeed_45 rfl (fun c45 => ?_) (fun c45 => ?_)
      · first | exact absurd (by decide) c45 | exact absurd c45 (by decide)
      · refine q_iconst (v := 0) dX10_setFeed_48 rfl ?_
        exact q_iret dX10_setFeed_49 rfl ⟨rfl, rfl⟩
    · refine q_iload_n dX10_setFeed_25 rfl ?_
      refine q_i2l dX10_setFeed_26 ?_
      refine q_lconst (v := 0) dX10_setFeed_27 rfl ?_
      refine q_ldc2 dX10_setFeed_28 uw_1097 ?_
      refine q_callSv (ν := mX10_in) dX10_setFeed_31 uw_997 vX10_in (c_X10_in hG S (((b : Int32).toInt64)) (0) (999)) rfl rfl (Nat.le_of_ble_eq_true rfl) (Nat.le_of_ble_eq_true rfl) (Nat.le_of_ble_eq_true rfl) 0 (Nat.le_of_ble_eq_true rfl) ?_
      refine wp_top (y := pI (0 ≤ b ∧ b ≤ 999)) (inI (l2 := 0) (u2 := 999) rfl rfl) ?_
      refine q_if_eq 41 dX10_setFeed_34 rfl (fun c34 => ?_) (fun c34 => ?_)
      · refine q_iconst (v := 1) dX10_setFeed_41 rfl ?_
        refine q_callVv (ν := mX10_refused) dX10_setFeed_42 uw_1000 vX10_refused (c_X10_refused hG S (1)) (Nat.le_of_ble_eq_true rfl) rfl rfl rfl rfl (Nat.le_of_ble_eq_true rfl) (Nat.le_of_ble_eq_true rfl) (Nat.le_of_ble_eq_true rfl) 0 (Nat.le_of_ble_eq_true rfl) ?_
        refine wp_w (w2 := mixW g (s_RF S (1))) rfl ?_
        refine wp_top (y := 1) (pI_t (by decide)) ?_
        refine q_if_eq 50 dX10_setFeed_45 rfl (fun c45 => ?_) (fun c45 => ?_)
        · first | exact absurd (by decide) c45 | exact absurd c45 (by decide)
        · refine q_iconst (v := 0) dX10_setFeed_48 rfl ?_
          exact q_iret dX10_setFeed_49 rfl ⟨rfl, rfl⟩
      · exact absurd ⟨pI_1 c10, pI_1 c22, pI_1 c34⟩ h1
set_option maxRecDepth 100000 in
set_option maxHeartbeats 4000000 in
theorem l_X10_drain1 {g : G0} {h : G1} (hG : Gd g) (S : SS) {Q : State → Prop}  (k : wp g h mX10_drain (mixW g (s_NW S (zerF (z_NW S) (28 + 12)))) [some (.ref 26), some (.int (smM (z_NW S) 12)), some (.int (nI 12))] [] 0 Q 47) : ∀ (n i : Nat), i + n = 12 → wp g h mX10_drain (mixW g (s_NW S (zerF (z_NW S) (28 + i)))) [some (.ref 26), some (.int (smM (z_NW S) i)), some (.int (nI i))] [] 0 Q 13 := by
  intro n
  induction n with
  | zero =>
    intro i hq1
    obtain rfl : 12 = i := by omega
    refine q_iload_n dX10_drain_13 rfl ?_
    refine q_bipush (v := 12) dX10_drain_14 rfl ?_
    refine q_icmp_ge 47 dX10_drain_16 rfl (fun c16 => ?_) (fun c16 => ?_)
    · have n16 := (nI_leI (a := 12) (b := 12) (by omega) (by omega)).mp c16
      exact k
    · have n16 := mt (nI_leI (a := 12) (b := 12) (by omega) (by omega)).mpr c16
      omega
  | succ n ih =>
    intro i hq1
    refine q_iload_n dX10_drain_13 rfl ?_
    refine q_bipush (v := 12) dX10_drain_14 rfl ?_
    refine q_icmp_ge 47 dX10_drain_16 rfl (fun c16 => ?_) (fun c16 => ?_)
    · have n16 := (nI_leI (a := 12) (b := i) (by omega) (by omega)).mp c16
      omega
    · have n16 := mt (nI_leI (a := 12) (b := i) (by omega) (by omega)).mpr c16
      refine q_iload_n dX10_drain_19 rfl ?_
      refine q_aload_n dX10_drain_20 rfl ?_
      refine q_get (j := 1) (v := .ref 27) dX10_drain_21 (Nat.le_of_ble_eq_true rfl) rfl rfl iuX10 (Nat.le_of_ble_eq_true rfl) uw_925 rfl rfl ?_
      refine q_bipush (v := 28) dX10_drain_24 rfl ?_
      refine q_iload_n dX10_drain_26 rfl ?_
      refine q_iadd dX10_drain_27 ?_
      refine q_iald (f := (zerF (z_NW S) (28 + i))) dX10_drain_28 (Nat.le_of_ble_eq_true rfl) rfl ((28 + i)) (by simp only [fa_lit, pk_mul, nI_add]) (by omega) (Nat.le_of_ble_eq_true rfl) ?_
      refine wp_top (y := z_NW S (28 + i)) (zer_at _ _) ?_
      refine q_iadd dX10_drain_29 ?_
      refine q_ist1 dX10_drain_30 (Nat.le_of_ble_eq_true rfl) rfl ?_
      refine q_aload_n dX10_drain_31 rfl ?_
      refine q_get (j := 1) (v := .ref 27) dX10_drain_32 (Nat.le_of_ble_eq_true rfl) rfl rfl iuX10 (Nat.le_of_ble_eq_true rfl) uw_925 rfl rfl ?_
      refine q_bipush (v := 28) dX10_drain_35 rfl ?_
      refine q_iload_n dX10_drain_37 rfl ?_
      refine q_iadd dX10_drain_38 ?_
      refine q_iconst (v := 0) dX10_drain_39 rfl ?_
      refine q_iast (f := (zerF (z_NW S) (28 + i))) dX10_drain_40 (Nat.le_of_ble_eq_true rfl) rfl ((28 + i)) (by simp only [fa_lit, pk_mul, nI_add]) (by omega) (Nat.le_of_ble_eq_true rfl) ?_
      refine wp_w (u_NW g _ _) ?_
      rw [ss_NW]
      refine q_iinc2 (k9 := 1) dX10_drain_41 rfl (Nat.le_of_ble_eq_true rfl) rfl ?_
      refine wp_L (L2 := [some (.ref 26), some (.int ((smM (z_NW S) i + z_NW S (28 + i)))), some (.int (nI (i + 1)))]) (by rw [show nI i + 1 = nI (i + 1) from nI_1 _]) ?_
      refine q_goto 13 dX10_drain_44 rfl ?_
      rw [upd_zer _ _ (by omega), show 28 + i + 1 = 28 + (i + 1) from rfl]
      exact ih (i + 1) (by omega)
set_option maxRecDepth 100000 in
set_option maxHeartbeats 4000000 in
theorem l_X10_drain2 {g : G0} {h : G1} (hG : Gd g) (S : SS) {Q : State → Prop} (v : Int32) (k : wp g h mX10_drain (mixW g (s_NW S (zerF (z_NW S) (40 + 4)))) [some (.ref 26), some (.int (v)), some (.int (nI 4))] [] 0 Q 70) : ∀ (n i : Nat), i + n = 4 → wp g h mX10_drain (mixW g (s_NW S (zerF (z_NW S) (40 + i)))) [some (.ref 26), some (.int (v)), some (.int (nI i))] [] 0 Q 49 := by
  intro n
  induction n with
  | zero =>
    intro i hq1
    obtain rfl : 4 = i := by omega
    refine q_iload_n dX10_drain_49 rfl ?_
    refine q_iconst (v := 4) dX10_drain_50 rfl ?_
    refine q_icmp_ge 70 dX10_drain_51 rfl (fun c51 => ?_) (fun c51 => ?_)
    · have n51 := (nI_leI (a := 4) (b := 4) (by omega) (by omega)).mp c51
      exact k
    · have n51 := mt (nI_leI (a := 4) (b := 4) (by omega) (by omega)).mpr c51
      omega
  | succ n ih =>
    intro i hq1
    refine q_iload_n dX10_drain_49 rfl ?_
    refine q_iconst (v := 4) dX10_drain_50 rfl ?_
    refine q_icmp_ge 70 dX10_drain_51 rfl (fun c51 => ?_) (fun c51 => ?_)
    · have n51 := (nI_leI (a := 4) (b := i) (by omega) (by omega)).mp c51
      omega
    · have n51 := mt (nI_leI (a := 4) (b := i) (by omega) (by omega)).mpr c51
      refine q_aload_n dX10_drain_54 rfl ?_
      refine q_get (j := 1) (v := .ref 27) dX10_drain_55 (Nat.le_of_ble_eq_true rfl) rfl rfl iuX10 (Nat.le_of_ble_eq_true rfl) uw_925 rfl rfl ?_
      refine q_bipush (v := 40) dX10_drain_58 rfl ?_
      refine q_iload_n dX10_drain_60 rfl ?_
      refine q_iadd dX10_drain_61 ?_
      refine q_iconst (v := 0) dX10_drain_62 rfl ?_
      refine q_iast (f := (zerF (z_NW S) (40 + i))) dX10_drain_63 (Nat.le_of_ble_eq_true rfl) rfl ((40 + i)) (by simp only [fa_lit, pk_mul, nI_add]) (by omega) (Nat.le_of_ble_eq_true rfl) ?_
      refine wp_w (u_NW g _ _) ?_
      rw [ss_NW]
      refine q_iinc2 (k9 := 1) dX10_drain_64 rfl (Nat.le_of_ble_eq_true rfl) rfl ?_
      refine wp_L (L2 := [some (.ref 26), some (.int (v)), some (.int (nI (i + 1)))]) (by rw [show nI i + 1 = nI (i + 1) from nI_1 _]) ?_
      refine q_goto 49 dX10_drain_67 rfl ?_
      rw [upd_zer _ _ (by omega), show 40 + i + 1 = 40 + (i + 1) from rfl]
      exact ih (i + 1) (by omega)
theorem zer_zer (f : Nat → Int32) {a b : Nat} (h : a ≤ b) : zerF (zerF f a) b = zerF f b := by
  funext j
  simp only [zerF]
  by_cases h1 : 28 ≤ j ∧ j < b
  · rw [if_pos h1, if_pos h1]
  · rw [if_neg h1, if_neg h1, if_neg (by omega)]
theorem zer_28' (f : Nat → Int32) : zerF f (28 + 0) = f := zer_28 f
set_option maxRecDepth 100000 in
set_option maxHeartbeats 4000000 in
theorem c_X10_drain {g : G0} (hG : Gd g) (S : SS)  (N : Nat) (p : Nat) (q : Nat) (h1 : (z_NW S) 0 = nI N) (h2 : N ≤ 6) (h3 : (z_NX S) = nI p) (h4 : p < 14) (h5 : (z_AC S) = nI q) (h6 : q ≤ 14) : ctv g mX10_drain [.ref 26] (mixW g S) (.int (smM (z_NW S) 12)) (mixW g (s_RF (s_AC (s_NX (s_NW (s_DI S (va_cpy (z_NW S) (z_DI S) 0 (p * 44) 44)) (zerF (z_NW S) 44)) (nI ((p + 1) % 14))) (nI (min (q + 1) 14))) (0))) := by
  refine ct_of hG [some (.ref 26), none, none] rfl rfl rfl (Nat.le_of_ble_eq_true rfl) (fun h => ?_) rfl
  refine q_aload_n dX10_drain_0 rfl ?_
  refine q_iconst (v := 0) dX10_drain_1 rfl ?_
  refine q_put (j := 0) (ty := .int) dX10_drain_2 (Nat.le_of_ble_eq_true rfl) rfl rfl iuX10 tyX10_ok nmX10 (Nat.le_of_ble_eq_true rfl) uw_924 rfl rfl rfl rfl rfl (Nat.le_of_ble_eq_true rfl) ?_
  refine wp_w (u_RF g _ _) ?_
  refine q_aload_n dX10_drain_5 rfl ?_
  refine q_callVu (ν := mX10_note) dX10_drain_6 uw_1077 vX10_note (c_X10_note hG (s_RF S (0)) (p) (q) h3 h4 h5 h6) (Nat.le_of_ble_eq_true rfl) rfl rfl rfl rfl (Nat.le_of_ble_eq_true rfl) (Nat.le_of_ble_eq_true rfl) (Nat.le_of_ble_eq_true rfl) 0 (Nat.le_of_ble_eq_true rfl) ?_
  rw [sc_DI_RF, sc_NX_RF, sc_AC_RF]
  refine wp_w (w2 := mixW g (s_RF (s_AC (s_NX (s_DI S (va_cpy (z_NW S) (z_DI S) 0 (p * 44) 44)) (nI ((p + 1) % 14))) (nI (min (q + 1) 14))) (0))) rfl ?_
  refine q_iconst (v := 0) dX10_drain_9 rfl ?_
  refine q_ist1 dX10_drain_10 (Nat.le_of_ble_eq_true rfl) rfl ?_
  refine q_iconst (v := 0) dX10_drain_11 rfl ?_
  refine q_ist2 dX10_drain_12 (Nat.le_of_ble_eq_true rfl) rfl ?_
  refine wp_w (w2 := mixW g (s_NW (s_RF (s_AC (s_NX (s_DI S (va_cpy (z_NW S) (z_DI S) 0 (p * 44) 44)) (nI ((p + 1) % 14))) (nI (min (q + 1) 14))) (0)) (zerF (z_NW (s_RF (s_AC (s_NX (s_DI S (va_cpy (z_NW S) (z_DI S) 0 (p * 44) 44)) (nI ((p + 1) % 14))) (nI (min (q + 1) 14))) (0))) (28 + 0)))) (by rw [zer_28', se_NW]) ?_
  refine l_X10_drain1 hG (s_RF (s_AC (s_NX (s_DI S (va_cpy (z_NW S) (z_DI S) 0 (p * 44) 44)) (nI ((p + 1) % 14))) (nI (min (q + 1) 14))) (0)) ?_ 12 0 (by omega)
  refine q_iconst (v := 0) dX10_drain_47 rfl ?_
  refine q_ist2 dX10_drain_48 (Nat.le_of_ble_eq_true rfl) rfl ?_
  refine wp_w (w2 := mixW g (s_NW (s_NW (s_RF (s_AC (s_NX (s_DI S (va_cpy (z_NW S) (z_DI S) 0 (p * 44) 44)) (nI ((p + 1) % 14))) (nI (min (q + 1) 14))) (0)) (zerF (z_NW S) (28 + 12))) (zerF (z_NW (s_NW (s_RF (s_AC (s_NX (s_DI S (va_cpy (z_NW S) (z_DI S) 0 (p * 44) 44)) (nI ((p + 1) % 14))) (nI (min (q + 1) 14))) (0)) (zerF (z_NW S) (28 + 12)))) (40 + 0)))) (by rw [ss_NW]; show _ = mixW g (s_NW (s_RF (s_AC (s_NX (s_DI S (va_cpy (z_NW S) (z_DI S) 0 (p * 44) 44)) (nI ((p + 1) % 14))) (nI (min (q + 1) 14))) (0)) (zerF (zerF (z_NW S) (28 + 12)) (40 + 0))); rw [zer_zer _ (by omega)]; rfl) ?_
  refine l_X10_drain2 hG (s_NW (s_RF (s_AC (s_NX (s_DI S (va_cpy (z_NW S) (z_DI S) 0 (p * 44) 44)) (nI ((p + 1) % 14))) (nI (min (q + 1) 14))) (0)) (zerF (z_NW S) (28 + 12))) (smM (z_NW S) 12) ?_ 4 0 (by omega)
  refine wp_w (w2 := mixW g (s_NW (s_RF (s_AC (s_NX (s_DI S (va_cpy (z_NW S) (z_DI S) 0 (p * 44) 44)) (nI ((p + 1) % 14))) (nI (min (q + 1) 14))) (0)) (zerF (z_NW S) 44))) (by rw [ss_NW]; show mixW g (s_NW (s_RF (s_AC (s_NX (s_DI S (va_cpy (z_NW S) (z_DI S) 0 (p * 44) 44)) (nI ((p + 1) % 14))) (nI (min (q + 1) 14))) (0)) (zerF (zerF (z_NW S) (28 + 12)) (40 + 4))) = _; rw [zer_zer _ (by omega)]) ?_
  rw [sc_NW_RF, sc_NW_AC, sc_NW_NX]
  refine q_iload_n dX10_drain_70 rfl ?_
  exact q_iret dX10_drain_71 rfl ⟨rfl, rfl⟩
set_option maxRecDepth 100000 in
set_option maxHeartbeats 4000000 in
theorem l_X10_undo {g : G0} {h : G1} (hG : Gd g) (S : SS) {Q : State → Prop} (r : Nat) (hr : z_NX S = nI r) (hr2 : r < 14) (k : wp g h mX10_undo (mixW g (s_NW S (va_cpy (z_DI S) (z_NW S) (r * 44) 0 44))) [some (.ref 26), some (.int (nI 44))] [] 0 Q 81) : ∀ (n i : Nat), i + n = 44 → wp g h mX10_undo (mixW g (s_NW S (va_cpy (z_DI S) (z_NW S) (r * 44) 0 i))) [some (.ref 26), some (.int (nI i))] [] 0 Q 49 := by
  intro n
  induction n with
  | zero =>
    intro i hq1
    obtain rfl : 44 = i := by omega
    refine q_iload_n dX10_undo_49 rfl ?_
    refine q_bipush (v := 44) dX10_undo_50 rfl ?_
    refine q_icmp_ge 81 dX10_undo_52 rfl (fun c52 => ?_) (fun c52 => ?_)
    · have n52 := (nI_leI (a := 44) (b := 44) (by omega) (by omega)).mp c52
      exact k
    · have n52 := mt (nI_leI (a := 44) (b := 44) (by omega) (by omega)).mpr c52
      omega
  | succ n ih =>
    intro i hq1
    refine q_iload_n dX10_undo_49 rfl ?_
    refine q_bipush (v := 44) dX10_undo_50 rfl ?_
    refine q_icmp_ge 81 dX10_undo_52 rfl (fun c52 => ?_) (fun c52 => ?_)
    · have n52 := (nI_leI (a := 44) (b := i) (by omega) (by omega)).mp c52
      omega
    · have n52 := mt (nI_leI (a := 44) (b := i) (by omega) (by omega)).mpr c52
      refine q_aload_n dX10_undo_55 rfl ?_
      refine q_get (j := 1) (v := .ref 27) dX10_undo_56 (Nat.le_of_ble_eq_true rfl) rfl rfl iuX10 (Nat.le_of_ble_eq_true rfl) uw_925 rfl rfl ?_
      refine q_iload_n dX10_undo_59 rfl ?_
      refine q_aload_n dX10_undo_60 rfl ?_
      refine q_get (j := 4) (v := .ref 30) dX10_undo_61 (Nat.le_of_ble_eq_true rfl) rfl rfl iuX10 (Nat.le_of_ble_eq_true rfl) uw_928 rfl rfl ?_
      refine q_bipush (v := 44) dX10_undo_64 rfl ?_
      refine q_aload_n dX10_undo_66 rfl ?_
      refine q_get (j := 6) (v := .int ((z_NX S))) dX10_undo_67 (Nat.le_of_ble_eq_true rfl) rfl rfl iuX10 (Nat.le_of_ble_eq_true rfl) uw_930 rfl rfl ?_
      refine wp_top (y := nI r) hr ?_
      refine q_imul dX10_undo_70 ?_
      refine q_iload_n dX10_undo_71 rfl ?_
      refine q_iadd dX10_undo_72 ?_
      refine q_iald (f := (z_DI S)) dX10_undo_73 (Nat.le_of_ble_eq_true rfl) rfl (r * 44 + i) (by simp only [fa_lit, pk_mul, nI_add]; exact congrArg nI (by omega)) (by omega) (Nat.le_of_ble_eq_true rfl) ?_
      refine q_iast (f := (va_cpy (z_DI S) (z_NW S) (r * 44) 0 i)) dX10_undo_74 (Nat.le_of_ble_eq_true rfl) rfl (i) rfl (by omega) (Nat.le_of_ble_eq_true rfl) ?_
      refine wp_w (u_NW g _ _) ?_
      rw [ss_NW]
      refine q_iinc1 (k9 := 1) dX10_undo_75 rfl (Nat.le_of_ble_eq_true rfl) rfl ?_
      refine wp_L (L2 := [some (.ref 26), some (.int (nI (i + 1)))]) (by rw [show nI i + 1 = nI (i + 1) from nI_1 _]) ?_
      refine q_goto 49 dX10_undo_78 rfl ?_
      rw [cpy_dn]
      exact ih (i + 1) (by omega)
set_option maxRecDepth 100000 in
set_option maxHeartbeats 4000000 in
theorem c_X10_undo {g : G0} (hG : Gd g) (S : SS)  (p : Nat) (q : Nat) (h1 : (z_NX S) = nI p) (h2 : p < 14) (h3 : (z_AC S) = nI q) (h4 : 0 < q) (h5 : q ≤ 14) : ctv g mX10_undo [.ref 26] (mixW g S) (.int (nI (q - 1))) (mixW g (s_RF (s_AC (s_NX (s_NW S (va_cpy (z_DI S) (z_NW S) (((p + 13) % 14) * 44) 0 44)) (nI ((p + 13) % 14))) (nI (q - 1))) (0))) := by
  refine ct_of hG [some (.ref 26), none] rfl rfl rfl (Nat.le_of_ble_eq_true rfl) (fun h => ?_) rfl
  refine q_aload_n dX10_undo_0 rfl ?_
  refine q_aload_n dX10_undo_1 rfl ?_
  refine q_get (j := 5) (v := .int ((z_AC S))) dX10_undo_2 (Nat.le_of_ble_eq_true rfl) rfl rfl iuX10 (Nat.le_of_ble_eq_true rfl) uw_929 rfl rfl ?_
  refine wp_top (y := nI q) h3 ?_
  refine q_if_ne 12 dX10_undo_5 rfl (fun c5 => ?_) (fun c5 => ?_)
  · have n5 := mt (nI_eq (a := q) (b := 0) (by omega) (by omega)).mpr c5
    refine q_iconst (v := 0) dX10_undo_12 rfl ?_
    refine q_callVv (ν := mX10_refused) dX10_undo_13 uw_1000 vX10_refused (c_X10_refused hG S (0)) (Nat.le_of_ble_eq_true rfl) rfl rfl rfl rfl (Nat.le_of_ble_eq_true rfl) (Nat.le_of_ble_eq_true rfl) (Nat.le_of_ble_eq_true rfl) 0 (Nat.le_of_ble_eq_true rfl) ?_
    refine wp_w (w2 := mixW g (s_RF S (0))) rfl ?_
    refine wp_top (y := 0) (pI_f (by decide)) ?_
    refine q_if_eq 21 dX10_undo_16 rfl (fun c16 => ?_) (fun c16 => ?_)
    · refine q_aload_n dX10_undo_21 rfl ?_
      refine q_dup dX10_undo_22 rfl ?_
      refine q_get (j := 5) (v := .int ((z_AC S))) dX10_undo_23 (Nat.le_of_ble_eq_true rfl) rfl rfl iuX10 (Nat.le_of_ble_eq_true rfl) uw_929 rfl rfl ?_
      refine wp_top (y := nI q) h3 ?_
      refine q_iconst (v := 1) dX10_undo_26 rfl ?_
      refine q_isub dX10_undo_27 ?_
      refine wp_top (y := nI (q - 1)) (pk_sub (a := q) (b := 1) (by omega)) ?_
      refine q_put (j := 5) (ty := .int) dX10_undo_28 (Nat.le_of_ble_eq_true rfl) rfl rfl iuX10 tyX10_ok nmX10 (Nat.le_of_ble_eq_true rfl) uw_929 rfl rfl rfl rfl rfl (Nat.le_of_ble_eq_true rfl) ?_
      refine wp_w (u_AC g _ _) ?_
      rw [sc_AC_RF]
      refine q_aload_n dX10_undo_31 rfl ?_
      refine q_aload_n dX10_undo_32 rfl ?_
      refine q_get (j := 6) (v := .int ((z_NX S))) dX10_undo_33 (Nat.le_of_ble_eq_true rfl) rfl rfl iuX10 (Nat.le_of_ble_eq_true rfl) uw_930 rfl rfl ?_
      refine wp_top (y := nI p) h1 ?_
      refine q_bipush (v := 14) dX10_undo_36 rfl ?_
      refine q_iadd dX10_undo_38 ?_
      refine wp_top (y := nI (p + 14)) (nI_add p 14) ?_
      refine q_iconst (v := 1) dX10_undo_39 rfl ?_
      refine q_isub dX10_undo_40 ?_
      refine wp_top (y := nI (p + 13)) (pk_sub (a := p + 14) (b := 1) (by omega)) ?_
      refine q_bipush (v := 14) dX10_undo_41 rfl ?_
      refine q_irem dX10_undo_43 (by decide) ?_
      refine wp_top (y := nI ((p + 13) % 14)) (pk_rem (d := 14) (by omega) (by omega) (by omega)) ?_
      refine q_put (j := 6) (ty := .int) dX10_undo_44 (Nat.le_of_ble_eq_true rfl) rfl rfl iuX10 tyX10_ok nmX10 (Nat.le_of_ble_eq_true rfl) uw_930 rfl rfl rfl rfl rfl (Nat.le_of_ble_eq_true rfl) ?_
      refine wp_w (u_NX g _ _) ?_
      rw [sc_NX_RF, sc_NX_AC]
      refine q_iconst (v := 0) dX10_undo_47 rfl ?_
      refine q_ist1 dX10_undo_48 (Nat.le_of_ble_eq_true rfl) rfl ?_
      refine wp_w (w2 := mixW g (s_NW (s_RF (s_AC (s_NX S (nI ((p + 13) % 14))) (nI (q - 1))) (0)) (va_cpy (z_DI (s_RF (s_AC (s_NX S (nI ((p + 13) % 14))) (nI (q - 1))) (0))) (z_NW (s_RF (s_AC (s_NX S (nI ((p + 13) % 14))) (nI (q - 1))) (0))) (((p + 13) % 14) * 44) 0 0))) (by rw [cpy_0, se_NW]) ?_
      refine l_X10_undo hG (s_RF (s_AC (s_NX S (nI ((p + 13) % 14))) (nI (q - 1))) (0)) ((p + 13) % 14) rfl (by omega) ?_ 44 0 (by omega)
      rw [sc_NW_RF, sc_NW_AC, sc_NW_NX]
      refine wp_w (w2 := mixW g (s_RF (s_AC (s_NX (s_NW S (va_cpy (z_DI S) (z_NW S) (((p + 13) % 14) * 44) 0 44)) (nI ((p + 13) % 14))) (nI (q - 1))) (0))) rfl ?_
      refine q_aload_n dX10_undo_81 rfl ?_
      refine q_get (j := 5) (v := .int ((nI (q - 1)))) dX10_undo_82 (Nat.le_of_ble_eq_true rfl) rfl rfl iuX10 (Nat.le_of_ble_eq_true rfl) uw_929 rfl rfl ?_
      exact q_iret dX10_undo_85 rfl ⟨rfl, rfl⟩
    · first | exact absurd (by decide) c16 | exact absurd c16 (by decide)
  · have n5 := (nI_eq (a := q) (b := 0) (by omega) (by omega)).mp c5
    omega
set_option maxRecDepth 100000 in
set_option maxHeartbeats 4000000 in
theorem c_X10_undo_x {g : G0} (hG : Gd g) (S : SS)   (h1 : (z_AC S) = nI 0) : ctv g mX10_undo [.ref 26] (mixW g S) (.int (0)) (mixW g (s_RF S (1))) := by
  refine ct_of hG [some (.ref 26), none] rfl rfl rfl (Nat.le_of_ble_eq_true rfl) (fun h => ?_) rfl
  refine q_aload_n dX10_undo_0 rfl ?_
  refine q_aload_n dX10_undo_1 rfl ?_
  refine q_get (j := 5) (v := .int ((z_AC S))) dX10_undo_2 (Nat.le_of_ble_eq_true rfl) rfl rfl iuX10 (Nat.le_of_ble_eq_true rfl) uw_929 rfl rfl ?_
  refine wp_top (y := nI 0) h1 ?_
  refine q_if_ne 12 dX10_undo_5 rfl (fun c5 => ?_) (fun c5 => ?_)
  · have n5 := mt (nI_eq (a := 0) (b := 0) (by omega) (by omega)).mpr c5
    omega
  · have n5 := (nI_eq (a := 0) (b := 0) (by omega) (by omega)).mp c5
    refine q_iconst (v := 1) dX10_undo_8 rfl ?_
    refine q_goto 13 dX10_undo_9 rfl ?_
    refine q_callVv (ν := mX10_refused) dX10_undo_13 uw_1000 vX10_refused (c_X10_refused hG S (1)) (Nat.le_of_ble_eq_true rfl) rfl rfl rfl rfl (Nat.le_of_ble_eq_true rfl) (Nat.le_of_ble_eq_true rfl) (Nat.le_of_ble_eq_true rfl) 0 (Nat.le_of_ble_eq_true rfl) ?_
    refine wp_w (w2 := mixW g (s_RF S (1))) rfl ?_
    refine wp_top (y := 1) (pI_t (by decide)) ?_
    refine q_if_eq 21 dX10_undo_16 rfl (fun c16 => ?_) (fun c16 => ?_)
    · first | exact absurd (by decide) c16 | exact absurd c16 (by decide)
    · refine q_iconst (v := 0) dX10_undo_19 rfl ?_
      exact q_iret dX10_undo_20 rfl ⟨rfl, rfl⟩
set_option maxRecDepth 100000 in
set_option maxHeartbeats 4000000 in
theorem l_X10_save {g : G0} {h : G1} (hG : Gd g) (S : SS) {Q : State → Prop} (r : Nat) (hr2 : r < 2) (k : wp g h mX10_save (mixW g (s_KE S (va_cpy (z_NW S) (z_KE S) 0 (r * 44) 44))) [some (.ref 26), some (.int (nI r)), some (.int (nI 44))] [] 0 Q 59) : ∀ (n i : Nat), i + n = 44 → wp g h mX10_save (mixW g (s_KE S (va_cpy (z_NW S) (z_KE S) 0 (r * 44) i))) [some (.ref 26), some (.int (nI r)), some (.int (nI i))] [] 0 Q 30 := by
  intro n
  induction n with
  | zero =>
    intro i hq1
    obtain rfl : 44 = i := by omega
    refine q_iload_n dX10_save_30 rfl ?_
    refine q_bipush (v := 44) dX10_save_31 rfl ?_
    refine q_icmp_ge 59 dX10_save_33 rfl (fun c33 => ?_) (fun c33 => ?_)
    · have n33 := (nI_leI (a := 44) (b := 44) (by omega) (by omega)).mp c33
      exact k
    · have n33 := mt (nI_leI (a := 44) (b := 44) (by omega) (by omega)).mpr c33
      omega
  | succ n ih =>
    intro i hq1
    refine q_iload_n dX10_save_30 rfl ?_
    refine q_bipush (v := 44) dX10_save_31 rfl ?_
    refine q_icmp_ge 59 dX10_save_33 rfl (fun c33 => ?_) (fun c33 => ?_)
    · have n33 := (nI_leI (a := 44) (b := i) (by omega) (by omega)).mp c33
      omega
    · have n33 := mt (nI_leI (a := 44) (b := i) (by omega) (by omega)).mpr c33
      refine q_aload_n dX10_save_36 rfl ?_
      refine q_get (j := 7) (v := .ref 31) dX10_save_37 (Nat.le_of_ble_eq_true rfl) rfl rfl iuX10 (Nat.le_of_ble_eq_true rfl) uw_931 rfl rfl ?_
      refine q_bipush (v := 44) dX10_save_40 rfl ?_
      refine q_iload_n dX10_save_42 rfl ?_
      refine q_imul dX10_save_43 ?_
      refine q_iload_n dX10_save_44 rfl ?_
      refine q_iadd dX10_save_45 ?_
      refine q_aload_n dX10_save_46 rfl ?_
      refine q_get (j := 1) (v := .ref 27) dX10_save_47 (Nat.le_of_ble_eq_true rfl) rfl rfl iuX10 (Nat.le_of_ble_eq_true rfl) uw_925 rfl rfl ?_
      refine q_iload_n dX10_save_50 rfl ?_
      refine q_iald (f := (z_NW S)) dX10_save_51 (Nat.le_of_ble_eq_true rfl) rfl (i) rfl (by omega) (Nat.le_of_ble_eq_true rfl) ?_
      refine q_iast (f := (va_cpy (z_NW S) (z_KE S) 0 (r * 44) i)) dX10_save_52 (Nat.le_of_ble_eq_true rfl) rfl (r * 44 + i) (by simp only [fa_lit, pk_mul, nI_add]; exact congrArg nI (by omega)) (by omega) (Nat.le_of_ble_eq_true rfl) ?_
      refine wp_w (u_KE g _ _) ?_
      rw [ss_KE]
      refine q_iinc2 (k9 := 1) dX10_save_53 rfl (Nat.le_of_ble_eq_true rfl) rfl ?_
      refine wp_L (L2 := [some (.ref 26), some (.int (nI r)), some (.int (nI (i + 1)))]) (by rw [show nI i + 1 = nI (i + 1) from nI_1 _]) ?_
      refine q_goto 30 dX10_save_56 rfl ?_
      rw [cpy_up]
      exact ih (i + 1) (by omega)
set_option maxRecDepth 100000 in
set_option maxHeartbeats 4000000 in
theorem c_X10_save {g : G0} (hG : Gd g) (S : SS) (s : Nat)  (h1 : s < 2) : ctv g mX10_save [.ref 26, .int (nI s)] (mixW g S) (.int ((z_NW S) 0)) (mixW g (s_RF (s_KE (s_IK S (upd (z_IK S) s 1)) (va_cpy (z_NW S) (z_KE S) 0 (s * 44) 44)) (0))) := by
  refine ct_of hG [some (.ref 26), some (.int (nI s)), none] rfl rfl rfl (Nat.le_of_ble_eq_true rfl) (fun h => ?_) rfl
  refine q_aload_n dX10_save_0 rfl ?_
  refine q_iload_n dX10_save_1 rfl ?_
  refine q_callSv (ν := mX10_isBit) dX10_save_2 uw_1057 vX10_isBit (c_X10_isBit hG S ((nI s))) rfl rfl (Nat.le_of_ble_eq_true rfl) (Nat.le_of_ble_eq_true rfl) (Nat.le_of_ble_eq_true rfl) 0 (Nat.le_of_ble_eq_true rfl) ?_
  refine q_if_eq 12 dX10_save_5 rfl (fun c5 => ?_) (fun c5 => ?_)
  · exact absurd (two_ok (by omega)) (pI_0 c5)
  · refine q_iconst (v := 0) dX10_save_8 rfl ?_
    refine q_goto 13 dX10_save_9 rfl ?_
    refine q_callVv (ν := mX10_refused) dX10_save_13 uw_1000 vX10_refused (c_X10_refused hG S (0)) (Nat.le_of_ble_eq_true rfl) rfl rfl rfl rfl (Nat.le_of_ble_eq_true rfl) (Nat.le_of_ble_eq_true rfl) (Nat.le_of_ble_eq_true rfl) 0 (Nat.le_of_ble_eq_true rfl) ?_
    refine wp_w (w2 := mixW g (s_RF S (0))) rfl ?_
    refine wp_top (y := 0) (pI_f (by decide)) ?_
    refine q_if_eq 21 dX10_save_16 rfl (fun c16 => ?_) (fun c16 => ?_)
    · refine q_aload_n dX10_save_21 rfl ?_
      refine q_get (j := 8) (v := .ref 32) dX10_save_22 (Nat.le_of_ble_eq_true rfl) rfl rfl iuX10 (Nat.le_of_ble_eq_true rfl) uw_932 rfl rfl ?_
      refine q_iload_n dX10_save_25 rfl ?_
      refine q_iconst (v := 1) dX10_save_26 rfl ?_
      refine q_zast (f := (z_IK S)) (y := 1) dX10_save_27 (Nat.le_of_ble_eq_true rfl) rfl (s) rfl (by omega) (Nat.le_of_ble_eq_true rfl) rfl ?_
      refine wp_w (u_IK g _ _) ?_
      rw [sc_IK_RF]
      refine q_iconst (v := 0) dX10_save_28 rfl ?_
      refine q_ist2 dX10_save_29 (Nat.le_of_ble_eq_true rfl) rfl ?_
      refine wp_w (w2 := mixW g (s_KE (s_RF (s_IK S (upd (z_IK S) (s) (1))) (0)) (va_cpy (z_NW (s_RF (s_IK S (upd (z_IK S) (s) (1))) (0))) (z_KE (s_RF (s_IK S (upd (z_IK S) (s) (1))) (0))) 0 (s * 44) 0))) (by rw [cpy_0, se_KE]) ?_
      refine l_X10_save hG (s_RF (s_IK S (upd (z_IK S) (s) (1))) (0)) s h1 ?_ 44 0 (by omega)
      rw [sc_KE_RF]
      refine wp_w (w2 := mixW g (s_RF (s_KE (s_IK S (upd (z_IK S) (s) (1))) (va_cpy (z_NW S) (z_KE S) 0 (s * 44) 44)) (0))) rfl ?_
      refine q_aload_n dX10_save_59 rfl ?_
      refine q_get (j := 1) (v := .ref 27) dX10_save_60 (Nat.le_of_ble_eq_true rfl) rfl rfl iuX10 (Nat.le_of_ble_eq_true rfl) uw_925 rfl rfl ?_
      refine q_iconst (v := 0) dX10_save_63 rfl ?_
      refine q_iald (f := (z_NW S)) dX10_save_64 (Nat.le_of_ble_eq_true rfl) rfl (0) rfl (Nat.le_of_ble_eq_true rfl) (Nat.le_of_ble_eq_true rfl) ?_
      exact q_iret dX10_save_65 rfl ⟨rfl, rfl⟩
    · first | exact absurd (by decide) c16 | exact absurd c16 (by decide)
set_option maxRecDepth 100000 in
set_option maxHeartbeats 4000000 in
theorem c_X10_save_x {g : G0} (hG : Gd g) (S : SS) (y : Int32)  (h1 : ¬ (y = 0 ∨ y = 1)) : ctv g mX10_save [.ref 26, .int y] (mixW g S) (.int (0)) (mixW g (s_RF S (1))) := by
  refine ct_of hG [some (.ref 26), some (.int (y)), none] rfl rfl rfl (Nat.le_of_ble_eq_true rfl) (fun h => ?_) rfl
  refine q_aload_n dX10_save_0 rfl ?_
  refine q_iload_n dX10_save_1 rfl ?_
  refine q_callSv (ν := mX10_isBit) dX10_save_2 uw_1057 vX10_isBit (c_X10_isBit hG S (y)) rfl rfl (Nat.le_of_ble_eq_true rfl) (Nat.le_of_ble_eq_true rfl) (Nat.le_of_ble_eq_true rfl) 0 (Nat.le_of_ble_eq_true rfl) ?_
  refine q_if_eq 12 dX10_save_5 rfl (fun c5 => ?_) (fun c5 => ?_)
  · refine q_iconst (v := 1) dX10_save_12 rfl ?_
    refine q_callVv (ν := mX10_refused) dX10_save_13 uw_1000 vX10_refused (c_X10_refused hG S (1)) (Nat.le_of_ble_eq_true rfl) rfl rfl rfl rfl (Nat.le_of_ble_eq_true rfl) (Nat.le_of_ble_eq_true rfl) (Nat.le_of_ble_eq_true rfl) 0 (Nat.le_of_ble_eq_true rfl) ?_
    refine wp_w (w2 := mixW g (s_RF S (1))) rfl ?_
    refine wp_top (y := 1) (pI_t (by decide)) ?_
    refine q_if_eq 21 dX10_save_16 rfl (fun c16 => ?_) (fun c16 => ?_)
    · first | exact absurd (by decide) c16 | exact absurd c16 (by decide)
    · refine q_iconst (v := 0) dX10_save_19 rfl ?_
      exact q_iret dX10_save_20 rfl ⟨rfl, rfl⟩
  · exact absurd (pI_1 c5) h1
set_option maxRecDepth 100000 in
set_option maxHeartbeats 4000000 in
theorem l_X10_restore {g : G0} {h : G1} (hG : Gd g) (S : SS) {Q : State → Prop} (r : Nat) (hr2 : r < 2) (k : wp g h mX10_restore (mixW g (s_NW S (va_cpy (z_KE S) (z_NW S) (r * 44) 0 44))) [some (.ref 26), some (.int (nI r)), some (.int (nI 44))] [] 0 Q 65) : ∀ (n i : Nat), i + n = 44 → wp g h mX10_restore (mixW g (s_NW S (va_cpy (z_KE S) (z_NW S) (r * 44) 0 i))) [some (.ref 26), some (.int (nI r)), some (.int (nI i))] [] 0 Q 36 := by
  intro n
  induction n with
  | zero =>
    intro i hq1
    obtain rfl : 44 = i := by omega
    refine q_iload_n dX10_restore_36 rfl ?_
    refine q_bipush (v := 44) dX10_restore_37 rfl ?_
    refine q_icmp_ge 65 dX10_restore_39 rfl (fun c39 => ?_) (fun c39 => ?_)
    · have n39 := (nI_leI (a := 44) (b := 44) (by omega) (by omega)).mp c39
      exact k
    · have n39 := mt (nI_leI (a := 44) (b := 44) (by omega) (by omega)).mpr c39
      omega
  | succ n ih =>
    intro i hq1
    refine q_iload_n dX10_restore_36 rfl ?_
    refine q_bipush (v := 44) dX10_restore_37 rfl ?_
    refine q_icmp_ge 65 dX10_restore_39 rfl (fun c39 => ?_) (fun c39 => ?_)
    · have n39 := (nI_leI (a := 44) (b := i) (by omega) (by omega)).mp c39
      omega
    · have n39 := mt (nI_leI (a := 44) (b := i) (by omega) (by omega)).mpr c39
      refine q_aload_n dX10_restore_42 rfl ?_
      refine q_get (j := 1) (v := .ref 27) dX10_restore_43 (Nat.le_of_ble_eq_true rfl) rfl rfl iuX10 (Nat.le_of_ble_eq_true rfl) uw_925 rfl rfl ?_
      refine q_iload_n dX10_restore_46 rfl ?_
      refine q_aload_n dX10_restore_47 rfl ?_
      refine q_get (j := 7) (v := .ref 31) dX10_restore_48 (Nat.le_of_ble_eq_true rfl) rfl rfl iuX10 (Nat.le_of_ble_eq_true rfl) uw_931 rfl rfl ?_
      refine q_bipush (v := 44) dX10_restore_51 rfl ?_
      refine q_iload_n dX10_restore_53 rfl ?_
      refine q_imul dX10_restore_54 ?_
      refine q_iload_n dX10_restore_55 rfl ?_
      refine q_iadd dX10_restore_56 ?_
      refine q_iald (f := (z_KE S)) dX10_restore_57 (Nat.le_of_ble_eq_true rfl) rfl (r * 44 + i) (by simp only [fa_lit, pk_mul, nI_add]; exact congrArg nI (by omega)) (by omega) (Nat.le_of_ble_eq_true rfl) ?_
      refine q_iast (f := (va_cpy (z_KE S) (z_NW S) (r * 44) 0 i)) dX10_restore_58 (Nat.le_of_ble_eq_true rfl) rfl (i) rfl (by omega) (Nat.le_of_ble_eq_true rfl) ?_
      refine wp_w (u_NW g _ _) ?_
      rw [ss_NW]
      refine q_iinc2 (k9 := 1) dX10_restore_59 rfl (Nat.le_of_ble_eq_true rfl) rfl ?_
      refine wp_L (L2 := [some (.ref 26), some (.int (nI r)), some (.int (nI (i + 1)))]) (by rw [show nI i + 1 = nI (i + 1) from nI_1 _]) ?_
      refine q_goto 36 dX10_restore_62 rfl ?_
      rw [cpy_dn]
      exact ih (i + 1) (by omega)
set_option maxRecDepth 100000 in
set_option maxHeartbeats 4000000 in
theorem c_X10_restore {g : G0} (hG : Gd g) (S : SS) (s : Nat)  (h1 : s < 2) (h2 : ¬ (z_IK S) s = 0) : ctv g mX10_restore [.ref 26, .int (nI s)] (mixW g S) (.int (va_cpy (z_KE S) (z_NW S) (s * 44) 0 44 0)) (mixW g (s_RF (s_AC (s_NW S (va_cpy (z_KE S) (z_NW S) (s * 44) 0 44)) (0)) (0))) := by
  refine ct_of hG [some (.ref 26), some (.int (nI s)), none] rfl rfl rfl (Nat.le_of_ble_eq_true rfl) (fun h => ?_) rfl
  refine q_aload_n dX10_restore_0 rfl ?_
  refine q_iload_n dX10_restore_1 rfl ?_
  refine q_callSv (ν := mX10_isBit) dX10_restore_2 uw_1057 vX10_isBit (c_X10_isBit hG S ((nI s))) rfl rfl (Nat.le_of_ble_eq_true rfl) (Nat.le_of_ble_eq_true rfl) (Nat.le_of_ble_eq_true rfl) 0 (Nat.le_of_ble_eq_true rfl) ?_
  refine q_if_ne 12 dX10_restore_5 rfl (fun c5 => ?_) (fun c5 => ?_)
  · refine q_aload_n dX10_restore_12 rfl ?_
    refine q_get (j := 8) (v := .ref 32) dX10_restore_13 (Nat.le_of_ble_eq_true rfl) rfl rfl iuX10 (Nat.le_of_ble_eq_true rfl) uw_932 rfl rfl ?_
    refine q_iload_n dX10_restore_16 rfl ?_
    refine q_zald (f := (z_IK S)) dX10_restore_17 (Nat.le_of_ble_eq_true rfl) rfl (s) rfl (by omega) (Nat.le_of_ble_eq_true rfl) ?_
    refine q_if_ne 25 dX10_restore_18 rfl (fun c18 => ?_) (fun c18 => ?_)
    · refine q_iconst (v := 0) dX10_restore_25 rfl ?_
      refine q_callVv (ν := mX10_refused) dX10_restore_26 uw_1000 vX10_refused (c_X10_refused hG S (0)) (Nat.le_of_ble_eq_true rfl) rfl rfl rfl rfl (Nat.le_of_ble_eq_true rfl) (Nat.le_of_ble_eq_true rfl) (Nat.le_of_ble_eq_true rfl) 0 (Nat.le_of_ble_eq_true rfl) ?_
      refine wp_w (w2 := mixW g (s_RF S (0))) rfl ?_
      refine wp_top (y := 0) (pI_f (by decide)) ?_
      refine q_if_eq 34 dX10_restore_29 rfl (fun c29 => ?_) (fun c29 => ?_)
      · refine q_iconst (v := 0) dX10_restore_34 rfl ?_
        refine q_ist2 dX10_restore_35 (Nat.le_of_ble_eq_true rfl) rfl ?_
        refine wp_w (w2 := mixW g (s_NW (s_RF S (0)) (va_cpy (z_KE (s_RF S (0))) (z_NW (s_RF S (0))) (s * 44) 0 0))) (by rw [cpy_0, se_NW]) ?_
        refine l_X10_restore hG (s_RF S (0)) s h1 ?_ 44 0 (by omega)
        rw [sc_NW_RF]
        refine wp_w (w2 := mixW g (s_RF (s_NW S (va_cpy (z_KE S) (z_NW S) (s * 44) 0 44)) (0))) rfl ?_
        refine q_aload_n dX10_restore_65 rfl ?_
        refine q_iconst (v := 0) dX10_restore_66 rfl ?_
        refine q_put (j := 5) (ty := .int) dX10_restore_67 (Nat.le_of_ble_eq_true rfl) rfl rfl iuX10 tyX10_ok nmX10 (Nat.le_of_ble_eq_true rfl) uw_929 rfl rfl rfl rfl rfl (Nat.le_of_ble_eq_true rfl) ?_
        refine wp_w (u_AC g _ _) ?_
        rw [sc_AC_RF]
        refine q_aload_n dX10_restore_70 rfl ?_
        refine q_get (j := 1) (v := .ref 27) dX10_restore_71 (Nat.le_of_ble_eq_true rfl) rfl rfl iuX10 (Nat.le_of_ble_eq_true rfl) uw_925 rfl rfl ?_
        refine q_iconst (v := 0) dX10_restore_74 rfl ?_
        refine q_iald (f := (va_cpy (z_KE S) (z_NW S) (s * 44) 0 44)) dX10_restore_75 (Nat.le_of_ble_eq_true rfl) rfl (0) rfl (Nat.le_of_ble_eq_true rfl) (Nat.le_of_ble_eq_true rfl) ?_
        exact q_iret dX10_restore_76 rfl ⟨rfl, rfl⟩
      · first | exact absurd (by decide) c29 | exact absurd c29 (by decide)
    · exact absurd c18 h2
  · exact absurd (two_ok (by omega)) (pI_0 c5)
set_option maxRecDepth 100000 in
set_option maxHeartbeats 4000000 in
theorem c_X10_restore_x1 {g : G0} (hG : Gd g) (S : SS) (y : Int32)  (h1 : ¬ (y = 0 ∨ y = 1)) : ctv g mX10_restore [.ref 26, .int y] (mixW g S) (.int (0)) (mixW g (s_RF S (1))) := by
  refine ct_of hG [some (.ref 26), some (.int (y)), none] rfl rfl rfl (Nat.le_of_ble_eq_true rfl) (fun h => ?_) rfl
  refine q_aload_n dX10_restore_0 rfl ?_
  refine q_iload_n dX10_restore_1 rfl ?_
  refine q_callSv (ν := mX10_isBit) dX10_restore_2 uw_1057 vX10_isBit (c_X10_isBit hG S (y)) rfl rfl (Nat.le_of_ble_eq_true rfl) (Nat.le_of_ble_eq_true rfl) (Nat.le_of_ble_eq_true rfl) 0 (Nat.le_of_ble_eq_true rfl) ?_
  refine q_if_ne 12 dX10_restore_5 rfl (fun c5 => ?_) (fun c5 => ?_)
  · exact absurd (pI_1 c5) h1
  · refine q_iconst (v := 1) dX10_restore_8 rfl ?_
    refine q_goto 26 dX10_restore_9 rfl ?_
    refine q_callVv (ν := mX10_refused) dX10_restore_26 uw_1000 vX10_refused (c_X10_refused hG S (1)) (Nat.le_of_ble_eq_true rfl) rfl rfl rfl rfl (Nat.le_of_ble_eq_true rfl) (Nat.le_of_ble_eq_true rfl) (Nat.le_of_ble_eq_true rfl) 0 (Nat.le_of_ble_eq_true rfl) ?_
    refine wp_w (w2 := mixW g (s_RF S (1))) rfl ?_
    refine wp_top (y := 1) (pI_t (by decide)) ?_
    refine q_if_eq 34 dX10_restore_29 rfl (fun c29 => ?_) (fun c29 => ?_)
    · first | exact absurd (by decide) c29 | exact absurd c29 (by decide)
    · refine q_iconst (v := 0) dX10_restore_32 rfl ?_
      exact q_iret dX10_restore_33 rfl ⟨rfl, rfl⟩
set_option maxRecDepth 100000 in
set_option maxHeartbeats 4000000 in
theorem c_X10_restore_x2 {g : G0} (hG : Gd g) (S : SS) (s : Nat)  (h1 : s < 2) (h2 : (z_IK S) s = 0) : ctv g mX10_restore [.ref 26, .int (nI s)] (mixW g S) (.int (0)) (mixW g (s_RF S (2))) := by
  refine ct_of hG [some (.ref 26), some (.int (nI s)), none] rfl rfl rfl (Nat.le_of_ble_eq_true rfl) (fun h => ?_) rfl
  refine q_aload_n dX10_restore_0 rfl ?_
  refine q_iload_n dX10_restore_1 rfl ?_
  refine q_callSv (ν := mX10_isBit) dX10_restore_2 uw_1057 vX10_isBit (c_X10_isBit hG S ((nI s))) rfl rfl (Nat.le_of_ble_eq_true rfl) (Nat.le_of_ble_eq_true rfl) (Nat.le_of_ble_eq_true rfl) 0 (Nat.le_of_ble_eq_true rfl) ?_
  refine q_if_ne 12 dX10_restore_5 rfl (fun c5 => ?_) (fun c5 => ?_)
  · refine q_aload_n dX10_restore_12 rfl ?_
    refine q_get (j := 8) (v := .ref 32) dX10_restore_13 (Nat.le_of_ble_eq_true rfl) rfl rfl iuX10 (Nat.le_of_ble_eq_true rfl) uw_932 rfl rfl ?_
    refine q_iload_n dX10_restore_16 rfl ?_
    refine q_zald (f := (z_IK S)) dX10_restore_17 (Nat.le_of_ble_eq_true rfl) rfl (s) rfl (by omega) (Nat.le_of_ble_eq_true rfl) ?_
    refine q_if_ne 25 dX10_restore_18 rfl (fun c18 => ?_) (fun c18 => ?_)
    · exact absurd h2 c18
    · refine q_iconst (v := 2) dX10_restore_21 rfl ?_
      refine q_goto 26 dX10_restore_22 rfl ?_
      refine q_callVv (ν := mX10_refused) dX10_restore_26 uw_1000 vX10_refused (c_X10_refused hG S (2)) (Nat.le_of_ble_eq_true rfl) rfl rfl rfl rfl (Nat.le_of_ble_eq_true rfl) (Nat.le_of_ble_eq_true rfl) (Nat.le_of_ble_eq_true rfl) 0 (Nat.le_of_ble_eq_true rfl) ?_
      refine wp_w (w2 := mixW g (s_RF S (2))) rfl ?_
      refine wp_top (y := 1) (pI_t (by decide)) ?_
      refine q_if_eq 34 dX10_restore_29 rfl (fun c29 => ?_) (fun c29 => ?_)
      · first | exact absurd (by decide) c29 | exact absurd c29 (by decide)
      · refine q_iconst (v := 0) dX10_restore_32 rfl ?_
        exact q_iret dX10_restore_33 rfl ⟨rfl, rfl⟩
  · exact absurd (two_ok (by omega)) (pI_0 c5)
set_option maxRecDepth 100000 in
set_option maxHeartbeats 4000000 in
theorem l_X10_measure {g : G0} {h : G1} (hG : Gd g) (S : SS) {Q : State → Prop} (k v : Nat) (k9 : wp g h mX10_measure (mixW g (s_MW (s_MS S (shF (z_MS S) 4)) (shF (z_MW S) 4))) [some (.ref 26), some (.int (nI k)), some (.int (nI v)), some (.int (nI 4))] [] 0 Q 82) : ∀ (n i : Nat), i + n = 4 → wp g h mX10_measure (mixW g (s_MW (s_MS S (shF (z_MS S) i)) (shF (z_MW S) i))) [some (.ref 26), some (.int (nI k)), some (.int (nI v)), some (.int (nI i))] [] 0 Q 43 := by
  intro n
  induction n with
  | zero =>
    intro i hq1
    obtain rfl : 4 = i := by omega
    refine q_iload_n dX10_measure_43 rfl ?_
    refine q_iconst (v := 4) dX10_measure_44 rfl ?_
    refine q_icmp_ge 82 dX10_measure_45 rfl (fun c45 => ?_) (fun c45 => ?_)
    · have n45 := (nI_leI (a := 4) (b := 4) (by omega) (by omega)).mp c45
      exact k9
    · have n45 := mt (nI_leI (a := 4) (b := 4) (by omega) (by omega)).mpr c45
      omega
  | succ n ih =>
    intro i hq1
    refine q_iload_n dX10_measure_43 rfl ?_
    refine q_iconst (v := 4) dX10_measure_44 rfl ?_
    refine q_icmp_ge 82 dX10_measure_45 rfl (fun c45 => ?_) (fun c45 => ?_)
    · have n45 := (nI_leI (a := 4) (b := i) (by omega) (by omega)).mp c45
      omega
    · have n45 := mt (nI_leI (a := 4) (b := i) (by omega) (by omega)).mpr c45
      refine q_aload_n dX10_measure_48 rfl ?_
      refine q_get (j := 14) (v := .ref 35) dX10_measure_49 (Nat.le_of_ble_eq_true rfl) rfl rfl iuX10 (Nat.le_of_ble_eq_true rfl) uw_938 rfl rfl ?_
      refine q_iload_n dX10_measure_52 rfl ?_
      refine q_aload_n dX10_measure_53 rfl ?_
      refine q_get (j := 14) (v := .ref 35) dX10_measure_54 (Nat.le_of_ble_eq_true rfl) rfl rfl iuX10 (Nat.le_of_ble_eq_true rfl) uw_938 rfl rfl ?_
      refine q_iload_n dX10_measure_57 rfl ?_
      refine q_iconst (v := 1) dX10_measure_58 rfl ?_
      refine q_iadd dX10_measure_59 ?_
      refine q_iald (f := (shF (z_MW S) i)) dX10_measure_60 (Nat.le_of_ble_eq_true rfl) rfl ((i + 1)) (by simp only [fa_lit, pk_mul, nI_add]) (by omega) (Nat.le_of_ble_eq_true rfl) ?_
      refine q_iast (f := (shF (z_MW S) i)) dX10_measure_61 (Nat.le_of_ble_eq_true rfl) rfl (i) rfl (by omega) (Nat.le_of_ble_eq_true rfl) ?_
      refine wp_w (u_MW g _ _) ?_
      rw [ss_MW]
      refine q_aload_n dX10_measure_62 rfl ?_
      refine q_get (j := 15) (v := .ref 36) dX10_measure_63 (Nat.le_of_ble_eq_true rfl) rfl rfl iuX10 (Nat.le_of_ble_eq_true rfl) uw_939 rfl rfl ?_
      refine q_iload_n dX10_measure_66 rfl ?_
      refine q_aload_n dX10_measure_67 rfl ?_
      refine q_get (j := 15) (v := .ref 36) dX10_measure_68 (Nat.le_of_ble_eq_true rfl) rfl rfl iuX10 (Nat.le_of_ble_eq_true rfl) uw_939 rfl rfl ?_
      refine q_iload_n dX10_measure_71 rfl ?_
      refine q_iconst (v := 1) dX10_measure_72 rfl ?_
      refine q_iadd dX10_measure_73 ?_
      refine q_iald (f := (shF (z_MS S) i)) dX10_measure_74 (Nat.le_of_ble_eq_true rfl) rfl ((i + 1)) (by simp only [fa_lit, pk_mul, nI_add]) (by omega) (Nat.le_of_ble_eq_true rfl) ?_
      refine q_iast (f := (shF (z_MS S) i)) dX10_measure_75 (Nat.le_of_ble_eq_true rfl) rfl (i) rfl (by omega) (Nat.le_of_ble_eq_true rfl) ?_
      refine wp_w (u_MS g _ _) ?_
      rw [sc_MS_MW, ss_MS]
      refine q_iinc3 (k9 := 1) dX10_measure_76 rfl (Nat.le_of_ble_eq_true rfl) rfl ?_
      refine wp_L (L2 := [some (.ref 26), some (.int (nI k)), some (.int (nI v)), some (.int (nI (i + 1)))]) (by rw [show nI i + 1 = nI (i + 1) from nI_1 _]) ?_
      refine q_goto 43 dX10_measure_79 rfl ?_
      rw [sh_up, sh_up]
      exact ih (i + 1) (by omega)
set_option maxRecDepth 100000 in
set_option maxHeartbeats 4000000 in
theorem c_X10_measure {g : G0} (hG : Gd g) (S : SS) (k : Nat) (v : Nat) (q : Nat) (h1 : (z_ME S) = nI q) (h2 : q < 5) (h3 : k ≤ 1) (h4 : v ≤ 1000) : ctv g mX10_measure [.ref 26, .int (nI k), .int (nI v)] (mixW g S) (.int (nI (q + 1))) (mixW g (s_RF (s_ME (s_MW (s_MS S (upd (z_MS S) q (nI v))) (upd (z_MW S) q (nI k))) (nI (q + 1))) (0))) := by
  refine ct_of hG [some (.ref 26), some (.int (nI k)), some (.int (nI v)), none] rfl rfl rfl (Nat.le_of_ble_eq_true rfl) (fun h => ?_) rfl
  refine q_aload_n dX10_measure_0 rfl ?_
  refine q_iload_n dX10_measure_1 rfl ?_
  refine q_callSv (ν := mX10_isBit) dX10_measure_2 uw_1057 vX10_isBit (c_X10_isBit hG S ((nI k))) rfl rfl (Nat.le_of_ble_eq_true rfl) (Nat.le_of_ble_eq_true rfl) (Nat.le_of_ble_eq_true rfl) 0 (Nat.le_of_ble_eq_true rfl) ?_
  refine q_if_eq 24 dX10_measure_5 rfl (fun c5 => ?_) (fun c5 => ?_)
  · exact absurd (two_ok (by omega)) (pI_0 c5)
  · refine q_iload_n dX10_measure_8 rfl ?_
    refine q_i2l dX10_measure_9 ?_
    refine q_lconst (v := 0) dX10_measure_10 rfl ?_
    refine q_ldc2 dX10_measure_11 uw_1191 ?_
    refine q_callSv (ν := mX10_in) dX10_measure_14 uw_997 vX10_in (c_X10_in hG S (((nI v : Int32).toInt64)) (0) (1000)) rfl rfl (Nat.le_of_ble_eq_true rfl) (Nat.le_of_ble_eq_true rfl) (Nat.le_of_ble_eq_true rfl) 0 (Nat.le_of_ble_eq_true rfl) ?_
    refine wp_top (y := pI (0 ≤ (nI v) ∧ (nI v) ≤ 1000)) (inI (l2 := 0) (u2 := 1000) rfl rfl) ?_
    refine q_if_eq 24 dX10_measure_17 rfl (fun c17 => ?_) (fun c17 => ?_)
    · exact absurd (rng_ok (lo := 0) (hi := 1000) (by omega) (by omega) (by omega)) (pI_0 c17)
    · refine q_iconst (v := 0) dX10_measure_20 rfl ?_
      refine q_goto 25 dX10_measure_21 rfl ?_
      refine q_callVv (ν := mX10_refused) dX10_measure_25 uw_1000 vX10_refused (c_X10_refused hG S (0)) (Nat.le_of_ble_eq_true rfl) rfl rfl rfl rfl (Nat.le_of_ble_eq_true rfl) (Nat.le_of_ble_eq_true rfl) (Nat.le_of_ble_eq_true rfl) 0 (Nat.le_of_ble_eq_true rfl) ?_
      refine wp_w (w2 := mixW g (s_RF S (0))) rfl ?_
      refine wp_top (y := 0) (pI_f (by decide)) ?_
      refine q_if_eq 33 dX10_measure_28 rfl (fun c28 => ?_) (fun c28 => ?_)
      · refine q_aload_n dX10_measure_33 rfl ?_
        refine q_get (j := 13) (v := .int ((z_ME S))) dX10_measure_34 (Nat.le_of_ble_eq_true rfl) rfl rfl iuX10 (Nat.le_of_ble_eq_true rfl) uw_937 rfl rfl ?_
        refine wp_top (y := nI q) h1 ?_
        refine q_iconst (v := 5) dX10_measure_37 rfl ?_
        refine q_icmp_ne 92 dX10_measure_38 rfl (fun c38 => ?_) (fun c38 => ?_)
        · have n38 := mt (nI_eq (a := q) (b := 5) (by omega) (by omega)).mpr c38
          refine q_aload_n dX10_measure_92 rfl ?_
          refine q_get (j := 14) (v := .ref 35) dX10_measure_93 (Nat.le_of_ble_eq_true rfl) rfl rfl iuX10 (Nat.le_of_ble_eq_true rfl) uw_938 rfl rfl ?_
          refine q_aload_n dX10_measure_96 rfl ?_
          refine q_get (j := 13) (v := .int ((z_ME S))) dX10_measure_97 (Nat.le_of_ble_eq_true rfl) rfl rfl iuX10 (Nat.le_of_ble_eq_true rfl) uw_937 rfl rfl ?_
          refine wp_top (y := nI q) h1 ?_
          refine q_iload_n dX10_measure_100 rfl ?_
          refine q_iast (f := (z_MW S)) dX10_measure_101 (Nat.le_of_ble_eq_true rfl) rfl (q) rfl (by omega) (Nat.le_of_ble_eq_true rfl) ?_
          refine wp_w (u_MW g _ _) ?_
          rw [sc_MW_RF]
          refine q_aload_n dX10_measure_102 rfl ?_
          refine q_get (j := 15) (v := .ref 36) dX10_measure_103 (Nat.le_of_ble_eq_true rfl) rfl rfl iuX10 (Nat.le_of_ble_eq_true rfl) uw_939 rfl rfl ?_
          refine q_aload_n dX10_measure_106 rfl ?_
          refine q_get (j := 13) (v := .int ((z_ME S))) dX10_measure_107 (Nat.le_of_ble_eq_true rfl) rfl rfl iuX10 (Nat.le_of_ble_eq_true rfl) uw_937 rfl rfl ?_
          refine wp_top (y := nI q) h1 ?_
          refine q_iload_n dX10_measure_110 rfl ?_
          refine q_iast (f := (z_MS S)) dX10_measure_111 (Nat.le_of_ble_eq_true rfl) rfl (q) rfl (by omega) (Nat.le_of_ble_eq_true rfl) ?_
          refine wp_w (u_MS g _ _) ?_
          rw [sc_MS_RF, sc_MS_MW]
          refine q_aload_n dX10_measure_112 rfl ?_
          refine q_dup dX10_measure_113 rfl ?_
          refine q_get (j := 13) (v := .int ((z_ME S))) dX10_measure_114 (Nat.le_of_ble_eq_true rfl) rfl rfl iuX10 (Nat.le_of_ble_eq_true rfl) uw_937 rfl rfl ?_
          refine wp_top (y := nI q) h1 ?_
          refine q_iconst (v := 1) dX10_measure_117 rfl ?_
          refine q_iadd dX10_measure_118 ?_
          refine wp_top (y := nI (q + 1)) (nI_1 q) ?_
          refine q_put (j := 13) (ty := .int) dX10_measure_119 (Nat.le_of_ble_eq_true rfl) rfl rfl iuX10 tyX10_ok nmX10 (Nat.le_of_ble_eq_true rfl) uw_937 rfl rfl rfl rfl rfl (Nat.le_of_ble_eq_true rfl) ?_
          refine wp_w (u_ME g _ _) ?_
          rw [sc_ME_RF]
          refine q_aload_n dX10_measure_122 rfl ?_
          refine q_get (j := 13) (v := .int ((nI (q + 1)))) dX10_measure_123 (Nat.le_of_ble_eq_true rfl) rfl rfl iuX10 (Nat.le_of_ble_eq_true rfl) uw_937 rfl rfl ?_
          exact q_iret dX10_measure_126 rfl ⟨rfl, rfl⟩
        · have n38 := (nI_eq (a := q) (b := 5) (by omega) (by omega)).mp c38
          omega
      · first | exact absurd (by decide) c28 | exact absurd c28 (by decide)
set_option maxRecDepth 100000 in
set_option maxHeartbeats 4000000 in
theorem c_X10_measure_5 {g : G0} (hG : Gd g) (S : SS) (k : Nat) (v : Nat)  (h1 : (z_ME S) = nI 5) (h2 : k ≤ 1) (h3 : v ≤ 1000) : ctv g mX10_measure [.ref 26, .int (nI k), .int (nI v)] (mixW g S) (.int (nI 5)) (mixW g (s_RF (s_ME (s_MW (s_MS S (upd (shF (z_MS S) 4) 4 (nI v))) (upd (shF (z_MW S) 4) 4 (nI k))) (nI 5)) (0))) := by
  refine ct_of hG [some (.ref 26), some (.int (nI k)), some (.int (nI v)), none] rfl rfl rfl (Nat.le_of_ble_eq_true rfl) (fun h => ?_) rfl
  refine q_aload_n dX10_measure_0 rfl ?_
  refine q_iload_n dX10_measure_1 rfl ?_
  refine q_callSv (ν := mX10_isBit) dX10_measure_2 uw_1057 vX10_isBit (c_X10_isBit hG S ((nI k))) rfl rfl (Nat.le_of_ble_eq_true rfl) (Nat.le_of_ble_eq_true rfl) (Nat.le_of_ble_eq_true rfl) 0 (Nat.le_of_ble_eq_true rfl) ?_
  refine q_if_eq 24 dX10_measure_5 rfl (fun c5 => ?_) (fun c5 => ?_)
  · exact absurd (two_ok (by omega)) (pI_0 c5)
  · refine q_iload_n dX10_measure_8 rfl ?_
    refine q_i2l dX10_measure_9 ?_
    refine q_lconst (v := 0) dX10_measure_10 rfl ?_
    refine q_ldc2 dX10_measure_11 uw_1191 ?_
    refine q_callSv (ν := mX10_in) dX10_measure_14 uw_997 vX10_in (c_X10_in hG S (((nI v : Int32).toInt64)) (0) (1000)) rfl rfl (Nat.le_of_ble_eq_true rfl) (Nat.le_of_ble_eq_true rfl) (Nat.le_of_ble_eq_true rfl) 0 (Nat.le_of_ble_eq_true rfl) ?_
    refine wp_top (y := pI (0 ≤ (nI v) ∧ (nI v) ≤ 1000)) (inI (l2 := 0) (u2 := 1000) rfl rfl) ?_
    refine q_if_eq 24 dX10_measure_17 rfl (fun c17 => ?_) (fun c17 => ?_)
    · exact absurd (rng_ok (lo := 0) (hi := 1000) (by omega) (by omega) (by omega)) (pI_0 c17)
    · refine q_iconst (v := 0) dX10_measure_20 rfl ?_
      refine q_goto 25 dX10_measure_21 rfl ?_
      refine q_callVv (ν := mX10_refused) dX10_measure_25 uw_1000 vX10_refused (c_X10_refused hG S (0)) (Nat.le_of_ble_eq_true rfl) rfl rfl rfl rfl (Nat.le_of_ble_eq_true rfl) (Nat.le_of_ble_eq_true rfl) (Nat.le_of_ble_eq_true rfl) 0 (Nat.le_of_ble_eq_true rfl) ?_
      refine wp_w (w2 := mixW g (s_RF S (0))) rfl ?_
      refine wp_top (y := 0) (pI_f (by decide)) ?_
      refine q_if_eq 33 dX10_measure_28 rfl (fun c28 => ?_) (fun c28 => ?_)
      · refine q_aload_n dX10_measure_33 rfl ?_
        refine q_get (j := 13) (v := .int ((z_ME S))) dX10_measure_34 (Nat.le_of_ble_eq_true rfl) rfl rfl iuX10 (Nat.le_of_ble_eq_true rfl) uw_937 rfl rfl ?_
        refine wp_top (y := nI 5) h1 ?_
        refine q_iconst (v := 5) dX10_measure_37 rfl ?_
        refine q_icmp_ne 92 dX10_measure_38 rfl (fun c38 => ?_) (fun c38 => ?_)
        · have n38 := mt (nI_eq (a := 5) (b := 5) (by omega) (by omega)).mpr c38
          omega
        · have n38 := (nI_eq (a := 5) (b := 5) (by omega) (by omega)).mp c38
          refine q_iconst (v := 0) dX10_measure_41 rfl ?_
          refine q_ist3 dX10_measure_42 (Nat.le_of_ble_eq_true rfl) rfl ?_
          refine wp_w (w2 := mixW g (s_MW (s_MS (s_RF S (0)) (shF (z_MS (s_RF S (0))) 0)) (shF (z_MW (s_RF S (0))) 0))) (by rw [sh_0, sh_0, se_MS]; exact (congrArg (mixW g) (se_MW _)).symm) ?_
          refine l_X10_measure hG (s_RF S (0)) k v ?_ 4 0 (by omega)
          rw [sc_MS_RF, sc_MW_RF]
          refine wp_w (w2 := mixW g (s_RF (s_MW (s_MS S (shF (z_MS S) 4)) (shF (z_MW S) 4)) 0)) rfl ?_
          refine q_aload_n dX10_measure_82 rfl ?_
          refine q_dup dX10_measure_83 rfl ?_
          refine q_get (j := 13) (v := .int ((z_ME S))) dX10_measure_84 (Nat.le_of_ble_eq_true rfl) rfl rfl iuX10 (Nat.le_of_ble_eq_true rfl) uw_937 rfl rfl ?_
          refine wp_top (y := nI 5) h1 ?_
          refine q_iconst (v := 1) dX10_measure_87 rfl ?_
          refine q_isub dX10_measure_88 ?_
          refine wp_top (y := nI 4) (pk_sub (a := 5) (b := 1) (by omega)) ?_
          refine q_put (j := 13) (ty := .int) dX10_measure_89 (Nat.le_of_ble_eq_true rfl) rfl rfl iuX10 tyX10_ok nmX10 (Nat.le_of_ble_eq_true rfl) uw_937 rfl rfl rfl rfl rfl (Nat.le_of_ble_eq_true rfl) ?_
          refine wp_w (u_ME g _ _) ?_
          rw [sc_ME_RF]
          refine q_aload_n dX10_measure_92 rfl ?_
          refine q_get (j := 14) (v := .ref 35) dX10_measure_93 (Nat.le_of_ble_eq_true rfl) rfl rfl iuX10 (Nat.le_of_ble_eq_true rfl) uw_938 rfl rfl ?_
          refine q_aload_n dX10_measure_96 rfl ?_
          refine q_get (j := 13) (v := .int ((nI 4))) dX10_measure_97 (Nat.le_of_ble_eq_true rfl) rfl rfl iuX10 (Nat.le_of_ble_eq_true rfl) uw_937 rfl rfl ?_
          refine q_iload_n dX10_measure_100 rfl ?_
          refine q_iast (f := (shF (z_MW S) 4)) dX10_measure_101 (Nat.le_of_ble_eq_true rfl) rfl (4) rfl (Nat.le_of_ble_eq_true rfl) (Nat.le_of_ble_eq_true rfl) ?_
          refine wp_w (u_MW g _ _) ?_
          rw [sc_MW_RF, sc_MW_ME, ss_MW]
          refine q_aload_n dX10_measure_102 rfl ?_
          refine q_get (j := 15) (v := .ref 36) dX10_measure_103 (Nat.le_of_ble_eq_true rfl) rfl rfl iuX10 (Nat.le_of_ble_eq_true rfl) uw_939 rfl rfl ?_
          refine q_aload_n dX10_measure_106 rfl ?_
          refine q_get (j := 13) (v := .int ((nI 4))) dX10_measure_107 (Nat.le_of_ble_eq_true rfl) rfl rfl iuX10 (Nat.le_of_ble_eq_true rfl) uw_937 rfl rfl ?_
          refine q_iload_n dX10_measure_110 rfl ?_
          refine q_iast (f := (shF (z_MS S) 4)) dX10_measure_111 (Nat.le_of_ble_eq_true rfl) rfl (4) rfl (Nat.le_of_ble_eq_true rfl) (Nat.le_of_ble_eq_true rfl) ?_
          refine wp_w (u_MS g _ _) ?_
          rw [sc_MS_RF, sc_MS_ME, sc_MS_MW, ss_MS]
          refine q_aload_n dX10_measure_112 rfl ?_
          refine q_dup dX10_measure_113 rfl ?_
          refine q_get (j := 13) (v := .int ((nI 4))) dX10_measure_114 (Nat.le_of_ble_eq_true rfl) rfl rfl iuX10 (Nat.le_of_ble_eq_true rfl) uw_937 rfl rfl ?_
          refine q_iconst (v := 1) dX10_measure_117 rfl ?_
          refine q_iadd dX10_measure_118 ?_
          refine wp_top (y := nI 5) (nI_1 4) ?_
          refine q_put (j := 13) (ty := .int) dX10_measure_119 (Nat.le_of_ble_eq_true rfl) rfl rfl iuX10 tyX10_ok nmX10 (Nat.le_of_ble_eq_true rfl) uw_937 rfl rfl rfl rfl rfl (Nat.le_of_ble_eq_true rfl) ?_
          refine wp_w (u_ME g _ _) ?_
          rw [sc_ME_RF, ss_ME]
          refine q_aload_n dX10_measure_122 rfl ?_
          refine q_get (j := 13) (v := .int ((nI 5))) dX10_measure_123 (Nat.le_of_ble_eq_true rfl) rfl rfl iuX10 (Nat.le_of_ble_eq_true rfl) uw_937 rfl rfl ?_
          exact q_iret dX10_measure_126 rfl ⟨rfl, rfl⟩
      · first | exact absurd (by decide) c28 | exact absurd c28 (by decide)
set_option maxRecDepth 100000 in
set_option maxHeartbeats 4000000 in
theorem c_X10_measure_x {g : G0} (hG : Gd g) (S : SS) (k : Int32) (v : Int32)  (h1 : ¬ ((k = 0 ∨ k = 1) ∧ (0 ≤ v ∧ v ≤ 1000))) : ctv g mX10_measure [.ref 26, .int k, .int v] (mixW g S) (.int (0)) (mixW g (s_RF S (1))) := by
  refine ct_of hG [some (.ref 26), some (.int (k)), some (.int (v)), none] rfl rfl rfl (Nat.le_of_ble_eq_true rfl) (fun h => ?_) rfl
  refine q_aload_n dX10_measure_0 rfl ?_
  refine q_iload_n dX10_measure_1 rfl ?_
  refine q_callSv (ν := mX10_isBit) dX10_measure_2 uw_1057 vX10_isBit (c_X10_isBit hG S (k)) rfl rfl (Nat.le_of_ble_eq_true rfl) (Nat.le_of_ble_eq_true rfl) (Nat.le_of_ble_eq_true rfl) 0 (Nat.le_of_ble_eq_true rfl) ?_
  refine q_if_eq 24 dX10_measure_5 rfl (fun c5 => ?_) (fun c5 => ?_)
  · refine q_iconst (v := 1) dX10_measure_24 rfl ?_
    refine q_callVv (ν := mX10_refused) dX10_measure_25 uw_1000 vX10_refused (c_X10_refused hG S (1)) (Nat.le_of_ble_eq_true rfl) rfl rfl rfl rfl (Nat.le_of_ble_eq_true rfl) (Nat.le_of_ble_eq_true rfl) (Nat.le_of_ble_eq_true rfl) 0 (Nat.le_of_ble_eq_true rfl) ?_
    refine wp_w (w2 := mixW g (s_RF S (1))) rfl ?_
    refine wp_top (y := 1) (pI_t (by decide)) ?_
    refine q_if_eq 33 dX10_measure_28 rfl (fun c28 => ?_) (fun c28 => ?_)
    · first | exact absurd (by decide) c28 | exact absurd c28 (by decide)
    · refine q_iconst (v := 0) dX10_measure_31 rfl ?_
      exact q_iret dX10_measure_32 rfl ⟨rfl, rfl⟩
  · refine q_iload_n dX10_measure_8 rfl ?_
    refine q_i2l dX10_measure_9 ?_
    refine q_lconst (v := 0) dX10_measure_10 rfl ?_
    refine q_ldc2 dX10_measure_11 uw_1191 ?_
    refine q_callSv (ν := mX10_in) dX10_measure_14 uw_997 vX10_in (c_X10_in hG S (((v : Int32).toInt64)) (0) (1000)) rfl rfl (Nat.le_of_ble_eq_true rfl) (Nat.le_of_ble_eq_true rfl) (Nat.le_of_ble_eq_true rfl) 0 (Nat.le_of_ble_eq_true rfl) ?_
    refine wp_top (y := pI (0 ≤ v ∧ v ≤ 1000)) (inI (l2 := 0) (u2 := 1000) rfl rfl) ?_
    refine q_if_eq 24 dX10_measure_17 rfl (fun c17 => ?_) (fun c17 => ?_)
    · refine q_iconst (v := 1) dX10_measure_24 rfl ?_
      refine q_callVv (ν := mX10_refused) dX10_measure_25 uw_1000 vX10_refused (c_X10_refused hG S (1)) (Nat.le_of_ble_eq_true rfl) rfl rfl rfl rfl (Nat.le_of_ble_eq_true rfl) (Nat.le_of_ble_eq_true rfl) (Nat.le_of_ble_eq_true rfl) 0 (Nat.le_of_ble_eq_true rfl) ?_
      refine wp_w (w2 := mixW g (s_RF S (1))) rfl ?_
      refine wp_top (y := 1) (pI_t (by decide)) ?_
      refine q_if_eq 33 dX10_measure_28 rfl (fun c28 => ?_) (fun c28 => ?_)
      · first | exact absurd (by decide) c28 | exact absurd c28 (by decide)
      · refine q_iconst (v := 0) dX10_measure_31 rfl ?_
        exact q_iret dX10_measure_32 rfl ⟨rfl, rfl⟩
    · exact absurd ⟨pI_1 c5, pI_1 c17⟩ h1
