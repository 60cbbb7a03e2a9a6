noncomputable def lmE (f : Nat → Int32) (d i j : Nat) : Int64 := (if j = i then 100 else 0) - (prM f j (nI i) d).toInt64
noncomputable def mxJ (f : Nat → Int32) (d i : Nat) (mx : Nat → Int64) : Nat → Nat → Int64
  | 0 => mx
  | j + 1 => vp_updL (mxJ f d i mx j) (6 * i + j) (lmE f d i j)
noncomputable def mxI (f : Nat → Int32) (d N : Nat) (mx : Nat → Int64) : Nat → Nat → Int64
  | 0 => mx
  | i + 1 => mxJ f d i (mxI f d N mx i) N
def rtE (f : Nat → Int32) (d i : Nat) : Int64 := if f 25 = nI i then 100 * (f (26 + d)).toInt64 else 0
def rtI (f : Nat → Int32) (d : Nat) (rt : Nat → Int64) : Nat → Nat → Int64
  | 0 => rt
  | i + 1 => vp_updL (rtI f d rt i) i (rtE f d i)
def pcN (k : Nat) : Nat → Nat
  | 0 => 0
  | i + 1 => pcN k i + k / 2 ^ i % 2
def enM (mx rt : Nat → Int64) (row : Nat) (col : Int32) (i : Nat) : Int64 := if nI i = col then rt row else mx (6 * row + i)
def dtS (mx rt mo : Nat → Int64) (k row : Nat) (col : Int32) : Nat → Int64
  | 0 => 0
  | i + 1 => if k / 2 ^ i % 2 = 1 then dtS mx rt mo k row col i + (if (row + pcN k i) % 2 = 0 then enM mx rt row col i else -(enM mx rt row col i)) * mo (k - 2 ^ i) else dtS mx rt mo k row col i
/-- the table of minors, masks up to j done -/
def moM (mx rt : Nat → Int64) (n : Nat) (col : Int32) (mo : Nat → Int64) : Nat → Nat → Int64
  | 0 => vp_updL mo 0 1
  | j + 1 => vp_updL (moM mx rt n col mo j) (j + 1) (dtS mx rt (moM mx rt n col mo j) (j + 1) (pcN (j + 1) n - 1) col n)
theorem pcN_0 (k : Nat) : nI (pcN k 0) = 0 := by rw [pcN]; rfl
theorem pcN_00 (k : Nat) : nI (pcN k 0) + -1 = -1 := by rw [pcN]; decide
theorem dtS_0 (mx rt mo : Nat → Int64) (k row : Nat) (col : Int32) : dtS mx rt mo k row col 0 = 0 := by rw [dtS]
theorem moM_s (mx rt : Nat → Int64) (n : Nat) (col : Int32) (mo : Nat → Int64) (j : Nat) : moM mx rt n col mo (j + 1) = vp_updL (moM mx rt n col mo j) (j + 1) (dtS mx rt (moM mx rt n col mo j) (j + 1) (pcN (j + 1) n - 1) col n) := by rw [moM]
def dmM (mx rt : Nat → Int64) (n : Nat) (col : Int32) (mo : Nat → Int64) : Int64 := moM mx rt n col mo (2 ^ n - 1) (2 ^ n - 1)
theorem bt_6 : ∀ k, k < 64 → ∀ i, i < 6 → (nI k >>> (nI i &&& 31)) &&& 1 = nI (k / 2 ^ i % 2) := by decide +kernel
theorem sh_6 : ∀ i, i < 7 → 1 <<< (nI i &&& 31) = nI (2 ^ i) := by decide +kernel
theorem cb_6 : ∀ k, k < 64 → ∀ i, i < 6 → k / 2 ^ i % 2 = 1 → nI k &&& ((1 <<< (nI i &&& 31)) ^^^ -1) = nI (k - 2 ^ i) := by decide +kernel
theorem pc_6 : ∀ n, n < 7 → ∀ k, k < 64 → 1 ≤ k → k < 2 ^ n → 1 ≤ pcN k n ∧ pcN k n ≤ n := by decide +kernel
theorem p2_6 : ∀ n, n < 7 → 1 ≤ 2 ^ n ∧ 2 ^ n ≤ 64 := by decide
theorem pc_st (k i : Nat) : nI (pcN k i) + -1 + nI (k / 2 ^ i % 2) = nI (pcN k (i + 1)) + -1 := by
  show _ = nI (pcN k i + k / 2 ^ i % 2) + -1
  rw [← nI_add, Int32.add_assoc, Int32.add_comm (-1), ← Int32.add_assoc]
theorem pc_d {j : Nat} (h : 1 ≤ j) : nI j + -1 = nI (j - 1) := by
  obtain ⟨q, rfl⟩ : ∃ q, j = q + 1 := ⟨j - 1, by omega⟩
  exact pk_m1 q
set_option maxRecDepth 100000 in
set_option maxHeartbeats 4000000 in
theorem l_X10_lm12_27 {g : G0} {h : G1} (hG : Gd g) (S : SS) {Q : State → Prop} (N d : Nat) (hN : z_NW S 0 = nI N) (hN6 : N ≤ 6) (hd : d < 2) (q : Nat) (hq : q < N) (k : wp g h mX10_layMatrix (mixW g (s_MX S (mxJ (z_NW S) d q (z_MX S) N))) [some (.ref 26), some (.ref 27), some (.int (nI d)), some (.int (nI q)), some (.int (nI N))] [] 0 Q 61) : ∀ (n i : Nat), i + n = N → wp g h mX10_layMatrix (mixW g (s_MX S (mxJ (z_NW S) d q (z_MX S) i))) [some (.ref 26), some (.ref 27), some (.int (nI d)), some (.int (nI q)), some (.int (nI i))] [] 0 Q 12 := by
  intro n
  induction n with
  | zero =>
    intro i hq1
    obtain rfl : N = i := by omega
    refine q_iload dX10_layMatrix_12 rfl ?_
    refine q_aload_n dX10_layMatrix_14 rfl ?_
    refine q_iconst (v := 0) dX10_layMatrix_15 rfl ?_
    refine q_iald (f := (z_NW S)) dX10_layMatrix_16 (Nat.le_of_ble_eq_true rfl) rfl (0) rfl (Nat.le_of_ble_eq_true rfl) (Nat.le_of_ble_eq_true rfl) ?_
    refine wp_top (y := nI N) hN ?_
    refine q_icmp_ge 61 dX10_layMatrix_17 rfl (fun c17 => ?_) (fun c17 => ?_)
    · have n17 := (nI_leI (a := N) (b := N) (by omega) (by omega)).mp c17
      exact k
    · have n17 := mt (nI_leI (a := N) (b := N) (by omega) (by omega)).mpr c17
      omega
  | succ n ih =>
    intro i hq1
    refine q_iload dX10_layMatrix_12 rfl ?_
    refine q_aload_n dX10_layMatrix_14 rfl ?_
    refine q_iconst (v := 0) dX10_layMatrix_15 rfl ?_
    refine q_iald (f := (z_NW S)) dX10_layMatrix_16 (Nat.le_of_ble_eq_true rfl) rfl (0) rfl (Nat.le_of_ble_eq_true rfl) (Nat.le_of_ble_eq_true rfl) ?_
    refine wp_top (y := nI N) hN ?_
    refine q_icmp_ge 61 dX10_layMatrix_17 rfl (fun c17 => ?_) (fun c17 => ?_)
    · have n17 := (nI_leI (a := N) (b := i) (by omega) (by omega)).mp c17
      omega
    · have n17 := mt (nI_leI (a := N) (b := i) (by omega) (by omega)).mpr c17
      refine q_aload_n dX10_layMatrix_20 rfl ?_
      refine q_get (j := 16) (v := .ref 37) dX10_layMatrix_21 (Nat.le_of_ble_eq_true rfl) rfl rfl iuX10 (Nat.le_of_ble_eq_true rfl) uw_940 rfl rfl ?_
      refine q_bipush (v := 6) dX10_layMatrix_24 rfl ?_
      refine q_iload_n dX10_layMatrix_26 rfl ?_
      refine q_imul dX10_layMatrix_27 ?_
      refine q_iload dX10_layMatrix_28 rfl ?_
      refine q_iadd dX10_layMatrix_30 ?_
      refine q_iload dX10_layMatrix_31 rfl ?_
      refine q_iload_n dX10_layMatrix_33 rfl ?_
      refine q_icmp_ne 43 dX10_layMatrix_34 rfl (fun c34 => ?_) (fun c34 => ?_)
      · have n34 := mt (nI_eq (a := i) (b := q) (by omega) (by omega)).mpr c34
        refine q_lconst (v := 0) dX10_layMatrix_43 rfl ?_
        refine q_aload_n dX10_layMatrix_44 rfl ?_
        refine q_iload dX10_layMatrix_45 rfl ?_
        refine q_iload_n dX10_layMatrix_47 rfl ?_
        refine q_iload_n dX10_layMatrix_48 rfl ?_
        refine q_callSv (ν := mX10_part) dX10_layMatrix_49 uw_1157 vX10_part (c_X10_part_27 hG (s_MX S (mxJ (z_NW S) d q (z_MX S) i)) (i) ((nI q)) (d) (by omega) (by omega)) rfl rfl (Nat.le_of_ble_eq_true rfl) (Nat.le_of_ble_eq_true rfl) (Nat.le_of_ble_eq_true rfl) 0 (Nat.le_of_ble_eq_true rfl) ?_
        refine wp_eq (st2 := .int ((prM (z_NW S) i (nI q) d)) :: _) rfl ?_
        refine q_i2l dX10_layMatrix_52 ?_
        refine q_lsub dX10_layMatrix_53 ?_
        refine wp_topl (y := lmE (z_NW S) d q i) (by unfold lmE; rw [if_neg n34]) ?_
        refine q_last (f := (mxJ (z_NW S) d q (z_MX S) i)) dX10_layMatrix_54 (Nat.le_of_ble_eq_true rfl) rfl (((6 * q) + i)) (by simp only [fa_lit, pk_mul, nI_add]) (by omega) (Nat.le_of_ble_eq_true rfl) ?_
        refine wp_w (u_MX g _ _) ?_
        rw [ss_MX]
        refine q_iinc4 (k9 := 1) dX10_layMatrix_55 rfl (Nat.le_of_ble_eq_true rfl) rfl ?_
        refine wp_L (L2 := [some (.ref 26), some (.ref 27), some (.int (nI d)), some (.int (nI q)), some (.int (nI (i + 1)))]) (by rw [show nI i + 1 = nI (i + 1) from nI_1 _]) ?_
        refine q_goto 12 dX10_layMatrix_58 rfl ?_
        refine wp_w (w2 := mixW g (s_MX S (mxJ (z_NW S) d q (z_MX S) (i + 1)))) rfl ?_
        exact ih (i + 1) (by omega)
      · have n34 := (nI_eq (a := i) (b := q) (by omega) (by omega)).mp c34
        refine q_ldc2 dX10_layMatrix_37 uw_1076 ?_
        refine q_goto 44 dX10_layMatrix_40 rfl ?_
        refine q_aload_n dX10_layMatrix_44 rfl ?_
        refine q_iload dX10_layMatrix_45 rfl ?_
        refine q_iload_n dX10_layMatrix_47 rfl ?_
        refine q_iload_n dX10_layMatrix_48 rfl ?_
        refine q_callSv (ν := mX10_part) dX10_layMatrix_49 uw_1157 vX10_part (c_X10_part_27 hG (s_MX S (mxJ (z_NW S) d q (z_MX S) i)) (i) ((nI q)) (d) (by omega) (by omega)) rfl rfl (Nat.le_of_ble_eq_true rfl) (Nat.le_of_ble_eq_true rfl) (Nat.le_of_ble_eq_true rfl) 0 (Nat.le_of_ble_eq_true rfl) ?_
        refine wp_eq (st2 := .int ((prM (z_NW S) i (nI q) d)) :: _) rfl ?_
        refine q_i2l dX10_layMatrix_52 ?_
        refine q_lsub dX10_layMatrix_53 ?_
        refine wp_topl (y := lmE (z_NW S) d q i) (by unfold lmE; rw [if_pos n34]) ?_
        refine q_last (f := (mxJ (z_NW S) d q (z_MX S) i)) dX10_layMatrix_54 (Nat.le_of_ble_eq_true rfl) rfl (((6 * q) + i)) (by simp only [fa_lit, pk_mul, nI_add]) (by omega) (Nat.le_of_ble_eq_true rfl) ?_
        refine wp_w (u_MX g _ _) ?_
        rw [ss_MX]
        refine q_iinc4 (k9 := 1) dX10_layMatrix_55 rfl (Nat.le_of_ble_eq_true rfl) rfl ?_
        refine wp_L (L2 := [some (.ref 26), some (.ref 27), some (.int (nI d)), some (.int (nI q)), some (.int (nI (i + 1)))]) (by rw [show nI i + 1 = nI (i + 1) from nI_1 _]) ?_
        refine q_goto 12 dX10_layMatrix_58 rfl ?_
        refine wp_w (w2 := mixW g (s_MX S (mxJ (z_NW S) d q (z_MX S) (i + 1)))) rfl ?_
        exact ih (i + 1) (by omega)
set_option maxRecDepth 100000 in
set_option maxHeartbeats 4000000 in
theorem l_X10_lm2_27 {g : G0} {h : G1} (hG : Gd g) (S : SS) {Q : State → Prop} (N d : Nat) (hN : z_NW S 0 = nI N) (hN6 : N ≤ 6) (hd : d < 2) (k : wp g h mX10_layMatrix (mixW g (s_MX (s_RT S (rtI (z_NW S) d (z_RT S) N)) (mxI (z_NW S) d N (z_MX S) N))) [some (.ref 26), some (.ref 27), some (.int (nI d)), some (.int (nI N)), none] [] 0 Q 96) : ∀ (n i : Nat), i + n = N → wp g h mX10_layMatrix (mixW g (s_MX (s_RT S (rtI (z_NW S) d (z_RT S) i)) (mxI (z_NW S) d N (z_MX S) i))) [some (.ref 26), some (.ref 27), some (.int (nI d)), some (.int (nI i)), none] [] 0 Q 2 := by
  intro n
  induction n with
  | zero =>
    intro i hq1
    obtain rfl : N = i := by omega
    refine q_iload_n dX10_layMatrix_2 rfl ?_
    refine q_aload_n dX10_layMatrix_3 rfl ?_
    refine q_iconst (v := 0) dX10_layMatrix_4 rfl ?_
    refine q_iald (f := (z_NW S)) dX10_layMatrix_5 (Nat.le_of_ble_eq_true rfl) rfl (0) rfl (Nat.le_of_ble_eq_true rfl) (Nat.le_of_ble_eq_true rfl) ?_
    refine wp_top (y := nI N) hN ?_
    refine q_icmp_ge 96 dX10_layMatrix_6 rfl (fun c6 => ?_) (fun c6 => ?_)
    · have n6 := (nI_leI (a := N) (b := N) (by omega) (by omega)).mp c6
      exact k
    · have n6 := mt (nI_leI (a := N) (b := N) (by omega) (by omega)).mpr c6
      omega
  | succ n ih =>
    intro i hq1
    refine q_iload_n dX10_layMatrix_2 rfl ?_
    refine q_aload_n dX10_layMatrix_3 rfl ?_
    refine q_iconst (v := 0) dX10_layMatrix_4 rfl ?_
    refine q_iald (f := (z_NW S)) dX10_layMatrix_5 (Nat.le_of_ble_eq_true rfl) rfl (0) rfl (Nat.le_of_ble_eq_true rfl) (Nat.le_of_ble_eq_true rfl) ?_
    refine wp_top (y := nI N) hN ?_
    refine q_icmp_ge 96 dX10_layMatrix_6 rfl (fun c6 => ?_) (fun c6 => ?_)
    · have n6 := (nI_leI (a := N) (b := i) (by omega) (by omega)).mp c6
      omega
    · have n6 := mt (nI_leI (a := N) (b := i) (by omega) (by omega)).mpr c6
      refine q_iconst (v := 0) dX10_layMatrix_9 rfl ?_
      refine q_ist4 dX10_layMatrix_10 (Nat.le_of_ble_eq_true rfl) rfl ?_
      refine wp_L (L2 := [some (.ref 26), some (.ref 27), some (.int (nI d)), some (.int (nI i)), some (.int (nI 0))]) rfl ?_
      refine wp_w (w2 := mixW g (s_MX (s_MX (s_RT S (rtI (z_NW S) d (z_RT S) i)) (mxI (z_NW S) d N (z_MX S) i)) (mxJ (z_NW S) d i (z_MX (s_MX (s_RT S (rtI (z_NW S) d (z_RT S) i)) (mxI (z_NW S) d N (z_MX S) i))) 0))) (by rw [ss_MX]; rfl) ?_
      refine l_X10_lm12_27 hG (s_MX (s_RT S (rtI (z_NW S) d (z_RT S) i)) (mxI (z_NW S) d N (z_MX S) i)) N d hN hN6 hd i (by omega) ?_ N 0 (by omega)
      rw [ss_MX]
      refine wp_w (w2 := mixW g (s_MX (s_RT S (rtI (z_NW S) d (z_RT S) i)) (mxJ (z_NW S) d i (mxI (z_NW S) d N (z_MX S) i) N))) rfl ?_
      refine q_aload_n dX10_layMatrix_61 rfl ?_
      refine q_get (j := 17) (v := .ref 38) dX10_layMatrix_62 (Nat.le_of_ble_eq_true rfl) rfl rfl iuX10 (Nat.le_of_ble_eq_true rfl) uw_941 rfl rfl ?_
      refine q_iload_n dX10_layMatrix_65 rfl ?_
      refine q_aload_n dX10_layMatrix_66 rfl ?_
      refine q_bipush (v := 25) dX10_layMatrix_67 rfl ?_
      refine q_iald (f := (z_NW S)) dX10_layMatrix_69 (Nat.le_of_ble_eq_true rfl) rfl (25) rfl (Nat.le_of_ble_eq_true rfl) (Nat.le_of_ble_eq_true rfl) ?_
      refine q_iload_n dX10_layMatrix_70 rfl ?_
      refine q_icmp_ne 88 dX10_layMatrix_71 rfl (fun c71 => ?_) (fun c71 => ?_)
      · refine q_lconst (v := 0) dX10_layMatrix_88 rfl ?_
        refine wp_topl (y := rtE (z_NW S) d i) (by unfold rtE; rw [if_neg c71]) ?_
        refine q_last (f := (rtI (z_NW S) d (z_RT S) i)) dX10_layMatrix_89 (Nat.le_of_ble_eq_true rfl) rfl (i) rfl (by omega) (Nat.le_of_ble_eq_true rfl) ?_
        refine wp_w (u_RT g _ _) ?_
        rw [sc_RT_MX, ss_RT]
        refine q_iinc3 (k9 := 1) dX10_layMatrix_90 rfl (Nat.le_of_ble_eq_true rfl) rfl ?_
        refine wp_L (L2 := [some (.ref 26), some (.ref 27), some (.int (nI d)), some (.int (nI (i + 1))), some (.int (nI N))]) (by rw [show nI i + 1 = nI (i + 1) from nI_1 _]) ?_
        refine q_goto 2 dX10_layMatrix_93 rfl ?_
        refine wp_fg (L2 := [some (.ref 26), some (.ref 27), some (.int (nI d)), some (.int (nI (i + 1))), none]) ⟨rfl, rfl, rfl, rfl, trivial⟩ ?_
        refine wp_w (w2 := mixW g (s_MX (s_RT S (rtI (z_NW S) d (z_RT S) (i + 1))) (mxI (z_NW S) d N (z_MX S) (i + 1)))) rfl ?_
        exact ih (i + 1) (by omega)
      · refine q_ldc2 dX10_layMatrix_74 uw_1076 ?_
        refine q_aload_n dX10_layMatrix_77 rfl ?_
        refine q_bipush (v := 26) dX10_layMatrix_78 rfl ?_
        refine q_iload_n dX10_layMatrix_80 rfl ?_
        refine q_iadd dX10_layMatrix_81 ?_
        refine q_iald (f := (z_NW S)) dX10_layMatrix_82 (Nat.le_of_ble_eq_true rfl) rfl ((26 + d)) (by simp only [fa_lit, pk_mul, nI_add]) (by omega) (Nat.le_of_ble_eq_true rfl) ?_
        refine q_i2l dX10_layMatrix_83 ?_
        refine q_lmul dX10_layMatrix_84 ?_
        refine q_goto 89 dX10_layMatrix_85 rfl ?_
        refine wp_topl (y := rtE (z_NW S) d i) (by unfold rtE; rw [if_pos c71]) ?_
        refine q_last (f := (rtI (z_NW S) d (z_RT S) i)) dX10_layMatrix_89 (Nat.le_of_ble_eq_true rfl) rfl (i) rfl (by omega) (Nat.le_of_ble_eq_true rfl) ?_
        refine wp_w (u_RT g _ _) ?_
        rw [sc_RT_MX, ss_RT]
        refine q_iinc3 (k9 := 1) dX10_layMatrix_90 rfl (Nat.le_of_ble_eq_true rfl) rfl ?_
        refine wp_L (L2 := [some (.ref 26), some (.ref 27), some (.int (nI d)), some (.int (nI (i + 1))), some (.int (nI N))]) (by rw [show nI i + 1 = nI (i + 1) from nI_1 _]) ?_
        refine q_goto 2 dX10_layMatrix_93 rfl ?_
        refine wp_fg (L2 := [some (.ref 26), some (.ref 27), some (.int (nI d)), some (.int (nI (i + 1))), none]) ⟨rfl, rfl, rfl, rfl, trivial⟩ ?_
        refine wp_w (w2 := mixW g (s_MX (s_RT S (rtI (z_NW S) d (z_RT S) (i + 1))) (mxI (z_NW S) d N (z_MX S) (i + 1)))) rfl ?_
        exact ih (i + 1) (by omega)
set_option maxRecDepth 100000 in
set_option maxHeartbeats 4000000 in
theorem c_X10_layMatrix_27 {g : G0} (hG : Gd g) (S : SS) (d : Nat) (N : Nat) (h1 : (z_NW S) 0 = nI N) (h2 : N ≤ 6) (h3 : d < 2) : ctu g mX10_layMatrix [.ref 26, .ref 27, .int (nI d)] (mixW g S) (mixW g (s_MX (s_RT S (rtI (z_NW S) d (z_RT S) N)) (mxI (z_NW S) d N (z_MX S) N))) := by
  refine ct_of hG [some (.ref 26), some (.ref 27), some (.int (nI d)), none, none] rfl rfl rfl (Nat.le_of_ble_eq_true rfl) (fun h => ?_) rfl
  refine q_iconst (v := 0) dX10_layMatrix_0 rfl ?_
  refine q_ist3 dX10_layMatrix_1 (Nat.le_of_ble_eq_true rfl) rfl ?_
  refine wp_L (L2 := [some (.ref 26), some (.ref 27), some (.int (nI d)), some (.int (nI 0)), none]) rfl ?_
  refine wp_w (w2 := mixW g (s_MX (s_RT S (rtI (z_NW S) d (z_RT S) 0)) (mxI (z_NW S) d N (z_MX S) 0))) (by rw [show mxI (z_NW S) d N (z_MX S) 0 = z_MX S from rfl, show rtI (z_NW S) d (z_RT S) 0 = z_RT S from rfl, se_RT, se_MX]) ?_
  refine l_X10_lm2_27 hG S N d h1 h2 h3 ?_ N 0 (by omega)
  exact q_vret dX10_layMatrix_96 rfl ⟨rfl, rfl⟩
set_option maxRecDepth 100000 in
set_option maxHeartbeats 4000000 in
theorem l_X10_lm12_28 {g : G0} {h : G1} (hG : Gd g) (S : SS) {Q : State → Prop} (N d : Nat) (hN : z_TR S 0 = nI N) (hN6 : N ≤ 6) (hd : d < 2) (q : Nat) (hq : q < N) (k : wp g h mX10_layMatrix (mixW g (s_MX S (mxJ (z_TR S) d q (z_MX S) N))) [some (.ref 26), some (.ref 28), some (.int (nI d)), some (.int (nI q)), some (.int (nI N))] [] 0 Q 61) : ∀ (n i : Nat), i + n = N → wp g h mX10_layMatrix (mixW g (s_MX S (mxJ (z_TR S) d q (z_MX S) i))) [some (.ref 26), some (.ref 28), some (.int (nI d)), some (.int (nI q)), some (.int (nI i))] [] 0 Q 12 := by
  intro n
  induction n with
  | zero =>
    intro i hq1
    obtain rfl : N = i := by omega
    refine q_iload dX10_layMatrix_12 rfl ?_
    refine q_aload_n dX10_layMatrix_14 rfl ?_
    refine q_iconst (v := 0) dX10_layMatrix_15 rfl ?_
    refine q_iald (f := (z_TR S)) dX10_layMatrix_16 (Nat.le_of_ble_eq_true rfl) rfl (0) rfl (Nat.le_of_ble_eq_true rfl) (Nat.le_of_ble_eq_true rfl) ?_
    refine wp_top (y := nI N) hN ?_
    refine q_icmp_ge 61 dX10_layMatrix_17 rfl (fun c17 => ?_) (fun c17 => ?_)
    · have n17 := (nI_leI (a := N) (b := N) (by omega) (by omega)).mp c17
      exact k
    · have n17 := mt (nI_leI (a := N) (b := N) (by omega) (by omega)).mpr c17
      omega
  | succ n ih =>
    intro i hq1
    refine q_iload dX10_layMatrix_12 rfl ?_
    refine q_aload_n dX10_layMatrix_14 rfl ?_
    refine q_iconst (v := 0) dX10_layMatrix_15 rfl ?_
    refine q_iald (f := (z_TR S)) dX10_layMatrix_16 (Nat.le_of_ble_eq_true rfl) rfl (0) rfl (Nat.le_of_ble_eq_true rfl) (Nat.le_of_ble_eq_true rfl) ?_
    refine wp_top (y := nI N) hN ?_
    refine q_icmp_ge 61 dX10_layMatrix_17 rfl (fun c17 => ?_) (fun c17 => ?_)
    · have n17 := (nI_leI (a := N) (b := i) (by omega) (by omega)).mp c17
      omega
    · have n17 := mt (nI_leI (a := N) (b := i) (by omega) (by omega)).mpr c17
      refine q_aload_n dX10_layMatrix_20 rfl ?_
      refine q_get (j := 16) (v := .ref 37) dX10_layMatrix_21 (Nat.le_of_ble_eq_true rfl) rfl rfl iuX10 (Nat.le_of_ble_eq_true rfl) uw_940 rfl rfl ?_
      refine q_bipush (v := 6) dX10_layMatrix_24 rfl ?_
      refine q_iload_n dX10_layMatrix_26 rfl ?_
      refine q_imul dX10_layMatrix_27 ?_
      refine q_iload dX10_layMatrix_28 rfl ?_
      refine q_iadd dX10_layMatrix_30 ?_
      refine q_iload dX10_layMatrix_31 rfl ?_
      refine q_iload_n dX10_layMatrix_33 rfl ?_
      refine q_icmp_ne 43 dX10_layMatrix_34 rfl (fun c34 => ?_) (fun c34 => ?_)
      · have n34 := mt (nI_eq (a := i) (b := q) (by omega) (by omega)).mpr c34
        refine q_lconst (v := 0) dX10_layMatrix_43 rfl ?_
        refine q_aload_n dX10_layMatrix_44 rfl ?_
        refine q_iload dX10_layMatrix_45 rfl ?_
        refine q_iload_n dX10_layMatrix_47 rfl ?_
        refine q_iload_n dX10_layMatrix_48 rfl ?_
        refine q_callSv (ν := mX10_part) dX10_layMatrix_49 uw_1157 vX10_part (c_X10_part_28 hG (s_MX S (mxJ (z_TR S) d q (z_MX S) i)) (i) ((nI q)) (d) (by omega) (by omega)) rfl rfl (Nat.le_of_ble_eq_true rfl) (Nat.le_of_ble_eq_true rfl) (Nat.le_of_ble_eq_true rfl) 0 (Nat.le_of_ble_eq_true rfl) ?_
        refine wp_eq (st2 := .int ((prM (z_TR S) i (nI q) d)) :: _) rfl ?_
        refine q_i2l dX10_layMatrix_52 ?_
        refine q_lsub dX10_layMatrix_53 ?_
        refine wp_topl (y := lmE (z_TR S) d q i) (by unfold lmE; rw [if_neg n34]) ?_
        refine q_last (f := (mxJ (z_TR S) d q (z_MX S) i)) dX10_layMatrix_54 (Nat.le_of_ble_eq_true rfl) rfl (((6 * q) + i)) (by simp only [fa_lit, pk_mul, nI_add]) (by omega) (Nat.le_of_ble_eq_true rfl) ?_
        refine wp_w (u_MX g _ _) ?_
        rw [ss_MX]
        refine q_iinc4 (k9 := 1) dX10_layMatrix_55 rfl (Nat.le_of_ble_eq_true rfl) rfl ?_
        refine wp_L (L2 := [some (.ref 26), some (.ref 28), some (.int (nI d)), some (.int (nI q)), some (.int (nI (i + 1)))]) (by rw [show nI i + 1 = nI (i + 1) from nI_1 _]) ?_
        refine q_goto 12 dX10_layMatrix_58 rfl ?_
        refine wp_w (w2 := mixW g (s_MX S (mxJ (z_TR S) d q (z_MX S) (i + 1)))) rfl ?_
        exact ih (i + 1) (by omega)
      · have n34 := (nI_eq (a := i) (b := q) (by omega) (by omega)).mp c34
        refine q_ldc2 dX10_layMatrix_37 uw_1076 ?_
        refine q_goto 44 dX10_layMatrix_40 rfl ?_
        refine q_aload_n dX10_layMatrix_44 rfl ?_
        refine q_iload dX10_layMatrix_45 rfl ?_
        refine q_iload_n dX10_layMatrix_47 rfl ?_
        refine q_iload_n dX10_layMatrix_48 rfl ?_
        refine q_callSv (ν := mX10_part) dX10_layMatrix_49 uw_1157 vX10_part (c_X10_part_28 hG (s_MX S (mxJ (z_TR S) d q (z_MX S) i)) (i) ((nI q)) (d) (by omega) (by omega)) rfl rfl (Nat.le_of_ble_eq_true rfl) (Nat.le_of_ble_eq_true rfl) (Nat.le_of_ble_eq_true rfl) 0 (Nat.le_of_ble_eq_true rfl) ?_
        refine wp_eq (st2 := .int ((prM (z_TR S) i (nI q) d)) :: _) rfl ?_
        refine q_i2l dX10_layMatrix_52 ?_
        refine q_lsub dX10_layMatrix_53 ?_
        refine wp_topl (y := lmE (z_TR S) d q i) (by unfold lmE; rw [if_pos n34]) ?_
        refine q_last (f := (mxJ (z_TR S) d q (z_MX S) i)) dX10_layMatrix_54 (Nat.le_of_ble_eq_true rfl) rfl (((6 * q) + i)) (by simp only [fa_lit, pk_mul, nI_add]) (by omega) (Nat.le_of_ble_eq_true rfl) ?_
        refine wp_w (u_MX g _ _) ?_
        rw [ss_MX]
        refine q_iinc4 (k9 := 1) dX10_layMatrix_55 rfl (Nat.le_of_ble_eq_true rfl) rfl ?_
        refine wp_L (L2 := [some (.ref 26), some (.ref 28), some (.int (nI d)), some (.int (nI q)), some (.int (nI (i + 1)))]) (by rw [show nI i + 1 = nI (i + 1) from nI_1 _]) ?_
        refine q_goto 12 dX10_layMatrix_58 rfl ?_
        refine wp_w (w2 := mixW g (s_MX S (mxJ (z_TR S) d q (z_MX S) (i + 1)))) rfl ?_
        exact ih (i + 1) (by omega)
set_option maxRecDepth 100000 in
set_option maxHeartbeats 4000000 in
theorem l_X10_lm2_28 {g : G0} {h : G1} (hG : Gd g) (S : SS) {Q : State → Prop} (N d : Nat) (hN : z_TR S 0 = nI N) (hN6 : N ≤ 6) (hd : d < 2) (k : wp g h mX10_layMatrix (mixW g (s_MX (s_RT S (rtI (z_TR S) d (z_RT S) N)) (mxI (z_TR S) d N (z_MX S) N))) [some (.ref 26), some (.ref 28), some (.int (nI d)), some (.int (nI N)), none] [] 0 Q 96) : ∀ (n i : Nat), i + n = N → wp g h mX10_layMatrix (mixW g (s_MX (s_RT S (rtI (z_TR S) d (z_RT S) i)) (mxI (z_TR S) d N (z_MX S) i))) [some (.ref 26), some (.ref 28), some (.int (nI d)), some (.int (nI i)), none] [] 0 Q 2 := by
  intro n
  induction n with
  | zero =>
    intro i hq1
    obtain rfl : N = i := by omega
    refine q_iload_n dX10_layMatrix_2 rfl ?_
    refine q_aload_n dX10_layMatrix_3 rfl ?_
    refine q_iconst (v := 0) dX10_layMatrix_4 rfl ?_
    refine q_iald (f := (z_TR S)) dX10_layMatrix_5 (Nat.le_of_ble_eq_true rfl) rfl (0) rfl (Nat.le_of_ble_eq_true rfl) (Nat.le_of_ble_eq_true rfl) ?_
    refine wp_top (y := nI N) hN ?_
    refine q_icmp_ge 96 dX10_layMatrix_6 rfl (fun c6 => ?_) (fun c6 => ?_)
    · have n6 := (nI_leI (a := N) (b := N) (by omega) (by omega)).mp c6
      exact k
    · have n6 := mt (nI_leI (a := N) (b := N) (by omega) (by omega)).mpr c6
      omega
  | succ n ih =>
    intro i hq1
    refine q_iload_n dX10_layMatrix_2 rfl ?_
    refine q_aload_n dX10_layMatrix_3 rfl ?_
    refine q_iconst (v := 0) dX10_layMatrix_4 rfl ?_
    refine q_iald (f := (z_TR S)) dX10_layMatrix_5 (Nat.le_of_ble_eq_true rfl) rfl (0) rfl (Nat.le_of_ble_eq_true rfl) (Nat.le_of_ble_eq_true rfl) ?_
    refine wp_top (y := nI N) hN ?_
    refine q_icmp_ge 96 dX10_layMatrix_6 rfl (fun c6 => ?_) (fun c6 => ?_)
    · have n6 := (nI_leI (a := N) (b := i) (by omega) (by omega)).mp c6
      omega
    · have n6 := mt (nI_leI (a := N) (b := i) (by omega) (by omega)).mpr c6
      refine q_iconst (v := 0) dX10_layMatrix_9 rfl ?_
      refine q_ist4 dX10_layMatrix_10 (Nat.le_of_ble_eq_true rfl) rfl ?_
      refine wp_L (L2 := [some (.ref 26), some (.ref 28), some (.int (nI d)), some (.int (nI i)), some (.int (nI 0))]) rfl ?_
      refine wp_w (w2 := mixW g (s_MX (s_MX (s_RT S (rtI (z_TR S) d (z_RT S) i)) (mxI (z_TR S) d N (z_MX S) i)) (mxJ (z_TR S) d i (z_MX (s_MX (s_RT S (rtI (z_TR S) d (z_RT S) i)) (mxI (z_TR S) d N (z_MX S) i))) 0))) (by rw [ss_MX]; rfl) ?_
      refine l_X10_lm12_28 hG (s_MX (s_RT S (rtI (z_TR S) d (z_RT S) i)) (mxI (z_TR S) d N (z_MX S) i)) N d hN hN6 hd i (by omega) ?_ N 0 (by omega)
      rw [ss_MX]
      refine wp_w (w2 := mixW g (s_MX (s_RT S (rtI (z_TR S) d (z_RT S) i)) (mxJ (z_TR S) d i (mxI (z_TR S) d N (z_MX S) i) N))) rfl ?_
      refine q_aload_n dX10_layMatrix_61 rfl ?_
      refine q_get (j := 17) (v := .ref 38) dX10_layMatrix_62 (Nat.le_of_ble_eq_true rfl) rfl rfl iuX10 (Nat.le_of_ble_eq_true rfl) uw_941 rfl rfl ?_
      refine q_iload_n dX10_layMatrix_65 rfl ?_
      refine q_aload_n dX10_layMatrix_66 rfl ?_
      refine q_bipush (v := 25) dX10_layMatrix_67 rfl ?_
      refine q_iald (f := (z_TR S)) dX10_layMatrix_69 (Nat.le_of_ble_eq_true rfl) rfl (25) rfl (Nat.le_of_ble_eq_true rfl) (Nat.le_of_ble_eq_true rfl) ?_
      refine q_iload_n dX10_layMatrix_70 rfl ?_
      refine q_icmp_ne 88 dX10_layMatrix_71 rfl (fun c71 => ?_) (fun c71 => ?_)
      · refine q_lconst (v := 0) dX10_layMatrix_88 rfl ?_
        refine wp_topl (y := rtE (z_TR S) d i) (by unfold rtE; rw [if_neg c71]) ?_
        refine q_last (f := (rtI (z_TR S) d (z_RT S) i)) dX10_layMatrix_89 (Nat.le_of_ble_eq_true rfl) rfl (i) rfl (by omega) (Nat.le_of_ble_eq_true rfl) ?_
        refine wp_w (u_RT g _ _) ?_
        rw [sc_RT_MX, ss_RT]
        refine q_iinc3 (k9 := 1) dX10_layMatrix_90 rfl (Nat.le_of_ble_eq_true rfl) rfl ?_
        refine wp_L (L2 := [some (.ref 26), some (.ref 28), some (.int (nI d)), some (.int (nI (i + 1))), some (.int (nI N))]) (by rw [show nI i + 1 = nI (i + 1) from nI_1 _]) ?_
        refine q_goto 2 dX10_layMatrix_93 rfl ?_
        refine wp_fg (L2 := [some (.ref 26), some (.ref 28), some (.int (nI d)), some (.int (nI (i + 1))), none]) ⟨rfl, rfl, rfl, rfl, trivial⟩ ?_
        refine wp_w (w2 := mixW g (s_MX (s_RT S (rtI (z_TR S) d (z_RT S) (i + 1))) (mxI (z_TR S) d N (z_MX S) (i + 1)))) rfl ?_
        exact ih (i + 1) (by omega)
      · refine q_ldc2 dX10_layMatrix_74 uw_1076 ?_
        refine q_aload_n dX10_layMatrix_77 rfl ?_
        refine q_bipush (v := 26) dX10_layMatrix_78 rfl ?_
        refine q_iload_n dX10_layMatrix_80 rfl ?_
        refine q_iadd dX10_layMatrix_81 ?_
        refine q_iald (f := (z_TR S)) dX10_layMatrix_82 (Nat.le_of_ble_eq_true rfl) rfl ((26 + d)) (by simp only [fa_lit, pk_mul, nI_add]) (by omega) (Nat.le_of_ble_eq_true rfl) ?_
        refine q_i2l dX10_layMatrix_83 ?_
        refine q_lmul dX10_layMatrix_84 ?_
        refine q_goto 89 dX10_layMatrix_85 rfl ?_
        refine wp_topl (y := rtE (z_TR S) d i) (by unfold rtE; rw [if_pos c71]) ?_
        refine q_last (f := (rtI (z_TR S) d (z_RT S) i)) dX10_layMatrix_89 (Nat.le_of_ble_eq_true rfl) rfl (i) rfl (by omega) (Nat.le_of_ble_eq_true rfl) ?_
        refine wp_w (u_RT g _ _) ?_
        rw [sc_RT_MX, ss_RT]
        refine q_iinc3 (k9 := 1) dX10_layMatrix_90 rfl (Nat.le_of_ble_eq_true rfl) rfl ?_
        refine wp_L (L2 := [some (.ref 26), some (.ref 28), some (.int (nI d)), some (.int (nI (i + 1))), some (.int (nI N))]) (by rw [show nI i + 1 = nI (i + 1) from nI_1 _]) ?_
        refine q_goto 2 dX10_layMatrix_93 rfl ?_
        refine wp_fg (L2 := [some (.ref 26), some (.ref 28), some (.int (nI d)), some (.int (nI (i + 1))), none]) ⟨rfl, rfl, rfl, rfl, trivial⟩ ?_
        refine wp_w (w2 := mixW g (s_MX (s_RT S (rtI (z_TR S) d (z_RT S) (i + 1))) (mxI (z_TR S) d N (z_MX S) (i + 1)))) rfl ?_
        exact ih (i + 1) (by omega)
set_option maxRecDepth 100000 in
set_option maxHeartbeats 4000000 in
theorem c_X10_layMatrix_28 {g : G0} (hG : Gd g) (S : SS) (d : Nat) (N : Nat) (h1 : (z_TR S) 0 = nI N) (h2 : N ≤ 6) (h3 : d < 2) : ctu g mX10_layMatrix [.ref 26, .ref 28, .int (nI d)] (mixW g S) (mixW g (s_MX (s_RT S (rtI (z_TR S) d (z_RT S) N)) (mxI (z_TR S) d N (z_MX S) N))) := by
  refine ct_of hG [some (.ref 26), some (.ref 28), some (.int (nI d)), none, none] rfl rfl rfl (Nat.le_of_ble_eq_true rfl) (fun h => ?_) rfl
  refine q_iconst (v := 0) dX10_layMatrix_0 rfl ?_
  refine q_ist3 dX10_layMatrix_1 (Nat.le_of_ble_eq_true rfl) rfl ?_
  refine wp_L (L2 := [some (.ref 26), some (.ref 28), some (.int (nI d)), some (.int (nI 0)), none]) rfl ?_
  refine wp_w (w2 := mixW g (s_MX (s_RT S (rtI (z_TR S) d (z_RT S) 0)) (mxI (z_TR S) d N (z_MX S) 0))) (by rw [show mxI (z_TR S) d N (z_MX S) 0 = z_MX S from rfl, show rtI (z_TR S) d (z_RT S) 0 = z_RT S from rfl, se_RT, se_MX]) ?_
  refine l_X10_lm2_28 hG S N d h1 h2 h3 ?_ N 0 (by omega)
  exact q_vret dX10_layMatrix_96 rfl ⟨rfl, rfl⟩
set_option maxRecDepth 100000 in
set_option maxHeartbeats 4000000 in
theorem l_X10_det22 {g : G0} {h : G1} (hG : Gd g) (S : SS) {Q : State → Prop} (N : Nat) (col : Int32) (hN6 : N ≤ 6) (k : Nat) (hk : k < 64) (kk : wp g h mX10_determinant (mixW g S) [some (.ref 26), some (.int (nI N)), some (.int (col)), some (.int (nI k)), some (.int (nI (pcN k N) + -1)), some (.int (nI N)), none, none, none, none, none] [] 0 Q 45) : ∀ (n i : Nat), i + n = N → wp g h mX10_determinant (mixW g S) [some (.ref 26), some (.int (nI N)), some (.int (col)), some (.int (nI k)), some (.int (nI (pcN k i) + -1)), some (.int (nI i)), none, none, none, none, none] [] 0 Q 22 := by
  intro n
  induction n with
  | zero =>
    intro i hq1
    obtain rfl : N = i := by omega
    refine q_iload dX10_determinant_22 rfl ?_
    refine q_iload_n dX10_determinant_24 rfl ?_
    refine q_icmp_ge 45 dX10_determinant_25 rfl (fun c25 => ?_) (fun c25 => ?_)
    · have n25 := (nI_leI (a := N) (b := N) (by omega) (by omega)).mp c25
      exact kk
    · have n25 := mt (nI_leI (a := N) (b := N) (by omega) (by omega)).mpr c25
      omega
  | succ n ih =>
    intro i hq1
    refine q_iload dX10_determinant_22 rfl ?_
    refine q_iload_n dX10_determinant_24 rfl ?_
    refine q_icmp_ge 45 dX10_determinant_25 rfl (fun c25 => ?_) (fun c25 => ?_)
    · have n25 := (nI_leI (a := N) (b := i) (by omega) (by omega)).mp c25
      omega
    · have n25 := mt (nI_leI (a := N) (b := i) (by omega) (by omega)).mpr c25
      refine q_iload dX10_determinant_28 rfl ?_
      refine q_iload_n dX10_determinant_30 rfl ?_
      refine q_iload dX10_determinant_31 rfl ?_
      refine q_ishr dX10_determinant_33 ?_
      refine q_iconst (v := 1) dX10_determinant_34 rfl ?_
      refine q_iand dX10_determinant_35 ?_
      refine wp_top (y := nI (k / 2 ^ i % 2)) (bt_6 k hk i (by omega)) ?_
      refine q_iadd dX10_determinant_36 ?_
      refine wp_top (y := nI (pcN k (i + 1)) + -1) (pc_st k i) ?_
      refine q_ist4 dX10_determinant_37 (Nat.le_of_ble_eq_true rfl) rfl ?_
      refine q_iinc5 (k9 := 1) dX10_determinant_39 rfl (Nat.le_of_ble_eq_true rfl) rfl ?_
      refine wp_L (L2 := [some (.ref 26), some (.int (nI N)), some (.int (col)), some (.int (nI k)), some (.int (nI (pcN k (i + 1)) + -1)), some (.int (nI (i + 1))), none, none, none, none, none]) (by rw [show nI i + 1 = nI (i + 1) from nI_1 _]) ?_
      refine q_goto 22 dX10_determinant_42 rfl ?_
      exact ih (i + 1) (by omega)
theorem pc_le (k : Nat) : ∀ i, pcN k i ≤ i
  | 0 => Nat.le_refl 0
  | i + 1 => by have := pc_le k i; show pcN k i + k / 2 ^ i % 2 ≤ i + 1; omega
set_option maxRecDepth 100000 in
set_option maxHeartbeats 4000000 in
theorem l_X10_det54 {g : G0} {h : G1} (hG : Gd g) (S : SS) {Q : State → Prop} (N : Nat) (col : Int32) (hN6 : N ≤ 6) (k w : Nat) (hk : k < 64) (hw : w < 6) (kk : wp g h mX10_determinant (mixW g S) [some (.ref 26), some (.int (nI N)), some (.int (col)), some (.int (nI k)), some (.int (nI w)), some (.long (dtS (z_MX S) (z_RT S) (z_MO S) k w col N)), none, some (.int (nI (pcN k N))), some (.int (nI N)), none, none] [] 0 Q 147) : ∀ (n i : Nat), i + n = N → wp g h mX10_determinant (mixW g S) [some (.ref 26), some (.int (nI N)), some (.int (col)), some (.int (nI k)), some (.int (nI w)), some (.long (dtS (z_MX S) (z_RT S) (z_MO S) k w col i)), none, some (.int (nI (pcN k i))), some (.int (nI i)), none, none] [] 0 Q 54 := by
  intro n
  induction n with
  | zero =>
    intro i hq1
    obtain rfl : N = i := by omega
    refine q_iload dX10_determinant_54 rfl ?_
    refine q_iload_n dX10_determinant_56 rfl ?_
    refine q_icmp_ge 147 dX10_determinant_57 rfl (fun c57 => ?_) (fun c57 => ?_)
    · have n57 := (nI_leI (a := N) (b := N) (by omega) (by omega)).mp c57
      exact kk
    · have n57 := mt (nI_leI (a := N) (b := N) (by omega) (by omega)).mpr c57
      omega
  | succ n ih =>
    intro i hq1
    have hpc := pc_le k i
    refine q_iload dX10_determinant_54 rfl ?_
    refine q_iload_n dX10_determinant_56 rfl ?_
    refine q_icmp_ge 147 dX10_determinant_57 rfl (fun c57 => ?_) (fun c57 => ?_)
    · have n57 := (nI_leI (a := N) (b := i) (by omega) (by omega)).mp c57
      omega
    · have n57 := mt (nI_leI (a := N) (b := i) (by omega) (by omega)).mpr c57
      refine q_iload_n dX10_determinant_60 rfl ?_
      refine q_iload dX10_determinant_61 rfl ?_
      refine q_ishr dX10_determinant_63 ?_
      refine q_iconst (v := 1) dX10_determinant_64 rfl ?_
      refine q_iand dX10_determinant_65 ?_
      refine wp_top (y := nI (k / 2 ^ i % 2)) (bt_6 k hk i (by omega)) ?_
      refine q_iconst (v := 1) dX10_determinant_66 rfl ?_
      refine q_icmp_ne 141 dX10_determinant_67 rfl (fun c67 => ?_) (fun c67 => ?_)
      · have n67 := mt (nI_eq (a := (k / 2 ^ i % 2)) (b := 1) (by omega) (by omega)).mpr c67
        refine q_iinc8 (k9 := 1) dX10_determinant_141 rfl (Nat.le_of_ble_eq_true rfl) rfl ?_
        refine wp_L (L2 := [some (.ref 26), some (.int (nI N)), some (.int (col)), some (.int (nI k)), some (.int (nI w)), some (.long (dtS (z_MX S) (z_RT S) (z_MO S) k w col i)), none, some (.int (nI (pcN k i))), some (.int (nI (i + 1))), none, none]) (by rw [show nI i + 1 = nI (i + 1) from nI_1 _]) ?_
        refine q_goto 54 dX10_determinant_144 rfl ?_
        have epc : pcN k (i + 1) = (pcN k i) := by
          show pcN k i + k / 2 ^ i % 2 = _
          omega
        have edt : dtS (z_MX S) (z_RT S) (z_MO S) k w col (i + 1) = dtS (z_MX S) (z_RT S) (z_MO S) k w col i := by
          show (if k / 2 ^ i % 2 = 1 then _ else _) = _
          rw [if_neg n67]
        refine wp_L (L2 := [some (.ref 26), some (.int (nI N)), some (.int (col)), some (.int (nI k)), some (.int (nI w)), some (.long (dtS (z_MX S) (z_RT S) (z_MO S) k w col (i + 1))), none, some (.int (nI (pcN k (i + 1)))), some (.int (nI (i + 1))), none, none]) (by rw [epc, edt]) ?_
        exact ih (i + 1) (by omega)
      · have n67 := (nI_eq (a := (k / 2 ^ i % 2)) (b := 1) (by omega) (by omega)).mp c67
        refine q_iload dX10_determinant_70 rfl ?_
        refine q_iload_n dX10_determinant_72 rfl ?_
        refine q_icmp_ne 86 dX10_determinant_73 rfl (fun c73 => ?_) (fun c73 => ?_)
        · refine q_aload_n dX10_determinant_86 rfl ?_
          refine q_get (j := 16) (v := .ref 37) dX10_determinant_87 (Nat.le_of_ble_eq_true rfl) rfl rfl iuX10 (Nat.le_of_ble_eq_true rfl) uw_940 rfl rfl ?_
          refine q_bipush (v := 6) dX10_determinant_90 rfl ?_
          refine q_iload dX10_determinant_92 rfl ?_
          refine q_imul dX10_determinant_94 ?_
          refine q_iload dX10_determinant_95 rfl ?_
          refine q_iadd dX10_determinant_97 ?_
          refine q_lald (f := (z_MX S)) dX10_determinant_98 (Nat.le_of_ble_eq_true rfl) rfl (((6 * w) + i)) (by simp only [fa_lit, pk_mul, nI_add]) (by omega) (Nat.le_of_ble_eq_true rfl) ?_
          refine q_lst9 dX10_determinant_99 (Nat.le_of_ble_eq_true rfl) rfl ?_
          refine q_lload dX10_determinant_101 rfl ?_
          refine q_iload dX10_determinant_103 rfl ?_
          refine q_iload dX10_determinant_105 rfl ?_
          refine q_iadd dX10_determinant_107 ?_
          refine q_iconst (v := 2) dX10_determinant_108 rfl ?_
          refine q_irem dX10_determinant_109 (by decide) ?_
          refine wp_top (y := nI ((w + pcN k i) % 2)) (by rw [nI_add]; exact pk_rem (d := 2) (by omega) (by omega) (by omega)) ?_
          refine q_if_ne 118 dX10_determinant_110 rfl (fun c110 => ?_) (fun c110 => ?_)
          · have n110 := mt (nI_eq (a := ((w + pcN k i) % 2)) (b := 0) (by omega) (by omega)).mpr c110
            refine q_lload dX10_determinant_118 rfl ?_
            refine q_lneg dX10_determinant_120 ?_
            refine q_aload_n dX10_determinant_121 rfl ?_
            refine q_get (j := 18) (v := .ref 39) dX10_determinant_122 (Nat.le_of_ble_eq_true rfl) rfl rfl iuX10 (Nat.le_of_ble_eq_true rfl) uw_942 rfl rfl ?_
            refine q_iload_n dX10_determinant_125 rfl ?_
            refine q_iconst (v := 1) dX10_determinant_126 rfl ?_
            refine q_iload dX10_determinant_127 rfl ?_
            refine q_ishl dX10_determinant_129 ?_
            refine q_iconst (v := (-1)) dX10_determinant_130 rfl ?_
            refine q_ixor dX10_determinant_131 ?_
            refine q_iand dX10_determinant_132 ?_
            refine wp_top (y := nI (k - 2 ^ i)) (cb_6 k hk i (by omega) n67) ?_
            refine q_lald (f := (z_MO S)) dX10_determinant_133 (Nat.le_of_ble_eq_true rfl) rfl ((k - 2 ^ i)) rfl (Nat.lt_of_le_of_lt (Nat.sub_le _ _) hk) (Nat.le_of_ble_eq_true rfl) ?_
            refine q_lmul dX10_determinant_134 ?_
            refine q_ladd dX10_determinant_135 ?_
            refine q_lst5 dX10_determinant_136 (Nat.le_of_ble_eq_true rfl) rfl ?_
            refine q_iinc7 (k9 := 1) dX10_determinant_138 rfl (Nat.le_of_ble_eq_true rfl) rfl ?_
            refine wp_L (L2 := [some (.ref 26), some (.int (nI N)), some (.int (col)), some (.int (nI k)), some (.int (nI w)), some (.long ((dtS (z_MX S) (z_RT S) (z_MO S) k w col i + ((-((z_MX S) (((6 * w) + i)))) * ((z_MO S) ((k - 2 ^ i))))))), none, some (.int (nI ((pcN k i) + 1))), some (.int (nI i)), some (.long (((z_MX S) (((6 * w) + i))))), none]) (by rw [show nI (pcN k i) + 1 = nI ((pcN k i) + 1) from nI_1 _]) ?_
            refine q_iinc8 (k9 := 1) dX10_determinant_141 rfl (Nat.le_of_ble_eq_true rfl) rfl ?_
            refine wp_L (L2 := [some (.ref 26), some (.int (nI N)), some (.int (col)), some (.int (nI k)), some (.int (nI w)), some (.long ((dtS (z_MX S) (z_RT S) (z_MO S) k w col i + ((-((z_MX S) (((6 * w) + i)))) * ((z_MO S) ((k - 2 ^ i))))))), none, some (.int (nI ((pcN k i) + 1))), some (.int (nI (i + 1))), some (.long (((z_MX S) (((6 * w) + i))))), none]) (by rw [show nI i + 1 = nI (i + 1) from nI_1 _]) ?_
            refine q_goto 54 dX10_determinant_144 rfl ?_
            refine wp_fg (L2 := [some (.ref 26), some (.int (nI N)), some (.int (col)), some (.int (nI k)), some (.int (nI w)), some (.long ((dtS (z_MX S) (z_RT S) (z_MO S) k w col i + ((-((z_MX S) (((6 * w) + i)))) * ((z_MO S) ((k - 2 ^ i))))))), none, some (.int (nI ((pcN k i) + 1))), some (.int (nI (i + 1))), none, none]) ⟨rfl, rfl, rfl, rfl, rfl, rfl, rfl, rfl, trivial⟩ ?_
            have epc : pcN k (i + 1) = ((pcN k i) + 1) := by
              show pcN k i + k / 2 ^ i % 2 = _
              omega
            have edt : dtS (z_MX S) (z_RT S) (z_MO S) k w col (i + 1) = (dtS (z_MX S) (z_RT S) (z_MO S) k w col i + ((-((z_MX S) (((6 * w) + i)))) * ((z_MO S) ((k - 2 ^ i))))) := by
              show (if k / 2 ^ i % 2 = 1 then _ else _) = _
              rw [if_pos n67, if_neg n110]
              unfold enM
              first | rw [if_pos c73] | rw [if_neg c73]
            refine wp_L (L2 := [some (.ref 26), some (.int (nI N)), some (.int (col)), some (.int (nI k)), some (.int (nI w)), some (.long (dtS (z_MX S) (z_RT S) (z_MO S) k w col (i + 1))), none, some (.int (nI (pcN k (i + 1)))), some (.int (nI (i + 1))), none, none]) (by rw [epc, edt]) ?_
            exact ih (i + 1) (by omega)
          · have n110 := (nI_eq (a := ((w + pcN k i) % 2)) (b := 0) (by omega) (by omega)).mp c110
            refine q_lload dX10_determinant_113 rfl ?_
            refine q_goto 121 dX10_determinant_115 rfl ?_
            refine q_aload_n dX10_determinant_121 rfl ?_
            refine q_get (j := 18) (v := .ref 39) dX10_determinant_122 (Nat.le_of_ble_eq_true rfl) rfl rfl iuX10 (Nat.le_of_ble_eq_true rfl) uw_942 rfl rfl ?_
            refine q_iload_n dX10_determinant_125 rfl ?_
            refine q_iconst (v := 1) dX10_determinant_126 rfl ?_
            refine q_iload dX10_determinant_127 rfl ?_
            refine q_ishl dX10_determinant_129 ?_
            refine q_iconst (v := (-1)) dX10_determinant_130 rfl ?_
            refine q_ixor dX10_determinant_131 ?_
            refine q_iand dX10_determinant_132 ?_
            refine wp_top (y := nI (k - 2 ^ i)) (cb_6 k hk i (by omega) n67) ?_
            refine q_lald (f := (z_MO S)) dX10_determinant_133 (Nat.le_of_ble_eq_true rfl) rfl ((k - 2 ^ i)) rfl (Nat.lt_of_le_of_lt (Nat.sub_le _ _) hk) (Nat.le_of_ble_eq_true rfl) ?_
            refine q_lmul dX10_determinant_134 ?_
            refine q_ladd dX10_determinant_135 ?_
            refine q_lst5 dX10_determinant_136 (Nat.le_of_ble_eq_true rfl) rfl ?_
            refine q_iinc7 (k9 := 1) dX10_determinant_138 rfl (Nat.le_of_ble_eq_true rfl) rfl ?_
            refine wp_L (L2 := [some (.ref 26), some (.int (nI N)), some (.int (col)), some (.int (nI k)), some (.int (nI w)), some (.long ((dtS (z_MX S) (z_RT S) (z_MO S) k w col i + (((z_MX S) (((6 * w) + i))) * ((z_MO S) ((k - 2 ^ i))))))), none, some (.int (nI ((pcN k i) + 1))), some (.int (nI i)), some (.long (((z_MX S) (((6 * w) + i))))), none]) (by rw [show nI (pcN k i) + 1 = nI ((pcN k i) + 1) from nI_1 _]) ?_
            refine q_iinc8 (k9 := 1) dX10_determinant_141 rfl (Nat.le_of_ble_eq_true rfl) rfl ?_
            refine wp_L (L2 := [some (.ref 26), some (.int (nI N)), some (.int (col)), some (.int (nI k)), some (.int (nI w)), some (.long ((dtS (z_MX S) (z_RT S) (z_MO S) k w col i + (((z_MX S) (((6 * w) + i))) * ((z_MO S) ((k - 2 ^ i))))))), none, some (.int (nI ((pcN k i) + 1))), some (.int (nI (i + 1))), some (.long (((z_MX S) (((6 * w) + i))))), none]) (by rw [show nI i + 1 = nI (i + 1) from nI_1 _]) ?_
            refine q_goto 54 dX10_determinant_144 rfl ?_
            refine wp_fg (L2 := [some (.ref 26), some (.int (nI N)), some (.int (col)), some (.int (nI k)), some (.int (nI w)), some (.long ((dtS (z_MX S) (z_RT S) (z_MO S) k w col i + (((z_MX S) (((6 * w) + i))) * ((z_MO S) ((k - 2 ^ i))))))), none, some (.int (nI ((pcN k i) + 1))), some (.int (nI (i + 1))), none, none]) ⟨rfl, rfl, rfl, rfl, rfl, rfl, rfl, rfl, trivial⟩ ?_
            have epc : pcN k (i + 1) = ((pcN k i) + 1) := by
              show pcN k i + k / 2 ^ i % 2 = _
              omega
            have edt : dtS (z_MX S) (z_RT S) (z_MO S) k w col (i + 1) = (dtS (z_MX S) (z_RT S) (z_MO S) k w col i + (((z_MX S) (((6 * w) + i))) * ((z_MO S) ((k - 2 ^ i))))) := by
              show (if k / 2 ^ i % 2 = 1 then _ else _) = _
              rw [if_pos n67, if_pos n110]
              unfold enM
              first | rw [if_pos c73] | rw [if_neg c73]
            refine wp_L (L2 := [some (.ref 26), some (.int (nI N)), some (.int (col)), some (.int (nI k)), some (.int (nI w)), some (.long (dtS (z_MX S) (z_RT S) (z_MO S) k w col (i + 1))), none, some (.int (nI (pcN k (i + 1)))), some (.int (nI (i + 1))), none, none]) (by rw [epc, edt]) ?_
            exact ih (i + 1) (by omega)
        · refine q_aload_n dX10_determinant_76 rfl ?_
          refine q_get (j := 17) (v := .ref 38) dX10_determinant_77 (Nat.le_of_ble_eq_true rfl) rfl rfl iuX10 (Nat.le_of_ble_eq_true rfl) uw_941 rfl rfl ?_
          refine q_iload dX10_determinant_80 rfl ?_
          refine q_lald (f := (z_RT S)) dX10_determinant_82 (Nat.le_of_ble_eq_true rfl) rfl (w) rfl (by omega) (Nat.le_of_ble_eq_true rfl) ?_
          refine q_goto 99 dX10_determinant_83 rfl ?_
          refine q_lst9 dX10_determinant_99 (Nat.le_of_ble_eq_true rfl) rfl ?_
          refine q_lload dX10_determinant_101 rfl ?_
          refine q_iload dX10_determinant_103 rfl ?_
          refine q_iload dX10_determinant_105 rfl ?_
          refine q_iadd dX10_determinant_107 ?_
          refine q_iconst (v := 2) dX10_determinant_108 rfl ?_
          refine q_irem dX10_determinant_109 (by decide) ?_
          refine wp_top (y := nI ((w + pcN k i) % 2)) (by rw [nI_add]; exact pk_rem (d := 2) (by omega) (by omega) (by omega)) ?_
          refine q_if_ne 118 dX10_determinant_110 rfl (fun c110 => ?_) (fun c110 => ?_)
          · have n110 := mt (nI_eq (a := ((w + pcN k i) % 2)) (b := 0) (by omega) (by omega)).mpr c110
            refine q_lload dX10_determinant_118 rfl ?_
            refine q_lneg dX10_determinant_120 ?_
            refine q_aload_n dX10_determinant_121 rfl ?_
            refine q_get (j := 18) (v := .ref 39) dX10_determinant_122 (Nat.le_of_ble_eq_true rfl) rfl rfl iuX10 (Nat.le_of_ble_eq_true rfl) uw_942 rfl rfl ?_
            refine q_iload_n dX10_determinant_125 rfl ?_
            refine q_iconst (v := 1) dX10_determinant_126 rfl ?_
            refine q_iload dX10_determinant_127 rfl ?_
            refine q_ishl dX10_determinant_129 ?_
            refine q_iconst (v := (-1)) dX10_determinant_130 rfl ?_
            refine q_ixor dX10_determinant_131 ?_
            refine q_iand dX10_determinant_132 ?_
            refine wp_top (y := nI (k - 2 ^ i)) (cb_6 k hk i (by omega) n67) ?_
            refine q_lald (f := (z_MO S)) dX10_determinant_133 (Nat.le_of_ble_eq_true rfl) rfl ((k - 2 ^ i)) rfl (Nat.lt_of_le_of_lt (Nat.sub_le _ _) hk) (Nat.le_of_ble_eq_true rfl) ?_
            refine q_lmul dX10_determinant_134 ?_
            refine q_ladd dX10_determinant_135 ?_
            refine q_lst5 dX10_determinant_136 (Nat.le_of_ble_eq_true rfl) rfl ?_
            refine q_iinc7 (k9 := 1) dX10_determinant_138 rfl (Nat.le_of_ble_eq_true rfl) rfl ?_
            refine wp_L (L2 := [some (.ref 26), some (.int (nI N)), some (.int (col)), some (.int (nI k)), some (.int (nI w)), some (.long ((dtS (z_MX S) (z_RT S) (z_MO S) k w col i + ((-((z_RT S) (w))) * ((z_MO S) ((k - 2 ^ i))))))), none, some (.int (nI ((pcN k i) + 1))), some (.int (nI i)), some (.long (((z_RT S) (w)))), none]) (by rw [show nI (pcN k i) + 1 = nI ((pcN k i) + 1) from nI_1 _]) ?_
            refine q_iinc8 (k9 := 1) dX10_determinant_141 rfl (Nat.le_of_ble_eq_true rfl) rfl ?_
            refine wp_L (L2 := [some (.ref 26), some (.int (nI N)), some (.int (col)), some (.int (nI k)), some (.int (nI w)), some (.long ((dtS (z_MX S) (z_RT S) (z_MO S) k w col i + ((-((z_RT S) (w))) * ((z_MO S) ((k - 2 ^ i))))))), none, some (.int (nI ((pcN k i) + 1))), some (.int (nI (i + 1))), some (.long (((z_RT S) (w)))), none]) (by rw [show nI i + 1 = nI (i + 1) from nI_1 _]) ?_
            refine q_goto 54 dX10_determinant_144 rfl ?_
            refine wp_fg (L2 := [some (.ref 26), some (.int (nI N)), some (.int (col)), some (.int (nI k)), some (.int (nI w)), some (.long ((dtS (z_MX S) (z_RT S) (z_MO S) k w col i + ((-((z_RT S) (w))) * ((z_MO S) ((k - 2 ^ i))))))), none, some (.int (nI ((pcN k i) + 1))), some (.int (nI (i + 1))), none, none]) ⟨rfl, rfl, rfl, rfl, rfl, rfl, rfl, rfl, trivial⟩ ?_
            have epc : pcN k (i + 1) = ((pcN k i) + 1) := by
              show pcN k i + k / 2 ^ i % 2 = _
              omega
            have edt : dtS (z_MX S) (z_RT S) (z_MO S) k w col (i + 1) = (dtS (z_MX S) (z_RT S) (z_MO S) k w col i + ((-((z_RT S) (w))) * ((z_MO S) ((k - 2 ^ i))))) := by
              show (if k / 2 ^ i % 2 = 1 then _ else _) = _
              rw [if_pos n67, if_neg n110]
              unfold enM
              first | rw [if_pos c73] | rw [if_neg c73]
            refine wp_L (L2 := [some (.ref 26), some (.int (nI N)), some (.int (col)), some (.int (nI k)), some (.int (nI w)), some (.long (dtS (z_MX S) (z_RT S) (z_MO S) k w col (i + 1))), none, some (.int (nI (pcN k (i + 1)))), some (.int (nI (i + 1))), none, none]) (by rw [epc, edt]) ?_
            exact ih (i + 1) (by omega)
          · have n110 := (nI_eq (a := ((w + pcN k i) % 2)) (b := 0) (by omega) (by omega)).mp c110
            refine q_lload dX10_determinant_113 rfl ?_
            refine q_goto 121 dX10_determinant_115 rfl ?_
            refine q_aload_n dX10_determinant_121 rfl ?_
            refine q_get (j := 18) (v := .ref 39) dX10_determinant_122 (Nat.le_of_ble_eq_true rfl) rfl rfl iuX10 (Nat.le_of_ble_eq_true rfl) uw_942 rfl rfl ?_
            refine q_iload_n dX10_determinant_125 rfl ?_
            refine q_iconst (v := 1) dX10_determinant_126 rfl ?_
            refine q_iload dX10_determinant_127 rfl ?_
            refine q_ishl dX10_determinant_129 ?_
            refine q_iconst (v := (-1)) dX10_determinant_130 rfl ?_
            refine q_ixor dX10_determinant_131 ?_
            refine q_iand dX10_determinant_132 ?_
            refine wp_top (y := nI (k - 2 ^ i)) (cb_6 k hk i (by omega) n67) ?_
            refine q_lald (f := (z_MO S)) dX10_determinant_133 (Nat.le_of_ble_eq_true rfl) rfl ((k - 2 ^ i)) rfl (Nat.lt_of_le_of_lt (Nat.sub_le _ _) hk) (Nat.le_of_ble_eq_true rfl) ?_
            refine q_lmul dX10_determinant_134 ?_
            refine q_ladd dX10_determinant_135 ?_
            refine q_lst5 dX10_determinant_136 (Nat.le_of_ble_eq_true rfl) rfl ?_
            refine q_iinc7 (k9 := 1) dX10_determinant_138 rfl (Nat.le_of_ble_eq_true rfl) rfl ?_
            refine wp_L (L2 := [some (.ref 26), some (.int (nI N)), some (.int (col)), some (.int (nI k)), some (.int (nI w)), some (.long ((dtS (z_MX S) (z_RT S) (z_MO S) k w col i + (((z_RT S) (w)) * ((z_MO S) ((k - 2 ^ i))))))), none, some (.int (nI ((pcN k i) + 1))), some (.int (nI i)), some (.long (((z_RT S) (w)))), none]) (by rw [show nI (pcN k i) + 1 = nI ((pcN k i) + 1) from nI_1 _]) ?_
            refine q_iinc8 (k9 := 1) dX10_determinant_141 rfl (Nat.le_of_ble_eq_true rfl) rfl ?_
            refine wp_L (L2 := [some (.ref 26), some (.int (nI N)), some (.int (col)), some (.int (nI k)), some (.int (nI w)), some (.long ((dtS (z_MX S) (z_RT S) (z_MO S) k w col i + (((z_RT S) (w)) * ((z_MO S) ((k - 2 ^ i))))))), none, some (.int (nI ((pcN k i) + 1))), some (.int (nI (i + 1))), some (.long (((z_RT S) (w)))), none]) (by rw [show nI i + 1 = nI (i + 1) from nI_1 _]) ?_
            refine q_goto 54 dX10_determinant_144 rfl ?_
            refine wp_fg (L2 := [some (.ref 26), some (.int (nI N)), some (.int (col)), some (.int (nI k)), some (.int (nI w)), some (.long ((dtS (z_MX S) (z_RT S) (z_MO S) k w col i + (((z_RT S) (w)) * ((z_MO S) ((k - 2 ^ i))))))), none, some (.int (nI ((pcN k i) + 1))), some (.int (nI (i + 1))), none, none]) ⟨rfl, rfl, rfl, rfl, rfl, rfl, rfl, rfl, trivial⟩ ?_
            have epc : pcN k (i + 1) = ((pcN k i) + 1) := by
              show pcN k i + k / 2 ^ i % 2 = _
              omega
            have edt : dtS (z_MX S) (z_RT S) (z_MO S) k w col (i + 1) = (dtS (z_MX S) (z_RT S) (z_MO S) k w col i + (((z_RT S) (w)) * ((z_MO S) ((k - 2 ^ i))))) := by
              show (if k / 2 ^ i % 2 = 1 then _ else _) = _
              rw [if_pos n67, if_pos n110]
              unfold enM
              first | rw [if_pos c73] | rw [if_neg c73]
            refine wp_L (L2 := [some (.ref 26), some (.int (nI N)), some (.int (col)), some (.int (nI k)), some (.int (nI w)), some (.long (dtS (z_MX S) (z_RT S) (z_MO S) k w col (i + 1))), none, some (.int (nI (pcN k (i + 1)))), some (.int (nI (i + 1))), none, none]) (by rw [epc, edt]) ?_
            exact ih (i + 1) (by omega)
set_option maxRecDepth 100000 in
set_option maxHeartbeats 4000000 in
theorem l_X10_det9 {g : G0} {h : G1} (hG : Gd g) (S : SS) {Q : State → Prop} (N : Nat) (col : Int32) (hN6 : N ≤ 6) (P : Nat) (hP : 2 ^ N = P) (kk : wp g h mX10_determinant (mixW g (s_MO S (moM (z_MX S) (z_RT S) N col (z_MO S) (P - 1)))) [some (.ref 26), some (.int (nI N)), some (.int (col)), some (.int (nI ((P - 1) + 1))), none, none, none, none, none, none, none] [] 0 Q 161) : ∀ (n i : Nat), i + 1 + n = P → wp g h mX10_determinant (mixW g (s_MO S (moM (z_MX S) (z_RT S) N col (z_MO S) i))) [some (.ref 26), some (.int (nI N)), some (.int (col)), some (.int (nI (i + 1))), none, none, none, none, none, none, none] [] 0 Q 9 := by
  have hP6 := p2_6 N (by omega)
  rw [hP] at hP6
  intro n
  induction n with
  | zero =>
    intro i hq1
    obtain rfl : i = P - 1 := by omega
    refine q_iload_n dX10_determinant_9 rfl ?_
    refine q_iconst (v := 1) dX10_determinant_10 rfl ?_
    refine q_iload_n dX10_determinant_11 rfl ?_
    refine q_ishl dX10_determinant_12 ?_
    refine wp_top (y := nI P) (by rw [sh_6 N (by omega), hP]) ?_
    refine q_icmp_ge 161 dX10_determinant_13 rfl (fun c13 => ?_) (fun c13 => ?_)
    · have n13 := (nI_leI (a := P) (b := ((P - 1) + 1)) (by omega) (by omega)).mp c13
      exact kk
    · have n13 := mt (nI_leI (a := P) (b := ((P - 1) + 1)) (by omega) (by omega)).mpr c13
      omega
  | succ n ih =>
    intro i hq1
    have hpw := pc_6 N (by omega) (i + 1) (by omega) (by omega) (by omega)
    refine q_iload_n dX10_determinant_9 rfl ?_
    refine q_iconst (v := 1) dX10_determinant_10 rfl ?_
    refine q_iload_n dX10_determinant_11 rfl ?_
    refine q_ishl dX10_determinant_12 ?_
    refine wp_top (y := nI P) (by rw [sh_6 N (by omega), hP]) ?_
    refine q_icmp_ge 161 dX10_determinant_13 rfl (fun c13 => ?_) (fun c13 => ?_)
    · have n13 := (nI_leI (a := P) (b := (i + 1)) (by omega) (by omega)).mp c13
      omega
    · have n13 := mt (nI_leI (a := P) (b := (i + 1)) (by omega) (by omega)).mpr c13
      refine q_iconst (v := (-1)) dX10_determinant_16 rfl ?_
      refine q_ist4 dX10_determinant_17 (Nat.le_of_ble_eq_true rfl) rfl ?_
      refine q_iconst (v := 0) dX10_determinant_19 rfl ?_
      refine q_ist5 dX10_determinant_20 (Nat.le_of_ble_eq_true rfl) rfl ?_
      refine wp_L (L2 := [some (.ref 26), some (.int (nI N)), some (.int (col)), some (.int (nI (i + 1))), some (.int (nI (pcN (i + 1) 0) + -1)), some (.int (nI 0)), none, none, none, none, none]) (by rw [pcN_00]; rfl) ?_
      refine l_X10_det22 hG (s_MO S (moM (z_MX S) (z_RT S) N col (z_MO S) i)) N col hN6 (i + 1) (by omega) ?_ N 0 (by omega)
      refine wp_L (L2 := [some (.ref 26), some (.int (nI N)), some (.int (col)), some (.int (nI (i + 1))), some (.int (nI (pcN (i + 1) N - 1))), some (.int (nI N)), none, none, none, none, none]) (by rw [pc_d hpw.1]) ?_
      refine wp_fg (L2 := [some (.ref 26), some (.int (nI N)), some (.int (col)), some (.int (nI (i + 1))), some (.int (nI (pcN (i + 1) N - 1))), none, none, none, none, none, none]) ⟨rfl, rfl, rfl, rfl, rfl, trivial⟩ ?_
      refine q_lconst (v := 0) dX10_determinant_45 rfl ?_
      refine q_lst5 dX10_determinant_46 (Nat.le_of_ble_eq_true rfl) rfl ?_
      refine q_iconst (v := 0) dX10_determinant_48 rfl ?_
      refine q_ist7 dX10_determinant_49 (Nat.le_of_ble_eq_true rfl) rfl ?_
      refine q_iconst (v := 0) dX10_determinant_51 rfl ?_
      refine q_ist8 dX10_determinant_52 (Nat.le_of_ble_eq_true rfl) rfl ?_
      refine wp_L (L2 := [some (.ref 26), some (.int (nI N)), some (.int (col)), some (.int (nI (i + 1))), some (.int (nI (pcN (i + 1) N - 1))), some (.long (dtS (z_MX S) (z_RT S) (moM (z_MX S) (z_RT S) N col (z_MO S) i) (i + 1) (pcN (i + 1) N - 1) col 0)), none, some (.int (nI (pcN (i + 1) 0))), some (.int (nI 0)), none, none]) (by rw [pcN_0, dtS_0]; rfl) ?_
      refine l_X10_det54 hG (s_MO S (moM (z_MX S) (z_RT S) N col (z_MO S) i)) N col hN6 (i + 1) (pcN (i + 1) N - 1) (by omega) (by omega) ?_ N 0 (by omega)
      refine wp_L (L2 := [some (.ref 26), some (.int (nI N)), some (.int (col)), some (.int (nI (i + 1))), some (.int (nI (pcN (i + 1) N - 1))), some (.long (dtS (z_MX S) (z_RT S) (moM (z_MX S) (z_RT S) N col (z_MO S) i) (i + 1) (pcN (i + 1) N - 1) col N)), none, some (.int (nI (pcN (i + 1) N))), some (.int (nI N)), none, none]) rfl ?_
      refine q_aload_n dX10_determinant_147 rfl ?_
      refine q_get (j := 18) (v := .ref 39) dX10_determinant_148 (Nat.le_of_ble_eq_true rfl) rfl rfl iuX10 (Nat.le_of_ble_eq_true rfl) uw_942 rfl rfl ?_
      refine q_iload_n dX10_determinant_151 rfl ?_
      refine q_lload dX10_determinant_152 rfl ?_
      refine q_last (f := (moM (z_MX S) (z_RT S) N col (z_MO S) i)) dX10_determinant_154 (Nat.le_of_ble_eq_true rfl) rfl ((i + 1)) rfl (by omega) (Nat.le_of_ble_eq_true rfl) ?_
      refine wp_w (u_MO g _ _) ?_
      rw [ss_MO]
      refine q_iinc3 (k9 := 1) dX10_determinant_155 rfl (Nat.le_of_ble_eq_true rfl) rfl ?_
      refine wp_L (L2 := [some (.ref 26), some (.int (nI N)), some (.int (col)), some (.int (nI ((i + 1) + 1))), some (.int (nI (pcN (i + 1) N - 1))), some (.long (dtS (z_MX S) (z_RT S) (moM (z_MX S) (z_RT S) N col (z_MO S) i) (i + 1) (pcN (i + 1) N - 1) col N)), none, some (.int (nI (pcN (i + 1) N))), some (.int (nI N)), none, none]) (by rw [show nI (i + 1) + 1 = nI ((i + 1) + 1) from nI_1 _]) ?_
      refine q_goto 9 dX10_determinant_158 rfl ?_
      refine wp_fg (L2 := [some (.ref 26), some (.int (nI N)), some (.int (col)), some (.int (nI ((i + 1) + 1))), none, none, none, none, none, none, none]) ⟨rfl, rfl, rfl, rfl, trivial⟩ ?_
      refine wp_w (w2 := mixW g (s_MO S (moM (z_MX S) (z_RT S) N col (z_MO S) (i + 1)))) (by rw [moM_s]) ?_
      exact ih (i + 1) (by omega)
set_option maxRecDepth 100000 in
set_option maxHeartbeats 4000000 in
theorem c_X10_determinant {g : G0} (hG : Gd g) (S : SS) (N : Nat) (col : Int32)  (h1 : N ≤ 6) : ctv g mX10_determinant [.ref 26, .int (nI N), .int col] (mixW g S) (.long (dmM (z_MX S) (z_RT S) N col (z_MO S))) (mixW g (s_MO S (moM (z_MX S) (z_RT S) N col (z_MO S) (2 ^ N - 1)))) := by
  refine ct_of hG [some (.ref 26), some (.int (nI N)), some (.int (col)), none, none, none, none, none, none, none, none] rfl rfl rfl (Nat.le_of_ble_eq_true rfl) (fun h => ?_) rfl
  have hP6 := p2_6 N (by omega)
  refine q_aload_n dX10_determinant_0 rfl ?_
  refine q_get (j := 18) (v := .ref 39) dX10_determinant_1 (Nat.le_of_ble_eq_true rfl) rfl rfl iuX10 (Nat.le_of_ble_eq_true rfl) uw_942 rfl rfl ?_
  refine q_iconst (v := 0) dX10_determinant_4 rfl ?_
  refine q_lconst (v := 1) dX10_determinant_5 rfl ?_
  refine q_last (f := (z_MO S)) dX10_determinant_6 (Nat.le_of_ble_eq_true rfl) rfl (0) rfl (Nat.le_of_ble_eq_true rfl) (Nat.le_of_ble_eq_true rfl) ?_
  refine wp_w (u_MO g _ _) ?_
  refine q_iconst (v := 1) dX10_determinant_7 rfl ?_
  refine q_ist3 dX10_determinant_8 (Nat.le_of_ble_eq_true rfl) rfl ?_
  refine wp_L (L2 := [some (.ref 26), some (.int (nI N)), some (.int (col)), some (.int (nI (0 + 1))), none, none, none, none, none, none, none]) rfl ?_
  refine wp_w (w2 := mixW g (s_MO S (moM (z_MX S) (z_RT S) N col (z_MO S) 0))) rfl ?_
  refine l_X10_det9 hG S N col h1 (2 ^ N) rfl ?_ (2 ^ N - 1) 0 (by omega)
  refine q_aload_n dX10_determinant_161 rfl ?_
  refine q_get (j := 18) (v := .ref 39) dX10_determinant_162 (Nat.le_of_ble_eq_true rfl) rfl rfl iuX10 (Nat.le_of_ble_eq_true rfl) uw_942 rfl rfl ?_
  refine q_iconst (v := 1) dX10_determinant_165 rfl ?_
  refine q_iload_n dX10_determinant_166 rfl ?_
  refine q_ishl dX10_determinant_167 ?_
  refine wp_top (y := nI (2 ^ N)) (sh_6 N (by omega)) ?_
  refine q_iconst (v := 1) dX10_determinant_168 rfl ?_
  refine q_isub dX10_determinant_169 ?_
  refine wp_top (y := nI (2 ^ N - 1)) (pk_sub (b := 1) (by omega)) ?_
  refine q_lald (f := (moM (z_MX S) (z_RT S) N col (z_MO S) (2 ^ N - 1))) dX10_determinant_170 (Nat.le_of_ble_eq_true rfl) rfl ((2 ^ N - 1)) rfl (by omega) (Nat.le_of_ble_eq_true rfl) ?_
  exact q_lret dX10_determinant_171 rfl ⟨rfl, rfl⟩
