theorem has_nI {f0 : Int32} {n t : Nat} (h : f0 = nI n) (hn : n < 2 ^ 31) (ht : t < 2 ^ 31) : bI (0 ≤ nI t ∧ nI t < f0) = pI (t < n) := by
  subst h
  by_cases z : t < n
  · rw [pI_t z, bI_t ⟨nI_pos' ht, (nI_ltI ht hn).mpr z⟩]
  · rw [pI_f z, bI_f (fun y => z ((nI_ltI ht hn).mp y.2))]
theorem shl1 : ∀ n, n < 7 → ((1 : Int32) <<< (nI n &&& 31)) = nI (2 ^ n) := by decide
def eqS (n : Nat) (e : Nat → Int64) (c t : Nat) (x : Int64) : Nat → Int64 := if t < n then vp_updL e (6 * c + t) (e (6 * c + t) - x) else e
def eqF (f : Nat → Int32) (d n : Nat) (tg : Nat → Nat) (e0 : Nat → Int64) : Nat → Nat → Int64
  | 0 => filF e0 0 36
  | i + 1 => eqS n (eqS n (vp_updL (eqF f d n tg e0 i) (6 * i + i) 100) i (tg (2 * i)) (carF (f (4 + 2 * i + d)) 0).toInt64) i (tg (2 * i + 1)) (carF (f (4 + 2 * i + d)) 1).toInt64
def rgS (go t : Nat) (x r : Int64) : Int64 := if (go = 8 ∨ go = 9) ∧ t = go then r + x else r
def rg0 (i go : Nat) : Int64 := if i = go then 100 else 0
def rgF (f : Nat → Int32) (d go : Nat) (tg : Nat → Nat) (i : Nat) : Int64 := rgS go (tg (2 * i + 1)) (carF (f (4 + 2 * i + d)) 1).toInt64 (rgS go (tg (2 * i)) (carF (f (4 + 2 * i + d)) 0).toInt64 (rg0 i go))
def fcF (f : Nat → Int32) (d col go : Nat) (tg : Nat → Nat) (e : Nat → Int64) : Nat → Nat → Int64
  | 0 => e
  | i + 1 => vp_updL (fcF f d col go tg e i) (6 * i + col) (rgF f d go tg i)
def popc (c : Nat) : Nat := c % 2 + c / 2 % 2 + c / 4 % 2 + c / 8 % 2 + c / 16 % 2 + c / 32 % 2
theorem bc_popc : ∀ c, c < 64 → bcF (nI c) = nI (popc c) := by decide +kernel
theorem popc_1 : ∀ c, c < 64 → 0 < c → 1 ≤ popc c ∧ popc c ≤ 6 := by decide +kernel
theorem bit_ge : ∀ c, c < 64 → ∀ n, n < 6 → c.testBit n = true → 2 ^ n ≤ c := by decide +kernel
def exG (e m : Nat → Int64) (r c : Nat) : Nat → Int64 × Int64
  | 0 => (0, 1)
  | k + 1 => if c.testBit (5 - k) = true then ((exG e m r c k).1 + (exG e m r c k).2 * e (6 * r + (5 - k)) * m (c - 2 ^ (5 - k)), -(exG e m r c k).2) else exG e m r c k
def mnF (e m : Nat → Int64) : Nat → Nat → Int64
  | 0 => vp_updL m 0 1
  | k + 1 => vp_updL (mnF e m k) (k + 1) (exG e (mnF e m k) (popc (k + 1) - 1) (k + 1) 6).1
def detF (e m : Nat → Int64) (n : Nat) : Int64 := mnF e m (2 ^ n - 1) (2 ^ n - 1)
def gdF : Nat → Int64 → Int64 → Int64
  | 0, a, _ => a
  | n + 1, a, b => if b = 0 then a else gdF n b (a - a / b * b)
def dcI : Nat → Int32
  | 0 => -1
  | j + 1 => nI j
theorem dcI_s (j : Nat) : nI j + -1 = dcI j := by
  cases j with
  | zero => rfl
  | succ j => exact pk_m1 j
set_option maxRecDepth 100000 in
set_option maxHeartbeats 4000000 in
theorem c_X9_isProduct {g : G0} (hG : Gd g) (S : SS) (x : Nat)  (h1 : x < 65536) : ctv g mX9_isProduct [.int (nI x)] (mixW g S) (.int (pI (x = 8 ∨ x = 9))) (mixW g S) := by
  refine ct_of hG [some (.int (nI x))] rfl rfl rfl (Nat.le_of_ble_eq_true rfl) (fun h => ?_) rfl
  refine q_iload_n dX9_isProduct_0 rfl ?_
  refine q_bipush (v := 8) dX9_isProduct_1 rfl ?_
  refine q_icmp_eq 12 dX9_isProduct_3 rfl (fun c3 => ?_) (fun c3 => ?_)
  · have n3 := (nI_eq (a := x) (b := 8) (by omega) (by omega)).mp c3
    refine q_iconst (v := 1) dX9_isProduct_12 rfl ?_
    refine q_goto 17 dX9_isProduct_13 rfl ?_
    exact q_zret dX9_isProduct_17 rfl rfl ⟨by rw [pI_t (by omega)], rfl⟩
  · have n3 := mt (nI_eq (a := x) (b := 8) (by omega) (by omega)).mpr c3
    refine q_iload_n dX9_isProduct_6 rfl ?_
    refine q_bipush (v := 9) dX9_isProduct_7 rfl ?_
    refine q_icmp_ne 16 dX9_isProduct_9 rfl (fun c9 => ?_) (fun c9 => ?_)
    · have n9 := mt (nI_eq (a := x) (b := 9) (by omega) (by omega)).mpr c9
      refine q_iconst (v := 0) dX9_isProduct_16 rfl ?_
      exact q_zret dX9_isProduct_17 rfl rfl ⟨by rw [pI_f (by omega)], rfl⟩
    · have n9 := (nI_eq (a := x) (b := 9) (by omega) (by omega)).mp c9
      refine q_iconst (v := 1) dX9_isProduct_12 rfl ?_
      refine q_goto 17 dX9_isProduct_13 rfl ?_
      exact q_zret dX9_isProduct_17 rfl rfl ⟨by rw [pI_t (by omega)], rfl⟩
set_option maxRecDepth 100000 in
set_option maxHeartbeats 4000000 in
theorem l_X0_gcd {g : G0} {h : G1} (S : SS) {post : Option Value → (Nat → va_E) → Prop} {xp : String → (Nat → va_E) → Prop} (x y : Int64) : ∀ (n i : Nat) (a b : Int64), i + n = 200 → post (some (.long (gdF n a b))) (mixW g S) → wp g h mX0_commonDivisor (mixW g S) [some (.long (x)), none, some (.long (y)), none, some (.long (a)), none, some (.long (b)), none, some (.int (nI i)), none, none] [] 0 (QQ g h mX0_commonDivisor post xp) 9 := by
  intro n
  induction n with
  | zero =>
    intro i a b h1 hp
    obtain rfl : 200 = i := by omega
    refine q_iload dX0_commonDivisor_9 rfl ?_
    refine q_sipush (v := 200) dX0_commonDivisor_11 rfl ?_
    refine q_icmp_ge 45 dX0_commonDivisor_14 rfl (fun c14 => ?_) (fun c14 => ?_)
    · have n14 := (nI_leI (a := 200) (b := 200) (by omega) (by omega)).mp c14
      refine q_lload dX0_commonDivisor_45 rfl ?_
      exact q_lret dX0_commonDivisor_47 rfl hp
    · have n14 := mt (nI_leI (a := 200) (b := 200) (by omega) (by omega)).mpr c14
      omega
  | succ n ih =>
    intro i a b h1 hp
    refine q_iload dX0_commonDivisor_9 rfl ?_
    refine q_sipush (v := 200) dX0_commonDivisor_11 rfl ?_
    refine q_icmp_ge 45 dX0_commonDivisor_14 rfl (fun c14 => ?_) (fun c14 => ?_)
    · have n14 := (nI_leI (a := 200) (b := i) (by omega) (by omega)).mp c14
      omega
    · have n14 := mt (nI_leI (a := 200) (b := i) (by omega) (by omega)).mpr c14
      refine q_lload dX0_commonDivisor_17 rfl ?_
      refine q_lconst (v := 0) dX0_commonDivisor_19 rfl ?_
      refine q_lcmp_eq 45 dX0_commonDivisor_20 dX0_commonDivisor_21 rfl (fun c20 => ?_) (fun c20 => ?_)
      · refine q_lload dX0_commonDivisor_45 rfl ?_
        exact q_lret dX0_commonDivisor_47 rfl (by rw [gdF, if_pos c20] at hp; exact hp)
      · refine q_lload dX0_commonDivisor_24 rfl ?_
        refine q_lload dX0_commonDivisor_26 rfl ?_
        refine q_lrem dX0_commonDivisor_28 c20 ?_
        refine q_lst9 dX0_commonDivisor_29 (Nat.le_of_ble_eq_true rfl) rfl ?_
        refine q_lload dX0_commonDivisor_31 rfl ?_
        refine q_lst4 dX0_commonDivisor_33 (Nat.le_of_ble_eq_true rfl) rfl ?_
        refine q_lload dX0_commonDivisor_35 rfl ?_
        refine q_lst6 dX0_commonDivisor_37 (Nat.le_of_ble_eq_true rfl) rfl ?_
        refine q_iinc8 (k9 := 1) dX0_commonDivisor_39 rfl (Nat.le_of_ble_eq_true rfl) rfl ?_
        refine wp_L (L2 := [some (.long (x)), none, some (.long (y)), none, some (.long (b)), none, some (.long ((a - a / b * b))), none, some (.int (nI (i + 1))), some (.long ((a - a / b * b))), none]) (by rw [show nI i + 1 = nI (i + 1) from nI_1 _]) ?_
        refine q_goto 9 dX0_commonDivisor_42 rfl ?_
        refine wp_fg (L2 := [some (.long (x)), none, some (.long (y)), none, some (.long (b)), none, some (.long ((a - a / b * b))), none, some (.int (nI (i + 1))), none, none]) ⟨rfl, rfl, rfl, rfl, rfl, trivial⟩ ?_
        exact ih (i + 1) b _ (by omega) (by rw [gdF, if_neg c20] at hp; exact hp)
set_option maxRecDepth 100000 in
set_option maxHeartbeats 4000000 in
theorem c_X0_gcd {g : G0} (hG : Gd g) (S : SS) (x : Int64) (y : Int64)   : ctv g mX0_commonDivisor [.long x, .long y] (mixW g S) (.long (gdF 200 x y)) (mixW g S) := by
  refine ct_of hG [some (.long (x)), none, some (.long (y)), none, none, none, none, none, none, none, none] rfl rfl rfl (Nat.le_of_ble_eq_true rfl) (fun h => ?_) rfl
  refine q_lload_n dX0_commonDivisor_0 rfl ?_
  refine q_lst4 dX0_commonDivisor_1 (Nat.le_of_ble_eq_true rfl) rfl ?_
  refine q_lload_n dX0_commonDivisor_3 rfl ?_
  refine q_lst6 dX0_commonDivisor_4 (Nat.le_of_ble_eq_true rfl) rfl ?_
  refine q_iconst (v := 0) dX0_commonDivisor_6 rfl ?_
  refine q_ist8 dX0_commonDivisor_7 (Nat.le_of_ble_eq_true rfl) rfl ?_
  exact l_X0_gcd S x y 200 0 x y (by omega) ⟨rfl, rfl⟩
def rnF (x n d : Int64) : Int64 := if 0 < gdF 200 (x * n) d then x * n / gdF 200 (x * n) d else 0
def rdenF (x n d : Int64) : Int64 := if 0 < gdF 200 (x * n) d then d / gdF 200 (x * n) d else 1
set_option maxRecDepth 100000 in
set_option maxHeartbeats 4000000 in
theorem c_X0_redN {g : G0} (hG : Gd g) (S : SS) (x : Int32)   : ctv g mX0_reducedNumerator [.ref 15, .int x] (mixW g S) (.long (rnF x.toInt64 (z_BN S) (z_BD S))) (mixW g S) := by
  refine ct_of hG [some (.ref 15), some (.int (x)), none, none] rfl rfl rfl (Nat.le_of_ble_eq_true rfl) (fun h => ?_) rfl
  refine q_iload_n dX0_reducedNumerator_0 rfl ?_
  refine q_i2l dX0_reducedNumerator_1 ?_
  refine q_aload_n dX0_reducedNumerator_2 rfl ?_
  refine q_get (j := 2) (v := .long ((z_BN S))) dX0_reducedNumerator_3 (Nat.le_of_ble_eq_true rfl) rfl rfl iuX0 (Nat.le_of_ble_eq_true rfl) uw_146 rfl rfl ?_
  refine q_lmul dX0_reducedNumerator_6 ?_
  refine q_aload_n dX0_reducedNumerator_7 rfl ?_
  refine q_get (j := 3) (v := .long ((z_BD S))) dX0_reducedNumerator_8 (Nat.le_of_ble_eq_true rfl) rfl rfl iuX0 (Nat.le_of_ble_eq_true rfl) uw_148 rfl rfl ?_
  refine q_callSv (ν := mX0_commonDivisor) dX0_reducedNumerator_11 uw_801 vX0_commonDivisor (c_X0_gcd hG S ((((x : Int32).toInt64 * (z_BN S)))) (((z_BD S)))) rfl rfl (Nat.le_of_ble_eq_true rfl) (Nat.le_of_ble_eq_true rfl) (Nat.le_of_ble_eq_true rfl) 0 (Nat.le_of_ble_eq_true rfl) ?_
  refine q_lst2 dX0_reducedNumerator_14 (Nat.le_of_ble_eq_true rfl) rfl ?_
  refine q_lload_n dX0_reducedNumerator_15 rfl ?_
  refine q_lconst (v := 0) dX0_reducedNumerator_16 rfl ?_
  refine q_lcmp_le 33 dX0_reducedNumerator_17 dX0_reducedNumerator_18 rfl (fun c17 => ?_) (fun c17 => ?_)
  · refine q_lconst (v := 0) dX0_reducedNumerator_33 rfl ?_
    exact q_lret dX0_reducedNumerator_34 rfl ⟨by rw [rnF, if_neg (Int64.not_lt.mpr c17)], rfl⟩
  · refine q_iload_n dX0_reducedNumerator_21 rfl ?_
    refine q_i2l dX0_reducedNumerator_22 ?_
    refine q_aload_n dX0_reducedNumerator_23 rfl ?_
    refine q_get (j := 2) (v := .long ((z_BN S))) dX0_reducedNumerator_24 (Nat.le_of_ble_eq_true rfl) rfl rfl iuX0 (Nat.le_of_ble_eq_true rfl) uw_146 rfl rfl ?_
    refine q_lmul dX0_reducedNumerator_27 ?_
    refine q_lload_n dX0_reducedNumerator_28 rfl ?_
    refine q_ldiv dX0_reducedNumerator_29 (fun z => absurd (Int64.not_le.mp c17) (by rw [z]; decide)) ?_
    refine q_goto 34 dX0_reducedNumerator_30 rfl ?_
    exact q_lret dX0_reducedNumerator_34 rfl ⟨by rw [rnF, if_pos (Int64.not_le.mp c17)], rfl⟩
set_option maxRecDepth 100000 in
set_option maxHeartbeats 4000000 in
theorem c_X0_redD {g : G0} (hG : Gd g) (S : SS) (x : Int32)   : ctv g mX0_reducedDenominator [.ref 15, .int x] (mixW g S) (.long (rdenF x.toInt64 (z_BN S) (z_BD S))) (mixW g S) := by
  refine ct_of hG [some (.ref 15), some (.int (x)), none, none] rfl rfl rfl (Nat.le_of_ble_eq_true rfl) (fun h => ?_) rfl
  refine q_iload_n dX0_reducedDenominator_0 rfl ?_
  refine q_i2l dX0_reducedDenominator_1 ?_
  refine q_aload_n dX0_reducedDenominator_2 rfl ?_
  refine q_get (j := 2) (v := .long ((z_BN S))) dX0_reducedDenominator_3 (Nat.le_of_ble_eq_true rfl) rfl rfl iuX0 (Nat.le_of_ble_eq_true rfl) uw_146 rfl rfl ?_
  refine q_lmul dX0_reducedDenominator_6 ?_
  refine q_aload_n dX0_reducedDenominator_7 rfl ?_
  refine q_get (j := 3) (v := .long ((z_BD S))) dX0_reducedDenominator_8 (Nat.le_of_ble_eq_true rfl) rfl rfl iuX0 (Nat.le_of_ble_eq_true rfl) uw_148 rfl rfl ?_
  refine q_callSv (ν := mX0_commonDivisor) dX0_reducedDenominator_11 uw_801 vX0_commonDivisor (c_X0_gcd hG S ((((x : Int32).toInt64 * (z_BN S)))) (((z_BD S)))) rfl rfl (Nat.le_of_ble_eq_true rfl) (Nat.le_of_ble_eq_true rfl) (Nat.le_of_ble_eq_true rfl) 0 (Nat.le_of_ble_eq_true rfl) ?_
  refine q_lst2 dX0_reducedDenominator_14 (Nat.le_of_ble_eq_true rfl) rfl ?_
  refine q_lload_n dX0_reducedDenominator_15 rfl ?_
  refine q_lconst (v := 0) dX0_reducedDenominator_16 rfl ?_
  refine q_lcmp_le 30 dX0_reducedDenominator_17 dX0_reducedDenominator_18 rfl (fun c17 => ?_) (fun c17 => ?_)
  · refine q_lconst (v := 1) dX0_reducedDenominator_30 rfl ?_
    exact q_lret dX0_reducedDenominator_31 rfl ⟨by rw [rdenF, if_neg (Int64.not_lt.mpr c17)], rfl⟩
  · refine q_aload_n dX0_reducedDenominator_21 rfl ?_
    refine q_get (j := 3) (v := .long ((z_BD S))) dX0_reducedDenominator_22 (Nat.le_of_ble_eq_true rfl) rfl rfl iuX0 (Nat.le_of_ble_eq_true rfl) uw_148 rfl rfl ?_
    refine q_lload_n dX0_reducedDenominator_25 rfl ?_
    refine q_ldiv dX0_reducedDenominator_26 (fun z => absurd (Int64.not_le.mp c17) (by rw [z]; decide)) ?_
    refine q_goto 31 dX0_reducedDenominator_27 rfl ?_
    exact q_lret dX0_reducedDenominator_31 rfl ⟨by rw [rdenF, if_pos (Int64.not_le.mp c17)], rfl⟩
set_option maxRecDepth 100000 in
set_option maxHeartbeats 4000000 in
theorem c_X0_isSolved {g : G0} (hG : Gd g) (S : SS)    : ctv g mX0_isSolved [.ref 15] (mixW g S) (.int (pI (0 < (z_BD S)))) (mixW g S) := by
  refine ct_of hG [some (.ref 15)] rfl rfl rfl (Nat.le_of_ble_eq_true rfl) (fun h => ?_) rfl
  refine q_aload_n dX0_isSolved_0 rfl ?_
  refine q_get (j := 3) (v := .long ((z_BD S))) dX0_isSolved_1 (Nat.le_of_ble_eq_true rfl) rfl rfl iuX0 (Nat.le_of_ble_eq_true rfl) uw_148 rfl rfl ?_
  refine q_lconst (v := 0) dX0_isSolved_4 rfl ?_
  refine q_lcmp_le 13 dX0_isSolved_5 dX0_isSolved_6 rfl (fun c5 => ?_) (fun c5 => ?_)
  · refine q_iconst (v := 0) dX0_isSolved_13 rfl ?_
    exact q_zret dX0_isSolved_14 rfl rfl ⟨by rw [pI_f (Int64.not_lt.mpr c5)], rfl⟩
  · refine q_iconst (v := 1) dX0_isSolved_9 rfl ?_
    refine q_goto 14 dX0_isSolved_10 rfl ?_
    exact q_zret dX0_isSolved_14 rfl rfl ⟨by rw [pI_t (Int64.not_le.mp c5)], rfl⟩
set_option maxRecDepth 100000 in
set_option maxHeartbeats 4000000 in
theorem l_X0_expand {g : G0} {h : G1} (S : SS) {Q : State → Prop} (r c : Nat) (hr : r < 6) (hc : c < 64) (kk : wp g h mX0_expand (mixW g S) [some (.ref 15), some (.int (nI r)), some (.int (nI c)), some (.long ((exG (z_EQ S) (z_MI S) r c 6).1)), none, some (.long ((exG (z_EQ S) (z_MI S) r c 6).2)), none, some (.int ((-1))), none] [] 0 Q 65) : ∀ (n k : Nat), k + n = 6 → wp g h mX0_expand (mixW g S) [some (.ref 15), some (.int (nI r)), some (.int (nI c)), some (.long ((exG (z_EQ S) (z_MI S) r c k).1)), none, some (.long ((exG (z_EQ S) (z_MI S) r c k).2)), none, some (.int (dcI n)), none] [] 0 Q 8 := by
  intro n
  induction n with
  | zero =>
    intro k h1
    obtain rfl : 6 = k := by omega
    refine wp_L (L2 := [some (.ref 15), some (.int (nI r)), some (.int (nI c)), some (.long ((exG (z_EQ S) (z_MI S) r c 6).1)), none, some (.long ((exG (z_EQ S) (z_MI S) r c 6).2)), none, some (.int ((-1))), none]) rfl ?_
    refine q_iload dX0_expand_8 rfl ?_
    refine q_if_lt 65 dX0_expand_10 rfl (fun c10 => ?_) (fun c10 => ?_)
    · exact kk
    · first | exact absurd (by decide) c10 | exact absurd c10 (by decide)
  | succ n ih =>
    intro k h1
    have hk : 5 - k = n := by omega
    refine wp_L (L2 := [some (.ref 15), some (.int (nI r)), some (.int (nI c)), some (.long ((exG (z_EQ S) (z_MI S) r c k).1)), none, some (.long ((exG (z_EQ S) (z_MI S) r c k).2)), none, some (.int (nI n)), none]) rfl ?_
    refine q_iload dX0_expand_8 rfl ?_
    refine q_if_lt 65 dX0_expand_10 rfl (fun c10 => ?_) (fun c10 => ?_)
    · have n10 := (nI_ltI (a := n) (b := 0) (by omega) (by omega)).mp c10
      omega
    · have n10 := mt (nI_ltI (a := n) (b := 0) (by omega) (by omega)).mpr c10
      refine q_iconst (v := 1) dX0_expand_13 rfl ?_
      refine q_iload dX0_expand_14 rfl ?_
      refine q_ishl dX0_expand_16 ?_
      refine wp_top (y := nI (2 ^ n)) (shl1 n (by omega)) ?_
      refine q_ist8 dX0_expand_17 (Nat.le_of_ble_eq_true rfl) rfl ?_
      refine q_iload_n dX0_expand_19 rfl ?_
      refine q_iload dX0_expand_20 rfl ?_
      refine q_iand dX0_expand_22 ?_
      refine q_if_eq 59 dX0_expand_23 rfl (fun c23 => ?_) (fun c23 => ?_)
      · refine q_iinc7 (k9 := (-1)) dX0_expand_59 rfl (Nat.le_of_ble_eq_true rfl) rfl ?_
        refine q_goto 8 dX0_expand_62 rfl ?_
        refine wp_fg (L2 := [some (.ref 15), some (.int (nI r)), some (.int (nI c)), some (.long ((exG (z_EQ S) (z_MI S) r c k).1)), none, some (.long ((exG (z_EQ S) (z_MI S) r c k).2)), none, some (.int (nI n + (-1))), none]) ⟨rfl, rfl, rfl, rfl, rfl, rfl, trivial⟩ ?_
        refine wp_L (L2 := [some (.ref 15), some (.int (nI r)), some (.int (nI c)), some (.long ((exG (z_EQ S) (z_MI S) r c (k + 1)).1)), none, some (.long ((exG (z_EQ S) (z_MI S) r c (k + 1)).2)), none, some (.int (dcI n)), none]) (by rw [dcI_s]; simp only [exG, hk]; rw [if_neg (by rw [(fa_bit (by omega)).mp c23]; decide)]) ?_
        exact ih (k + 1) (by omega)
      · refine q_lload_n dX0_expand_26 rfl ?_
        refine q_lload dX0_expand_27 rfl ?_
        refine q_aload_n dX0_expand_29 rfl ?_
        refine q_get (j := 0) (v := .ref 16) dX0_expand_30 (Nat.le_of_ble_eq_true rfl) rfl rfl iuX0 (Nat.le_of_ble_eq_true rfl) uw_144 rfl rfl ?_
        refine q_bipush (v := 6) dX0_expand_33 rfl ?_
        refine q_iload_n dX0_expand_35 rfl ?_
        refine q_imul dX0_expand_36 ?_
        refine q_iload dX0_expand_37 rfl ?_
        refine q_iadd dX0_expand_39 ?_
        refine q_lald (f := (z_EQ S)) dX0_expand_40 (Nat.le_of_ble_eq_true rfl) rfl (((6 * r) + n)) (by simp only [fa_lit, pk_mul, nI_add]) (by omega) (Nat.le_of_ble_eq_true rfl) ?_
        refine q_lmul dX0_expand_41 ?_
        refine q_aload_n dX0_expand_42 rfl ?_
        refine q_get (j := 1) (v := .ref 17) dX0_expand_43 (Nat.le_of_ble_eq_true rfl) rfl rfl iuX0 (Nat.le_of_ble_eq_true rfl) uw_145 rfl rfl ?_
        refine q_iload_n dX0_expand_46 rfl ?_
        refine q_iload dX0_expand_47 rfl ?_
        refine q_isub dX0_expand_49 ?_
        refine wp_top (y := nI (c - 2 ^ n)) (pk_sub (bit_ge c hc n (by omega) (by cases q : c.testBit n; exact absurd ((fa_bit (by omega)).mpr q) c23; rfl))) ?_
        refine q_lald (f := (z_MI S)) dX0_expand_50 (Nat.le_of_ble_eq_true rfl) rfl ((c - 2 ^ n)) rfl (Nat.lt_of_le_of_lt (Nat.sub_le _ _) hc) (Nat.le_of_ble_eq_true rfl) ?_
        refine q_lmul dX0_expand_51 ?_
        refine q_ladd dX0_expand_52 ?_
        refine q_lst3 dX0_expand_53 (Nat.le_of_ble_eq_true rfl) rfl ?_
        refine q_lload dX0_expand_54 rfl ?_
        refine q_lneg dX0_expand_56 ?_
        refine q_lst5 dX0_expand_57 (Nat.le_of_ble_eq_true rfl) rfl ?_
        refine q_iinc7 (k9 := (-1)) dX0_expand_59 rfl (Nat.le_of_ble_eq_true rfl) rfl ?_
        refine q_goto 8 dX0_expand_62 rfl ?_
        refine wp_fg (L2 := [some (.ref 15), some (.int (nI r)), some (.int (nI c)), some (.long (((exG (z_EQ S) (z_MI S) r c k).1 + (((exG (z_EQ S) (z_MI S) r c k).2 * ((z_EQ S) (((6 * r) + n)))) * ((z_MI S) ((c - 2 ^ n))))))), none, some (.long ((-(exG (z_EQ S) (z_MI S) r c k).2))), none, some (.int (nI n + (-1))), none]) ⟨rfl, rfl, rfl, rfl, rfl, rfl, trivial⟩ ?_
        refine wp_L (L2 := [some (.ref 15), some (.int (nI r)), some (.int (nI c)), some (.long ((exG (z_EQ S) (z_MI S) r c (k + 1)).1)), none, some (.long ((exG (z_EQ S) (z_MI S) r c (k + 1)).2)), none, some (.int (dcI n)), none]) (by rw [dcI_s]; simp only [exG, hk]; rw [if_pos (by cases q : c.testBit n; exact absurd ((fa_bit (by omega)).mpr q) c23; rfl)]) ?_
        exact ih (k + 1) (by omega)
set_option maxRecDepth 100000 in
set_option maxHeartbeats 4000000 in
theorem c_X0_expand {g : G0} (hG : Gd g) (S : SS) (r : Nat) (c : Nat)  (h1 : r < 6) (h2 : c < 64) : ctv g mX0_expand [.ref 15, .int (nI r), .int (nI c)] (mixW g S) (.long ((exG (z_EQ S) (z_MI S) r c 6).1)) (mixW g S) := by
  refine ct_of hG [some (.ref 15), some (.int (nI r)), some (.int (nI c)), none, none, none, none, none, none] rfl rfl rfl (Nat.le_of_ble_eq_true rfl) (fun h => ?_) rfl
  refine q_lconst (v := 0) dX0_expand_0 rfl ?_
  refine q_lst3 dX0_expand_1 (Nat.le_of_ble_eq_true rfl) rfl ?_
  refine q_lconst (v := 1) dX0_expand_2 rfl ?_
  refine q_lst5 dX0_expand_3 (Nat.le_of_ble_eq_true rfl) rfl ?_
  refine q_iconst (v := 5) dX0_expand_5 rfl ?_
  refine q_ist7 dX0_expand_6 (Nat.le_of_ble_eq_true rfl) rfl ?_
  refine wp_L (L2 := [some (.ref 15), some (.int (nI r)), some (.int (nI c)), some (.long ((exG (z_EQ S) (z_MI S) r c 0).1)), none, some (.long ((exG (z_EQ S) (z_MI S) r c 0).2)), none, some (.int (dcI 6)), none]) rfl ?_
  refine l_X0_expand S r c h1 h2 ?_ 6 0 (by omega)
  refine q_lload_n dX0_expand_65 rfl ?_
  exact q_lret dX0_expand_66 rfl ⟨rfl, rfl⟩
set_option maxRecDepth 100000 in
set_option maxHeartbeats 4000000 in
theorem l_X0_det {g : G0} {h : G1} (hG : Gd g) (S : SS) {Q : State → Prop} (N : Nat) (hN : N ≤ 6) (k : wp g h mX0_determinant (mixW g (s_MI S (mnF (z_EQ S) (z_MI S) (2 ^ N - 1)))) [some (.ref 15), some (.int (nI N)), some (.int (nI (2 ^ N - 1))), some (.int (nI ((2 ^ N - 1) + 1)))] [] 0 Q 48) : ∀ (n i : Nat), i + n = 2 ^ N - 1 → wp g h mX0_determinant (mixW g (s_MI S (mnF (z_EQ S) (z_MI S) i))) [some (.ref 15), some (.int (nI N)), some (.int (nI (2 ^ N - 1))), some (.int (nI (i + 1)))] [] 0 Q 20 := by
  intro n
  induction n with
  | zero =>
    intro i hq1
    have hp1 : 1 ≤ 2 ^ N := Nat.one_le_two_pow
    have hp2 : 2 ^ N ≤ 64 := (show 2 ^ N ≤ 2 ^ 6 from Nat.pow_le_pow_right (by omega) hN)
    obtain rfl : (2 ^ N - 1) = i := by omega
    refine q_iload_n dX0_determinant_20 rfl ?_
    refine q_iload_n dX0_determinant_21 rfl ?_
    refine q_icmp_gt 48 dX0_determinant_22 rfl (fun c22 => ?_) (fun c22 => ?_)
    · have n22 := (nI_ltI (a := (2 ^ N - 1)) (b := ((2 ^ N - 1) + 1)) (by omega) (by omega)).mp c22
      exact k
    · have n22 := mt (nI_ltI (a := (2 ^ N - 1)) (b := ((2 ^ N - 1) + 1)) (by omega) (by omega)).mpr c22
      omega
  | succ n ih =>
    intro i hq1
    have hp1 : 1 ≤ 2 ^ N := Nat.one_le_two_pow
    have hp2 : 2 ^ N ≤ 64 := (show 2 ^ N ≤ 2 ^ 6 from Nat.pow_le_pow_right (by omega) hN)
    refine q_iload_n dX0_determinant_20 rfl ?_
    refine q_iload_n dX0_determinant_21 rfl ?_
    refine q_icmp_gt 48 dX0_determinant_22 rfl (fun c22 => ?_) (fun c22 => ?_)
    · have n22 := (nI_ltI (a := (2 ^ N - 1)) (b := (i + 1)) (by omega) (by omega)).mp c22
      omega
    · have n22 := mt (nI_ltI (a := (2 ^ N - 1)) (b := (i + 1)) (by omega) (by omega)).mpr c22
      refine q_aload_n dX0_determinant_25 rfl ?_
      refine q_get (j := 1) (v := .ref 17) dX0_determinant_26 (Nat.le_of_ble_eq_true rfl) rfl rfl iuX0 (Nat.le_of_ble_eq_true rfl) uw_145 rfl rfl ?_
      refine q_iload_n dX0_determinant_29 rfl ?_
      refine q_aload_n dX0_determinant_30 rfl ?_
      refine q_iload_n dX0_determinant_31 rfl ?_
      refine q_callSv (ν := mJ6_bitCount_0f7a4) dX0_determinant_32 uw_372 vJ6_bitCount_0f7a4 (c_bitCount hG (s_MI S (mnF (z_EQ S) (z_MI S) i)) ((nI (i + 1)))) rfl rfl (Nat.le_of_ble_eq_true rfl) (Nat.le_of_ble_eq_true rfl) (Nat.le_of_ble_eq_true rfl) 0 (Nat.le_of_ble_eq_true rfl) ?_
      refine wp_eq (st2 := .int ((bcF (nI (i + 1)))) :: _) rfl ?_
      refine wp_top (y := nI (popc (i + 1))) (bc_popc (i + 1) (by omega)) ?_
      have hpc := popc_1 (i + 1) (by omega) (by omega)
      refine q_iconst (v := 1) dX0_determinant_35 rfl ?_
      refine q_isub dX0_determinant_36 ?_
      refine wp_top (y := nI (popc (i + 1) - 1)) (pk_sub (b := 1) (by omega)) ?_
      refine q_iload_n dX0_determinant_37 rfl ?_
      refine q_callVv (ν := mX0_expand) dX0_determinant_38 uw_378 vX0_expand (c_X0_expand hG (s_MI S (mnF (z_EQ S) (z_MI S) i)) ((popc (i + 1) - 1)) ((i + 1)) (by omega) (by omega)) (Nat.le_of_ble_eq_true rfl) rfl rfl rfl rfl (Nat.le_of_ble_eq_true rfl) (Nat.le_of_ble_eq_true rfl) (Nat.le_of_ble_eq_true rfl) 0 (Nat.le_of_ble_eq_true rfl) ?_
      refine wp_eq (st2 := .long (((exG (z_EQ S) (mnF (z_EQ S) (z_MI S) i) (popc (i + 1) - 1) (i + 1) 6).1)) :: _) rfl ?_
      refine q_last (f := (mnF (z_EQ S) (z_MI S) i)) dX0_determinant_41 (Nat.le_of_ble_eq_true rfl) rfl ((i + 1)) rfl (by omega) (Nat.le_of_ble_eq_true rfl) ?_
      refine wp_w (u_MI g _ _) ?_
      rw [ss_MI]
      refine q_iinc3 (k9 := 1) dX0_determinant_42 rfl (Nat.le_of_ble_eq_true rfl) rfl ?_
      refine wp_L (L2 := [some (.ref 15), some (.int (nI N)), some (.int (nI (2 ^ N - 1))), some (.int (nI ((i + 1) + 1)))]) (by rw [show nI (i + 1) + 1 = nI ((i + 1) + 1) from nI_1 _]) ?_
      refine q_goto 20 dX0_determinant_45 rfl ?_
      refine wp_w (w2 := mixW g (s_MI S (mnF (z_EQ S) (z_MI S) (i + 1)))) rfl ?_
      exact ih (i + 1) (by omega)
set_option maxRecDepth 100000 in
set_option maxHeartbeats 4000000 in
theorem c_X0_det {g : G0} (hG : Gd g) (S : SS) (N : Nat)  (h1 : N ≤ 6) : ctv g mX0_determinant [.ref 15, .int (nI N)] (mixW g S) (.long (detF (z_EQ S) (z_MI S) N)) (mixW g (s_MI S (mnF (z_EQ S) (z_MI S) (2 ^ N - 1)))) := by
  refine ct_of hG [some (.ref 15), some (.int (nI N)), none, none] rfl rfl rfl (Nat.le_of_ble_eq_true rfl) (fun h => ?_) rfl
  have hp1 : 1 ≤ 2 ^ N := Nat.one_le_two_pow
  have hp2 : 2 ^ N ≤ 64 := (show 2 ^ N ≤ 2 ^ 6 from Nat.pow_le_pow_right (by omega) h1)
  refine q_iconst (v := 1) dX0_determinant_0 rfl ?_
  refine q_iload_n dX0_determinant_1 rfl ?_
  refine q_bipush (v := 6) dX0_determinant_2 rfl ?_
  refine q_mmin dX0_determinant_4 uw_371 (Nat.le_of_ble_eq_true rfl) (Nat.le_of_ble_eq_true rfl) (Nat.le_of_ble_eq_true rfl) ?_
  refine wp_top (y := nI N) ((minI_nI (b := 6) (by omega) (by omega)).trans (congrArg nI (by omega))) ?_
  refine q_ishl dX0_determinant_7 ?_
  refine wp_top (y := nI (2 ^ N)) (shl1 N (by omega)) ?_
  refine q_iconst (v := 1) dX0_determinant_8 rfl ?_
  refine q_isub dX0_determinant_9 ?_
  refine wp_top (y := nI (2 ^ N - 1)) (pk_sub (b := 1) (by omega)) ?_
  refine q_ist2 dX0_determinant_10 (Nat.le_of_ble_eq_true rfl) rfl ?_
  refine q_aload_n dX0_determinant_11 rfl ?_
  refine q_get (j := 1) (v := .ref 17) dX0_determinant_12 (Nat.le_of_ble_eq_true rfl) rfl rfl iuX0 (Nat.le_of_ble_eq_true rfl) uw_145 rfl rfl ?_
  refine q_iconst (v := 0) dX0_determinant_15 rfl ?_
  refine q_lconst (v := 1) dX0_determinant_16 rfl ?_
  refine q_last (f := (z_MI S)) dX0_determinant_17 (Nat.le_of_ble_eq_true rfl) rfl (0) rfl (Nat.le_of_ble_eq_true rfl) (Nat.le_of_ble_eq_true rfl) ?_
  refine wp_w (u_MI g _ _) ?_
  refine q_iconst (v := 1) dX0_determinant_18 rfl ?_
  refine q_ist3 dX0_determinant_19 (Nat.le_of_ble_eq_true rfl) rfl ?_
  refine wp_w (w2 := mixW g (s_MI S (mnF (z_EQ S) (z_MI S) 0))) rfl ?_
  refine wp_L (L2 := [some (.ref 15), some (.int (nI N)), some (.int (nI (2 ^ N - 1))), some (.int (nI (0 + 1)))]) rfl ?_
  refine l_X0_det hG S N h1 ?_ (2 ^ N - 1) 0 (by omega)
  refine q_aload_n dX0_determinant_48 rfl ?_
  refine q_get (j := 1) (v := .ref 17) dX0_determinant_49 (Nat.le_of_ble_eq_true rfl) rfl rfl iuX0 (Nat.le_of_ble_eq_true rfl) uw_145 rfl rfl ?_
  refine q_iload_n dX0_determinant_52 rfl ?_
  refine q_lald (f := (mnF (z_EQ S) (z_MI S) (2 ^ N - 1))) dX0_determinant_53 (Nat.le_of_ble_eq_true rfl) rfl ((2 ^ N - 1)) rfl (by omega) (Nat.le_of_ble_eq_true rfl) ?_
  exact q_lret dX0_determinant_54 rfl ⟨rfl, rfl⟩
set_option maxRecDepth 100000 in
set_option maxHeartbeats 4000000 in
theorem l_X0_fillE_3 {g : G0} {h : G1} (hG : Gd g) (S : SS) {Q : State → Prop} (d ft N : Nat) (tg : Nat → Nat) (hd : d < 2) (ht : tgts (z_SV S) N ft tg) (k : wp g h mX0_fillEquations (mixW g (s_EQ S (eqF (z_SV S) d N tg (z_EQ S) N))) [some (.ref 15), some (.ref 3), some (.int (nI d)), some (.int (nI N)), none, none] [] 0 Q 95) : ∀ (n i : Nat), i + n = N → wp g h mX0_fillEquations (mixW g (s_EQ S (eqF (z_SV S) d N tg (z_EQ S) i))) [some (.ref 15), some (.ref 3), some (.int (nI d)), some (.int (nI i)), none, none] [] 0 Q 10 := by
  intro n
  induction n with
  | zero =>
    intro i hq1
    obtain ⟨t1, t2, t3, t4, t5⟩ := ht
    obtain rfl : N = i := by omega
    refine q_iload_n dX0_fillEquations_10 rfl ?_
    refine q_aload_n dX0_fillEquations_11 rfl ?_
    refine q_callVv (ν := mX7_count) dX0_fillEquations_12 uw_341 vX7_count (c_X7_count_3 hG (s_EQ S (eqF (z_SV S) d N tg (z_EQ S) N)) ) (Nat.le_of_ble_eq_true rfl) rfl rfl rfl rfl (Nat.le_of_ble_eq_true rfl) (Nat.le_of_ble_eq_true rfl) (Nat.le_of_ble_eq_true rfl) 0 (Nat.le_of_ble_eq_true rfl) ?_
    refine wp_eq (st2 := .int (((z_SV S) 0)) :: _) rfl ?_
    refine wp_top (y := nI N) t1 ?_
    refine q_icmp_ge 95 dX0_fillEquations_15 rfl (fun c15 => ?_) (fun c15 => ?_)
    · have n15 := (nI_leI (a := N) (b := N) (by omega) (by omega)).mp c15
      exact k
    · have n15 := mt (nI_leI (a := N) (b := N) (by omega) (by omega)).mpr c15
      omega
  | succ n ih =>
    intro i hq1
    obtain ⟨t1, t2, t3, t4, t5⟩ := ht
    refine q_iload_n dX0_fillEquations_10 rfl ?_
    refine q_aload_n dX0_fillEquations_11 rfl ?_
    refine q_callVv (ν := mX7_count) dX0_fillEquations_12 uw_341 vX7_count (c_X7_count_3 hG (s_EQ S (eqF (z_SV S) d N tg (z_EQ S) i)) ) (Nat.le_of_ble_eq_true rfl) rfl rfl rfl rfl (Nat.le_of_ble_eq_true rfl) (Nat.le_of_ble_eq_true rfl) (Nat.le_of_ble_eq_true rfl) 0 (Nat.le_of_ble_eq_true rfl) ?_
    refine wp_eq (st2 := .int (((z_SV S) 0)) :: _) rfl ?_
    refine wp_top (y := nI N) t1 ?_
    refine q_icmp_ge 95 dX0_fillEquations_15 rfl (fun c15 => ?_) (fun c15 => ?_)
    · have n15 := (nI_leI (a := N) (b := i) (by omega) (by omega)).mp c15
      omega
    · have n15 := mt (nI_leI (a := N) (b := i) (by omega) (by omega)).mpr c15
      refine q_aload_n dX0_fillEquations_18 rfl ?_
      refine q_get (j := 0) (v := .ref 16) dX0_fillEquations_19 (Nat.le_of_ble_eq_true rfl) rfl rfl iuX0 (Nat.le_of_ble_eq_true rfl) uw_144 rfl rfl ?_
      refine q_bipush (v := 6) dX0_fillEquations_22 rfl ?_
      refine q_iload_n dX0_fillEquations_24 rfl ?_
      refine q_imul dX0_fillEquations_25 ?_
      refine q_iload_n dX0_fillEquations_26 rfl ?_
      refine q_iadd dX0_fillEquations_27 ?_
      refine q_ldc2 dX0_fillEquations_28 uw_342 ?_
      refine q_last (f := (eqF (z_SV S) d N tg (z_EQ S) i)) dX0_fillEquations_31 (Nat.le_of_ble_eq_true rfl) rfl (((6 * i) + i)) (by simp only [fa_lit, pk_mul, nI_add]) (by omega) (Nat.le_of_ble_eq_true rfl) ?_
      refine wp_w (u_EQ g _ _) ?_
      rw [ss_EQ]
      refine q_iconst (v := 0) dX0_fillEquations_32 rfl ?_
      refine q_ist4 dX0_fillEquations_33 (Nat.le_of_ble_eq_true rfl) rfl ?_
      refine q_iload dX0_fillEquations_35 rfl ?_
      refine q_iconst (v := 1) dX0_fillEquations_37 rfl ?_
      refine q_icmp_gt 89 dX0_fillEquations_38 rfl (fun c38 => ?_) (fun c38 => ?_)
      · first | exact absurd (by decide) c38 | exact absurd c38 (by decide)
      · refine q_aload_n dX0_fillEquations_41 rfl ?_
        refine q_iload_n dX0_fillEquations_42 rfl ?_
        refine q_iload dX0_fillEquations_43 rfl ?_
        refine q_callVv (ν := mX7_target) dX0_fillEquations_45 uw_343 vX7_target (c_X7_target_3 hG (s_EQ S (vp_updL (eqF (z_SV S) d N tg (z_EQ S) i) (((6 * i) + i)) (100))) (i) (0) (by omega)) (Nat.le_of_ble_eq_true rfl) rfl rfl rfl rfl (Nat.le_of_ble_eq_true rfl) (Nat.le_of_ble_eq_true rfl) (Nat.le_of_ble_eq_true rfl) 0 (Nat.le_of_ble_eq_true rfl) ?_
        refine wp_eq (st2 := .int ((presF ((z_SV S) 0) ((z_SV S) (16 + 2 * i + 0)))) :: _) rfl ?_
        refine wp_top (y := nI (tg (2 * i))) (t5 (2 * i) (by omega)).1 ?_
        have tl0 := (t5 (2 * i) (by omega)).2
        refine q_ist5 dX0_fillEquations_48 (Nat.le_of_ble_eq_true rfl) rfl ?_
        refine q_aload_n dX0_fillEquations_50 rfl ?_
        refine q_iload dX0_fillEquations_51 rfl ?_
        refine q_callVv (ν := mX7_has) dX0_fillEquations_53 uw_355 vX7_has (c_X7_has_3 hG (s_EQ S (vp_updL (eqF (z_SV S) d N tg (z_EQ S) i) (((6 * i) + i)) (100))) ((nI (tg (2 * i))))) (Nat.le_of_ble_eq_true rfl) rfl rfl rfl rfl (Nat.le_of_ble_eq_true rfl) (Nat.le_of_ble_eq_true rfl) (Nat.le_of_ble_eq_true rfl) 0 (Nat.le_of_ble_eq_true rfl) ?_
        refine wp_eq (st2 := .int ((bI (0 ≤ (nI (tg (2 * i))) ∧ (nI (tg (2 * i))) < (z_SV S) 0))) :: _) rfl ?_
        refine wp_top (y := pI (tg (2 * i) < N)) (has_nI t1 (by omega) (by omega)) ?_
        refine q_if_eq 83 dX0_fillEquations_56 rfl (fun c56 => ?_) (fun c56 => ?_)
        · have ne0 := pI_0 c56
          refine wp_w (w2 := mixW g (s_EQ S (eqS N (vp_updL (eqF (z_SV S) d N tg (z_EQ S) i) (6 * i + i) 100) i (tg (2 * i)) (carF (z_SV S (4 + 2 * i + d)) 0).toInt64))) (by unfold eqS; rw [if_neg ne0]) ?_
          refine q_iinc4 (k9 := 1) dX0_fillEquations_83 rfl (Nat.le_of_ble_eq_true rfl) rfl ?_
          refine wp_L (L2 := [some (.ref 15), some (.ref 3), some (.int (nI d)), some (.int (nI i)), some (.int (1)), some (.int (nI (tg (2 * i))))]) rfl ?_
          refine q_goto 35 dX0_fillEquations_86 rfl ?_
          refine q_iload dX0_fillEquations_35 rfl ?_
          refine q_iconst (v := 1) dX0_fillEquations_37 rfl ?_
          refine q_icmp_gt 89 dX0_fillEquations_38 rfl (fun c38 => ?_) (fun c38 => ?_)
          · first | exact absurd (by decide) c38 | exact absurd c38 (by decide)
          · refine q_aload_n dX0_fillEquations_41 rfl ?_
            refine q_iload_n dX0_fillEquations_42 rfl ?_
            refine q_iload dX0_fillEquations_43 rfl ?_
            refine q_callVv (ν := mX7_target) dX0_fillEquations_45 uw_343 vX7_target (c_X7_target_3 hG (s_EQ S (eqS N (vp_updL (eqF (z_SV S) d N tg (z_EQ S) i) (6 * i + i) 100) i (tg (2 * i)) (carF (z_SV S (4 + 2 * i + d)) 0).toInt64)) (i) (1) (by omega)) (Nat.le_of_ble_eq_true rfl) rfl rfl rfl rfl (Nat.le_of_ble_eq_true rfl) (Nat.le_of_ble_eq_true rfl) (Nat.le_of_ble_eq_true rfl) 0 (Nat.le_of_ble_eq_true rfl) ?_
            refine wp_eq (st2 := .int ((presF ((z_SV S) 0) ((z_SV S) (16 + 2 * i + 1)))) :: _) rfl ?_
            refine wp_top (y := nI (tg (2 * i + 1))) (t5 (2 * i + 1) (by omega)).1 ?_
            have tl1 := (t5 (2 * i + 1) (by omega)).2
            refine q_ist5 dX0_fillEquations_48 (Nat.le_of_ble_eq_true rfl) rfl ?_
            refine q_aload_n dX0_fillEquations_50 rfl ?_
            refine q_iload dX0_fillEquations_51 rfl ?_
            refine q_callVv (ν := mX7_has) dX0_fillEquations_53 uw_355 vX7_has (c_X7_has_3 hG (s_EQ S (eqS N (vp_updL (eqF (z_SV S) d N tg (z_EQ S) i) (6 * i + i) 100) i (tg (2 * i)) (carF (z_SV S (4 + 2 * i + d)) 0).toInt64)) ((nI (tg (2 * i + 1))))) (Nat.le_of_ble_eq_true rfl) rfl rfl rfl rfl (Nat.le_of_ble_eq_true rfl) (Nat.le_of_ble_eq_true rfl) (Nat.le_of_ble_eq_true rfl) 0 (Nat.le_of_ble_eq_true rfl) ?_
            refine wp_eq (st2 := .int ((bI (0 ≤ (nI (tg (2 * i + 1))) ∧ (nI (tg (2 * i + 1))) < (z_SV S) 0))) :: _) rfl ?_
            refine wp_top (y := pI (tg (2 * i + 1) < N)) (has_nI t1 (by omega) (by omega)) ?_
            refine q_if_eq 83 dX0_fillEquations_56 rfl (fun c56 => ?_) (fun c56 => ?_)
            · have ne1 := pI_0 c56
              refine wp_w (w2 := mixW g (s_EQ S (eqS N (eqS N (vp_updL (eqF (z_SV S) d N tg (z_EQ S) i) (6 * i + i) 100) i (tg (2 * i)) (carF (z_SV S (4 + 2 * i + d)) 0).toInt64) i (tg (2 * i + 1)) (carF (z_SV S (4 + 2 * i + d)) 1).toInt64))) (by unfold eqS; rw [if_neg ne1]) ?_
              refine q_iinc4 (k9 := 1) dX0_fillEquations_83 rfl (Nat.le_of_ble_eq_true rfl) rfl ?_
              refine wp_L (L2 := [some (.ref 15), some (.ref 3), some (.int (nI d)), some (.int (nI i)), some (.int (2)), some (.int (nI (tg (2 * i + 1))))]) rfl ?_
              refine q_goto 35 dX0_fillEquations_86 rfl ?_
              refine q_iload dX0_fillEquations_35 rfl ?_
              refine q_iconst (v := 1) dX0_fillEquations_37 rfl ?_
              refine q_icmp_gt 89 dX0_fillEquations_38 rfl (fun c38 => ?_) (fun c38 => ?_)
              · refine q_iinc3 (k9 := 1) dX0_fillEquations_89 rfl (Nat.le_of_ble_eq_true rfl) rfl ?_
                refine wp_L (L2 := [some (.ref 15), some (.ref 3), some (.int (nI d)), some (.int (nI (i + 1))), some (.int (2)), some (.int (nI (tg (2 * i + 1))))]) (by rw [show nI i + 1 = nI (i + 1) from nI_1 _]) ?_
                refine q_goto 10 dX0_fillEquations_92 rfl ?_
                refine wp_fg (L2 := [some (.ref 15), some (.ref 3), some (.int (nI d)), some (.int (nI (i + 1))), none, none]) ⟨rfl, rfl, rfl, rfl, trivial⟩ ?_
                refine wp_w (w2 := mixW g (s_EQ S (eqF (z_SV S) d N tg (z_EQ S) (i + 1)))) rfl ?_
                exact ih (i + 1) (by omega)
              · first | exact absurd (by decide) c38 | exact absurd c38 (by decide)
            · have ne1 := pI_1 c56
              refine q_aload_n dX0_fillEquations_59 rfl ?_
              refine q_get (j := 0) (v := .ref 16) dX0_fillEquations_60 (Nat.le_of_ble_eq_true rfl) rfl rfl iuX0 (Nat.le_of_ble_eq_true rfl) uw_144 rfl rfl ?_
              refine q_bipush (v := 6) dX0_fillEquations_63 rfl ?_
              refine q_iload_n dX0_fillEquations_65 rfl ?_
              refine q_imul dX0_fillEquations_66 ?_
              refine q_iload dX0_fillEquations_67 rfl ?_
              refine q_iadd dX0_fillEquations_69 ?_
              refine q_dup2_11 dX0_fillEquations_70 rfl rfl ?_
              refine q_lald (f := (eqS N (vp_updL (eqF (z_SV S) d N tg (z_EQ S) i) (6 * i + i) 100) i (tg (2 * i)) (carF (z_SV S (4 + 2 * i + d)) 0).toInt64)) dX0_fillEquations_71 (Nat.le_of_ble_eq_true rfl) rfl (((6 * i) + (tg (2 * i + 1)))) (by simp only [fa_lit, pk_mul, nI_add]) (by omega) (Nat.le_of_ble_eq_true rfl) ?_
              refine q_aload_n dX0_fillEquations_72 rfl ?_
              refine q_iload_n dX0_fillEquations_73 rfl ?_
              refine q_iload_n dX0_fillEquations_74 rfl ?_
              refine q_iload dX0_fillEquations_75 rfl ?_
              refine q_callVv (ν := mX7_carried) dX0_fillEquations_77 uw_359 vX7_carried (c_X7_carried_3 hG (s_EQ S (eqS N (vp_updL (eqF (z_SV S) d N tg (z_EQ S) i) (6 * i + i) 100) i (tg (2 * i)) (carF (z_SV S (4 + 2 * i + d)) 0).toInt64)) (i) (d) (1) (by omega)) (Nat.le_of_ble_eq_true rfl) rfl rfl rfl rfl (Nat.le_of_ble_eq_true rfl) (Nat.le_of_ble_eq_true rfl) (Nat.le_of_ble_eq_true rfl) 0 (Nat.le_of_ble_eq_true rfl) ?_
              refine wp_eq (st2 := .int ((carF ((z_SV S) (4 + 2 * i + d)) 1)) :: _) rfl ?_
              refine q_i2l dX0_fillEquations_80 ?_
              refine q_lsub dX0_fillEquations_81 ?_
              refine q_last (f := (eqS N (vp_updL (eqF (z_SV S) d N tg (z_EQ S) i) (6 * i + i) 100) i (tg (2 * i)) (carF (z_SV S (4 + 2 * i + d)) 0).toInt64)) dX0_fillEquations_82 (Nat.le_of_ble_eq_true rfl) rfl (((6 * i) + (tg (2 * i + 1)))) (by simp only [fa_lit, pk_mul, nI_add]) (by omega) (Nat.le_of_ble_eq_true rfl) ?_
              refine wp_w (u_EQ g _ _) ?_
              rw [ss_EQ]
              refine wp_w (w2 := mixW g (s_EQ S (eqS N (eqS N (vp_updL (eqF (z_SV S) d N tg (z_EQ S) i) (6 * i + i) 100) i (tg (2 * i)) (carF (z_SV S (4 + 2 * i + d)) 0).toInt64) i (tg (2 * i + 1)) (carF (z_SV S (4 + 2 * i + d)) 1).toInt64))) (by unfold eqS; rw [if_pos ne1]) ?_
              refine q_iinc4 (k9 := 1) dX0_fillEquations_83 rfl (Nat.le_of_ble_eq_true rfl) rfl ?_
              refine wp_L (L2 := [some (.ref 15), some (.ref 3), some (.int (nI d)), some (.int (nI i)), some (.int (2)), some (.int (nI (tg (2 * i + 1))))]) rfl ?_
              refine q_goto 35 dX0_fillEquations_86 rfl ?_
              refine q_iload dX0_fillEquations_35 rfl ?_
              refine q_iconst (v := 1) dX0_fillEquations_37 rfl ?_
              refine q_icmp_gt 89 dX0_fillEquations_38 rfl (fun c38 => ?_) (fun c38 => ?_)
              · refine q_iinc3 (k9 := 1) dX0_fillEquations_89 rfl (Nat.le_of_ble_eq_true rfl) rfl ?_
                refine wp_L (L2 := [some (.ref 15), some (.ref 3), some (.int (nI d)), some (.int (nI (i + 1))), some (.int (2)), some (.int (nI (tg (2 * i + 1))))]) (by rw [show nI i + 1 = nI (i + 1) from nI_1 _]) ?_
                refine q_goto 10 dX0_fillEquations_92 rfl ?_
                refine wp_fg (L2 := [some (.ref 15), some (.ref 3), some (.int (nI d)), some (.int (nI (i + 1))), none, none]) ⟨rfl, rfl, rfl, rfl, trivial⟩ ?_
                refine wp_w (w2 := mixW g (s_EQ S (eqF (z_SV S) d N tg (z_EQ S) (i + 1)))) rfl ?_
                exact ih (i + 1) (by omega)
              · first | exact absurd (by decide) c38 | exact absurd c38 (by decide)
        · have ne0 := pI_1 c56
          refine q_aload_n dX0_fillEquations_59 rfl ?_
          refine q_get (j := 0) (v := .ref 16) dX0_fillEquations_60 (Nat.le_of_ble_eq_true rfl) rfl rfl iuX0 (Nat.le_of_ble_eq_true rfl) uw_144 rfl rfl ?_
          refine q_bipush (v := 6) dX0_fillEquations_63 rfl ?_
          refine q_iload_n dX0_fillEquations_65 rfl ?_
          refine q_imul dX0_fillEquations_66 ?_
          refine q_iload dX0_fillEquations_67 rfl ?_
          refine q_iadd dX0_fillEquations_69 ?_
          refine q_dup2_11 dX0_fillEquations_70 rfl rfl ?_
          refine q_lald (f := (vp_updL (eqF (z_SV S) d N tg (z_EQ S) i) (((6 * i) + i)) (100))) dX0_fillEquations_71 (Nat.le_of_ble_eq_true rfl) rfl (((6 * i) + (tg (2 * i)))) (by simp only [fa_lit, pk_mul, nI_add]) (by omega) (Nat.le_of_ble_eq_true rfl) ?_
          refine q_aload_n dX0_fillEquations_72 rfl ?_
          refine q_iload_n dX0_fillEquations_73 rfl ?_
          refine q_iload_n dX0_fillEquations_74 rfl ?_
          refine q_iload dX0_fillEquations_75 rfl ?_
          refine q_callVv (ν := mX7_carried) dX0_fillEquations_77 uw_359 vX7_carried (c_X7_carried_3 hG (s_EQ S (vp_updL (eqF (z_SV S) d N tg (z_EQ S) i) (((6 * i) + i)) (100))) (i) (d) (0) (by omega)) (Nat.le_of_ble_eq_true rfl) rfl rfl rfl rfl (Nat.le_of_ble_eq_true rfl) (Nat.le_of_ble_eq_true rfl) (Nat.le_of_ble_eq_true rfl) 0 (Nat.le_of_ble_eq_true rfl) ?_
          refine wp_eq (st2 := .int ((carF ((z_SV S) (4 + 2 * i + d)) 0)) :: _) rfl ?_
          refine q_i2l dX0_fillEquations_80 ?_
          refine q_lsub dX0_fillEquations_81 ?_
          refine q_last (f := (vp_updL (eqF (z_SV S) d N tg (z_EQ S) i) (((6 * i) + i)) (100))) dX0_fillEquations_82 (Nat.le_of_ble_eq_true rfl) rfl (((6 * i) + (tg (2 * i)))) (by simp only [fa_lit, pk_mul, nI_add]) (by omega) (Nat.le_of_ble_eq_true rfl) ?_
          refine wp_w (u_EQ g _ _) ?_
          rw [ss_EQ]
          refine wp_w (w2 := mixW g (s_EQ S (eqS N (vp_updL (eqF (z_SV S) d N tg (z_EQ S) i) (6 * i + i) 100) i (tg (2 * i)) (carF (z_SV S (4 + 2 * i + d)) 0).toInt64))) (by unfold eqS; rw [if_pos ne0]) ?_
          refine q_iinc4 (k9 := 1) dX0_fillEquations_83 rfl (Nat.le_of_ble_eq_true rfl) rfl ?_
          refine wp_L (L2 := [some (.ref 15), some (.ref 3), some (.int (nI d)), some (.int (nI i)), some (.int (1)), some (.int (nI (tg (2 * i))))]) rfl ?_
          refine q_goto 35 dX0_fillEquations_86 rfl ?_
          refine q_iload dX0_fillEquations_35 rfl ?_
          refine q_iconst (v := 1) dX0_fillEquations_37 rfl ?_
          refine q_icmp_gt 89 dX0_fillEquations_38 rfl (fun c38 => ?_) (fun c38 => ?_)
          · first | exact absurd (by decide) c38 | exact absurd c38 (by decide)
          · refine q_aload_n dX0_fillEquations_41 rfl ?_
            refine q_iload_n dX0_fillEquations_42 rfl ?_
            refine q_iload dX0_fillEquations_43 rfl ?_
            refine q_callVv (ν := mX7_target) dX0_fillEquations_45 uw_343 vX7_target (c_X7_target_3 hG (s_EQ S (eqS N (vp_updL (eqF (z_SV S) d N tg (z_EQ S) i) (6 * i + i) 100) i (tg (2 * i)) (carF (z_SV S (4 + 2 * i + d)) 0).toInt64)) (i) (1) (by omega)) (Nat.le_of_ble_eq_true rfl) rfl rfl rfl rfl (Nat.le_of_ble_eq_true rfl) (Nat.le_of_ble_eq_true rfl) (Nat.le_of_ble_eq_true rfl) 0 (Nat.le_of_ble_eq_true rfl) ?_
            refine wp_eq (st2 := .int ((presF ((z_SV S) 0) ((z_SV S) (16 + 2 * i + 1)))) :: _) rfl ?_
            refine wp_top (y := nI (tg (2 * i + 1))) (t5 (2 * i + 1) (by omega)).1 ?_
            have tl1 := (t5 (2 * i + 1) (by omega)).2
            refine q_ist5 dX0_fillEquations_48 (Nat.le_of_ble_eq_true rfl) rfl ?_
            refine q_aload_n dX0_fillEquations_50 rfl ?_
            refine q_iload dX0_fillEquations_51 rfl ?_
            refine q_callVv (ν := mX7_has) dX0_fillEquations_53 uw_355 vX7_has (c_X7_has_3 hG (s_EQ S (eqS N (vp_updL (eqF (z_SV S) d N tg (z_EQ S) i) (6 * i + i) 100) i (tg (2 * i)) (carF (z_SV S (4 + 2 * i + d)) 0).toInt64)) ((nI (tg (2 * i + 1))))) (Nat.le_of_ble_eq_true rfl) rfl rfl rfl rfl (Nat.le_of_ble_eq_true rfl) (Nat.le_of_ble_eq_true rfl) (Nat.le_of_ble_eq_true rfl) 0 (Nat.le_of_ble_eq_true rfl) ?_
            refine wp_eq (st2 := .int ((bI (0 ≤ (nI (tg (2 * i + 1))) ∧ (nI (tg (2 * i + 1))) < (z_SV S) 0))) :: _) rfl ?_
            refine wp_top (y := pI (tg (2 * i + 1) < N)) (has_nI t1 (by omega) (by omega)) ?_
            refine q_if_eq 83 dX0_fillEquations_56 rfl (fun c56 => ?_) (fun c56 => ?_)
            · have ne1 := pI_0 c56
              refine wp_w (w2 := mixW g (s_EQ S (eqS N (eqS N (vp_updL (eqF (z_SV S) d N tg (z_EQ S) i) (6 * i + i) 100) i (tg (2 * i)) (carF (z_SV S (4 + 2 * i + d)) 0).toInt64) i (tg (2 * i + 1)) (carF (z_SV S (4 + 2 * i + d)) 1).toInt64))) (by unfold eqS; rw [if_neg ne1]) ?_
              refine q_iinc4 (k9 := 1) dX0_fillEquations_83 rfl (Nat.le_of_ble_eq_true rfl) rfl ?_
              refine wp_L (L2 := [some (.ref 15), some (.ref 3), some (.int (nI d)), some (.int (nI i)), some (.int (2)), some (.int (nI (tg (2 * i + 1))))]) rfl ?_
              refine q_goto 35 dX0_fillEquations_86 rfl ?_
              refine q_iload dX0_fillEquations_35 rfl ?_
              refine q_iconst (v := 1) dX0_fillEquations_37 rfl ?_
              refine q_icmp_gt 89 dX0_fillEquations_38 rfl (fun c38 => ?_) (fun c38 => ?_)
              · refine q_iinc3 (k9 := 1) dX0_fillEquations_89 rfl (Nat.le_of_ble_eq_true rfl) rfl ?_
                refine wp_L (L2 := [some (.ref 15), some (.ref 3), some (.int (nI d)), some (.int (nI (i + 1))), some (.int (2)), some (.int (nI (tg (2 * i + 1))))]) (by rw [show nI i + 1 = nI (i + 1) from nI_1 _]) ?_
                refine q_goto 10 dX0_fillEquations_92 rfl ?_
                refine wp_fg (L2 := [some (.ref 15), some (.ref 3), some (.int (nI d)), some (.int (nI (i + 1))), none, none]) ⟨rfl, rfl, rfl, rfl, trivial⟩ ?_
                refine wp_w (w2 := mixW g (s_EQ S (eqF (z_SV S) d N tg (z_EQ S) (i + 1)))) rfl ?_
                exact ih (i + 1) (by omega)
              · first | exact absurd (by decide) c38 | exact absurd c38 (by decide)
            · have ne1 := pI_1 c56
              refine q_aload_n dX0_fillEquations_59 rfl ?_
              refine q_get (j := 0) (v := .ref 16) dX0_fillEquations_60 (Nat.le_of_ble_eq_true rfl) rfl rfl iuX0 (Nat.le_of_ble_eq_true rfl) uw_144 rfl rfl ?_
              refine q_bipush (v := 6) dX0_fillEquations_63 rfl ?_
              refine q_iload_n dX0_fillEquations_65 rfl ?_
              refine q_imul dX0_fillEquations_66 ?_
              refine q_iload dX0_fillEquations_67 rfl ?_
              refine q_iadd dX0_fillEquations_69 ?_
              refine q_dup2_11 dX0_fillEquations_70 rfl rfl ?_
              refine q_lald (f := (eqS N (vp_updL (eqF (z_SV S) d N tg (z_EQ S) i) (6 * i + i) 100) i (tg (2 * i)) (carF (z_SV S (4 + 2 * i + d)) 0).toInt64)) dX0_fillEquations_71 (Nat.le_of_ble_eq_true rfl) rfl (((6 * i) + (tg (2 * i + 1)))) (by simp only [fa_lit, pk_mul, nI_add]) (by omega) (Nat.le_of_ble_eq_true rfl) ?_
              refine q_aload_n dX0_fillEquations_72 rfl ?_
              refine q_iload_n dX0_fillEquations_73 rfl ?_
              refine q_iload_n dX0_fillEquations_74 rfl ?_
              refine q_iload dX0_fillEquations_75 rfl ?_
              refine q_callVv (ν := mX7_carried) dX0_fillEquations_77 uw_359 vX7_carried (c_X7_carried_3 hG (s_EQ S (eqS N (vp_updL (eqF (z_SV S) d N tg (z_EQ S) i) (6 * i + i) 100) i (tg (2 * i)) (carF (z_SV S (4 + 2 * i + d)) 0).toInt64)) (i) (d) (1) (by omega)) (Nat.le_of_ble_eq_true rfl) rfl rfl rfl rfl (Nat.le_of_ble_eq_true rfl) (Nat.le_of_ble_eq_true rfl) (Nat.le_of_ble_eq_true rfl) 0 (Nat.le_of_ble_eq_true rfl) ?_
              refine wp_eq (st2 := .int ((carF ((z_SV S) (4 + 2 * i + d)) 1)) :: _) rfl ?_
              refine q_i2l dX0_fillEquations_80 ?_
              refine q_lsub dX0_fillEquations_81 ?_
              refine q_last (f := (eqS N (vp_updL (eqF (z_SV S) d N tg (z_EQ S) i) (6 * i + i) 100) i (tg (2 * i)) (carF (z_SV S (4 + 2 * i + d)) 0).toInt64)) dX0_fillEquations_82 (Nat.le_of_ble_eq_true rfl) rfl (((6 * i) + (tg (2 * i + 1)))) (by simp only [fa_lit, pk_mul, nI_add]) (by omega) (Nat.le_of_ble_eq_true rfl) ?_
              refine wp_w (u_EQ g _ _) ?_
              rw [ss_EQ]
              refine wp_w (w2 := mixW g (s_EQ S (eqS N (eqS N (vp_updL (eqF (z_SV S) d N tg (z_EQ S) i) (6 * i + i) 100) i (tg (2 * i)) (carF (z_SV S (4 + 2 * i + d)) 0).toInt64) i (tg (2 * i + 1)) (carF (z_SV S (4 + 2 * i + d)) 1).toInt64))) (by unfold eqS; rw [if_pos ne1]) ?_
              refine q_iinc4 (k9 := 1) dX0_fillEquations_83 rfl (Nat.le_of_ble_eq_true rfl) rfl ?_
              refine wp_L (L2 := [some (.ref 15), some (.ref 3), some (.int (nI d)), some (.int (nI i)), some (.int (2)), some (.int (nI (tg (2 * i + 1))))]) rfl ?_
              refine q_goto 35 dX0_fillEquations_86 rfl ?_
              refine q_iload dX0_fillEquations_35 rfl ?_
              refine q_iconst (v := 1) dX0_fillEquations_37 rfl ?_
              refine q_icmp_gt 89 dX0_fillEquations_38 rfl (fun c38 => ?_) (fun c38 => ?_)
              · refine q_iinc3 (k9 := 1) dX0_fillEquations_89 rfl (Nat.le_of_ble_eq_true rfl) rfl ?_
                refine wp_L (L2 := [some (.ref 15), some (.ref 3), some (.int (nI d)), some (.int (nI (i + 1))), some (.int (2)), some (.int (nI (tg (2 * i + 1))))]) (by rw [show nI i + 1 = nI (i + 1) from nI_1 _]) ?_
                refine q_goto 10 dX0_fillEquations_92 rfl ?_
                refine wp_fg (L2 := [some (.ref 15), some (.ref 3), some (.int (nI d)), some (.int (nI (i + 1))), none, none]) ⟨rfl, rfl, rfl, rfl, trivial⟩ ?_
                refine wp_w (w2 := mixW g (s_EQ S (eqF (z_SV S) d N tg (z_EQ S) (i + 1)))) rfl ?_
                exact ih (i + 1) (by omega)
              · first | exact absurd (by decide) c38 | exact absurd c38 (by decide)
set_option maxRecDepth 100000 in
set_option maxHeartbeats 4000000 in
theorem c_X0_fillE_3 {g : G0} (hG : Gd g) (S : SS) (d : Nat) (ft : Nat) (N : Nat) (tg : Nat → Nat) (h1 : d < 2) (h2 : tgts (z_SV S) N ft tg) : ctu g mX0_fillEquations [.ref 15, .ref 3, .int (nI d)] (mixW g S) (mixW g (s_EQ S (eqF (z_SV S) d N tg (z_EQ S) N))) := by
  refine ct_of hG [some (.ref 15), some (.ref 3), some (.int (nI d)), none, none, none] rfl rfl rfl (Nat.le_of_ble_eq_true rfl) (fun h => ?_) rfl
  refine q_aload_n dX0_fillEquations_0 rfl ?_
  refine q_get (j := 0) (v := .ref 16) dX0_fillEquations_1 (Nat.le_of_ble_eq_true rfl) rfl rfl iuX0 (Nat.le_of_ble_eq_true rfl) uw_144 rfl rfl ?_
  refine q_lconst (v := 0) dX0_fillEquations_4 rfl ?_
  refine q_callSu (ν := mJ7_fill_d0a16) dX0_fillEquations_5 uw_338 vJ7_fill_d0a16 (c_fill_16 hG S (0)) rfl rfl (Nat.le_of_ble_eq_true rfl) (Nat.le_of_ble_eq_true rfl) (Nat.le_of_ble_eq_true rfl) 0 (Nat.le_of_ble_eq_true rfl) ?_
  refine wp_w (w2 := mixW g (s_EQ S (filF (z_EQ S) 0 36))) rfl ?_
  refine q_iconst (v := 0) dX0_fillEquations_8 rfl ?_
  refine q_ist3 dX0_fillEquations_9 (Nat.le_of_ble_eq_true rfl) rfl ?_
  refine wp_w (w2 := mixW g (s_EQ S (eqF (z_SV S) d N tg (z_EQ S) 0))) rfl ?_
  refine l_X0_fillE_3 hG S d ft N tg h1 h2 ?_ N 0 (by omega)
  exact q_vret dX0_fillEquations_95 rfl ⟨rfl, rfl⟩
set_option maxRecDepth 100000 in
set_option maxHeartbeats 4000000 in
theorem l_X0_fillC_3 {g : G0} {h : G1} (hG : Gd g) (S : SS) {Q : State → Prop} (d col go ft N : Nat) (tg : Nat → Nat) (hd : d < 2) (hcol : col < 6) (hgo : go < 10) (ht : tgts (z_SV S) N ft tg) (k : wp g h mX0_fillColumn (mixW g (s_EQ S (fcF (z_SV S) d col go tg (z_EQ S) N))) [some (.ref 15), some (.ref 3), some (.int (nI d)), some (.int (nI col)), some (.int (nI go)), some (.int (nI N)), none, none, none] [] 0 Q 99) : ∀ (n i : Nat), i + n = N → wp g h mX0_fillColumn (mixW g (s_EQ S (fcF (z_SV S) d col go tg (z_EQ S) i))) [some (.ref 15), some (.ref 3), some (.int (nI d)), some (.int (nI col)), some (.int (nI go)), some (.int (nI i)), none, none, none] [] 0 Q 3 := by
  intro n
  induction n with
  | zero =>
    intro i hq1
    obtain ⟨t1, t2, t3, t4, t5⟩ := ht
    obtain rfl : N = i := by omega
    refine q_iload dX0_fillColumn_3 rfl ?_
    refine q_aload_n dX0_fillColumn_5 rfl ?_
    refine q_callVv (ν := mX7_count) dX0_fillColumn_6 uw_341 vX7_count (c_X7_count_3 hG (s_EQ S (fcF (z_SV S) d col go tg (z_EQ S) N)) ) (Nat.le_of_ble_eq_true rfl) rfl rfl rfl rfl (Nat.le_of_ble_eq_true rfl) (Nat.le_of_ble_eq_true rfl) (Nat.le_of_ble_eq_true rfl) 0 (Nat.le_of_ble_eq_true rfl) ?_
    refine wp_eq (st2 := .int (((z_SV S) 0)) :: _) rfl ?_
    refine wp_top (y := nI N) t1 ?_
    refine q_icmp_ge 99 dX0_fillColumn_9 rfl (fun c9 => ?_) (fun c9 => ?_)
    · have n9 := (nI_leI (a := N) (b := N) (by omega) (by omega)).mp c9
      exact k
    · have n9 := mt (nI_leI (a := N) (b := N) (by omega) (by omega)).mpr c9
      omega
  | succ n ih =>
    intro i hq1
    obtain ⟨t1, t2, t3, t4, t5⟩ := ht
    refine q_iload dX0_fillColumn_3 rfl ?_
    refine q_aload_n dX0_fillColumn_5 rfl ?_
    refine q_callVv (ν := mX7_count) dX0_fillColumn_6 uw_341 vX7_count (c_X7_count_3 hG (s_EQ S (fcF (z_SV S) d col go tg (z_EQ S) i)) ) (Nat.le_of_ble_eq_true rfl) rfl rfl rfl rfl (Nat.le_of_ble_eq_true rfl) (Nat.le_of_ble_eq_true rfl) (Nat.le_of_ble_eq_true rfl) 0 (Nat.le_of_ble_eq_true rfl) ?_
    refine wp_eq (st2 := .int (((z_SV S) 0)) :: _) rfl ?_
    refine wp_top (y := nI N) t1 ?_
    refine q_icmp_ge 99 dX0_fillColumn_9 rfl (fun c9 => ?_) (fun c9 => ?_)
    · have n9 := (nI_leI (a := N) (b := i) (by omega) (by omega)).mp c9
      omega
    · have n9 := mt (nI_leI (a := N) (b := i) (by omega) (by omega)).mpr c9
      refine q_iload dX0_fillColumn_12 rfl ?_
      refine q_iload dX0_fillColumn_14 rfl ?_
      refine q_icmp_ne 25 dX0_fillColumn_16 rfl (fun c16 => ?_) (fun c16 => ?_)
      · have n16 := mt (nI_eq (a := i) (b := go) (by omega) (by omega)).mpr c16
        refine q_lconst (v := 0) dX0_fillColumn_25 rfl ?_
        refine wp_topl (y := rg0 i go) (by rw [rg0, if_neg (by omega)]) ?_
        refine q_lst6 dX0_fillColumn_26 (Nat.le_of_ble_eq_true rfl) rfl ?_
        refine q_iconst (v := 0) dX0_fillColumn_28 rfl ?_
        refine q_ist8 dX0_fillColumn_29 (Nat.le_of_ble_eq_true rfl) rfl ?_
        refine q_iload dX0_fillColumn_31 rfl ?_
        refine q_iconst (v := 1) dX0_fillColumn_33 rfl ?_
        refine q_icmp_gt 79 dX0_fillColumn_34 rfl (fun c34 => ?_) (fun c34 => ?_)
        · first | exact absurd (by decide) c34 | exact absurd c34 (by decide)
        · refine q_iload dX0_fillColumn_37 rfl ?_
          refine q_callSNv (ν := mX9_isProduct) dX0_fillColumn_39 (List.mem_of_getElem? (i := 0) rfl) vX9_isProduct (c_X9_isProduct hG (s_EQ S (fcF (z_SV S) d col go tg (z_EQ S) i)) (go) (by omega)) rfl rfl (Nat.le_of_ble_eq_true rfl) (Nat.le_of_ble_eq_true rfl) (Nat.le_of_ble_eq_true rfl) 0 (Nat.le_of_ble_eq_true rfl) ?_
          refine wp_eq (st2 := .int ((pI (go = 8 ∨ go = 9))) :: _) rfl ?_
          refine q_if_eq 73 dX0_fillColumn_42 rfl (fun c42 => ?_) (fun c42 => ?_)
          · refine wp_L (L2 := [some (.ref 15), some (.ref 3), some (.int (nI d)), some (.int (nI col)), some (.int (nI go)), some (.int (nI i)), some (.long (rgS go (tg (2 * i)) (carF (z_SV S (4 + 2 * i + d)) 0).toInt64 (rg0 i go))), none, some (.int (0))]) (by unfold rgS; rw [if_neg (c := (go = 8 ∨ go = 9) ∧ tg (2 * i) = go) (by first | exact fun z => pI_0 c42 z.1 | exact fun z => n55 z.2)]) ?_
            refine q_iinc8 (k9 := 1) dX0_fillColumn_73 rfl (Nat.le_of_ble_eq_true rfl) rfl ?_
            refine wp_L (L2 := [some (.ref 15), some (.ref 3), some (.int (nI d)), some (.int (nI col)), some (.int (nI go)), some (.int (nI i)), some (.long (rgS go (tg (2 * i)) (carF (z_SV S (4 + 2 * i + d)) 0).toInt64 (rg0 i go))), none, some (.int (1))]) rfl ?_
            refine q_goto 31 dX0_fillColumn_76 rfl ?_
            refine q_iload dX0_fillColumn_31 rfl ?_
            refine q_iconst (v := 1) dX0_fillColumn_33 rfl ?_
            refine q_icmp_gt 79 dX0_fillColumn_34 rfl (fun c34 => ?_) (fun c34 => ?_)
            · first | exact absurd (by decide) c34 | exact absurd c34 (by decide)
            · refine q_iload dX0_fillColumn_37 rfl ?_
              refine q_callSNv (ν := mX9_isProduct) dX0_fillColumn_39 (List.mem_of_getElem? (i := 0) rfl) vX9_isProduct (c_X9_isProduct hG (s_EQ S (fcF (z_SV S) d col go tg (z_EQ S) i)) (go) (by omega)) rfl rfl (Nat.le_of_ble_eq_true rfl) (Nat.le_of_ble_eq_true rfl) (Nat.le_of_ble_eq_true rfl) 0 (Nat.le_of_ble_eq_true rfl) ?_
              refine wp_eq (st2 := .int ((pI (go = 8 ∨ go = 9))) :: _) rfl ?_
              refine q_if_eq 73 dX0_fillColumn_42 rfl (fun c42 => ?_) (fun c42 => ?_)
              · refine wp_L (L2 := [some (.ref 15), some (.ref 3), some (.int (nI d)), some (.int (nI col)), some (.int (nI go)), some (.int (nI i)), some (.long (rgS go (tg (2 * i + 1)) (carF (z_SV S (4 + 2 * i + d)) 1).toInt64 (rgS go (tg (2 * i)) (carF (z_SV S (4 + 2 * i + d)) 0).toInt64 (rg0 i go)))), none, some (.int (1))]) (by unfold rgS; rw [if_neg (c := (go = 8 ∨ go = 9) ∧ tg (2 * i + 1) = go) (by first | exact fun z => pI_0 c42 z.1 | exact fun z => n55 z.2)]) ?_
                refine q_iinc8 (k9 := 1) dX0_fillColumn_73 rfl (Nat.le_of_ble_eq_true rfl) rfl ?_
                refine wp_L (L2 := [some (.ref 15), some (.ref 3), some (.int (nI d)), some (.int (nI col)), some (.int (nI go)), some (.int (nI i)), some (.long (rgS go (tg (2 * i + 1)) (carF (z_SV S (4 + 2 * i + d)) 1).toInt64 (rgS go (tg (2 * i)) (carF (z_SV S (4 + 2 * i + d)) 0).toInt64 (rg0 i go)))), none, some (.int (2))]) rfl ?_
                refine q_goto 31 dX0_fillColumn_76 rfl ?_
                refine q_iload dX0_fillColumn_31 rfl ?_
                refine q_iconst (v := 1) dX0_fillColumn_33 rfl ?_
                refine q_icmp_gt 79 dX0_fillColumn_34 rfl (fun c34 => ?_) (fun c34 => ?_)
                · refine q_aload_n dX0_fillColumn_79 rfl ?_
                  refine q_get (j := 0) (v := .ref 16) dX0_fillColumn_80 (Nat.le_of_ble_eq_true rfl) rfl rfl iuX0 (Nat.le_of_ble_eq_true rfl) uw_144 rfl rfl ?_
                  refine q_bipush (v := 6) dX0_fillColumn_83 rfl ?_
                  refine q_iload dX0_fillColumn_85 rfl ?_
                  refine q_imul dX0_fillColumn_87 ?_
                  refine q_iload_n dX0_fillColumn_88 rfl ?_
                  refine q_iadd dX0_fillColumn_89 ?_
                  refine q_lload dX0_fillColumn_90 rfl ?_
                  refine q_last (f := (fcF (z_SV S) d col go tg (z_EQ S) i)) dX0_fillColumn_92 (Nat.le_of_ble_eq_true rfl) rfl (((6 * i) + col)) (by simp only [fa_lit, pk_mul, nI_add]) (by omega) (Nat.le_of_ble_eq_true rfl) ?_
                  refine wp_w (u_EQ g _ _) ?_
                  rw [ss_EQ]
                  refine q_iinc5 (k9 := 1) dX0_fillColumn_93 rfl (Nat.le_of_ble_eq_true rfl) rfl ?_
                  refine wp_L (L2 := [some (.ref 15), some (.ref 3), some (.int (nI d)), some (.int (nI col)), some (.int (nI go)), some (.int (nI (i + 1))), some (.long (rgS go (tg (2 * i + 1)) (carF (z_SV S (4 + 2 * i + d)) 1).toInt64 (rgS go (tg (2 * i)) (carF (z_SV S (4 + 2 * i + d)) 0).toInt64 (rg0 i go)))), none, some (.int (2))]) (by rw [show nI i + 1 = nI (i + 1) from nI_1 _]) ?_
                  refine q_goto 3 dX0_fillColumn_96 rfl ?_
                  refine wp_fg (L2 := [some (.ref 15), some (.ref 3), some (.int (nI d)), some (.int (nI col)), some (.int (nI go)), some (.int (nI (i + 1))), none, none, none]) ⟨rfl, rfl, rfl, rfl, rfl, rfl, trivial⟩ ?_
                  refine wp_w (w2 := mixW g (s_EQ S (fcF (z_SV S) d col go tg (z_EQ S) (i + 1)))) rfl ?_
                  exact ih (i + 1) (by omega)
                · first | exact absurd (by decide) c34 | exact absurd c34 (by decide)
              · refine q_aload_n dX0_fillColumn_45 rfl ?_
                refine q_iload dX0_fillColumn_46 rfl ?_
                refine q_iload dX0_fillColumn_48 rfl ?_
                refine q_callVv (ν := mX7_target) dX0_fillColumn_50 uw_343 vX7_target (c_X7_target_3 hG (s_EQ S (fcF (z_SV S) d col go tg (z_EQ S) i)) (i) (1) (by omega)) (Nat.le_of_ble_eq_true rfl) rfl rfl rfl rfl (Nat.le_of_ble_eq_true rfl) (Nat.le_of_ble_eq_true rfl) (Nat.le_of_ble_eq_true rfl) 0 (Nat.le_of_ble_eq_true rfl) ?_
                refine wp_eq (st2 := .int ((presF ((z_SV S) 0) ((z_SV S) (16 + 2 * i + 1)))) :: _) rfl ?_
                refine wp_top (y := nI (tg (2 * i + 1))) (t5 (2 * i + 1) (by omega)).1 ?_
                have tl1 := (t5 (2 * i + 1) (by omega)).2
                refine q_iload dX0_fillColumn_53 rfl ?_
                refine q_icmp_ne 73 dX0_fillColumn_55 rfl (fun c55 => ?_) (fun c55 => ?_)
                · have n55 := mt (nI_eq (a := (tg (2 * i + 1))) (b := go) (by omega) (by omega)).mpr c55
                  refine wp_L (L2 := [some (.ref 15), some (.ref 3), some (.int (nI d)), some (.int (nI col)), some (.int (nI go)), some (.int (nI i)), some (.long (rgS go (tg (2 * i + 1)) (carF (z_SV S (4 + 2 * i + d)) 1).toInt64 (rgS go (tg (2 * i)) (carF (z_SV S (4 + 2 * i + d)) 0).toInt64 (rg0 i go)))), none, some (.int (1))]) (by unfold rgS; rw [if_neg (c := (go = 8 ∨ go = 9) ∧ tg (2 * i + 1) = go) (by first | exact fun z => pI_0 c42 z.1 | exact fun z => n55 z.2)]) ?_
                  refine q_iinc8 (k9 := 1) dX0_fillColumn_73 rfl (Nat.le_of_ble_eq_true rfl) rfl ?_
                  refine wp_L (L2 := [some (.ref 15), some (.ref 3), some (.int (nI d)), some (.int (nI col)), some (.int (nI go)), some (.int (nI i)), some (.long (rgS go (tg (2 * i + 1)) (carF (z_SV S (4 + 2 * i + d)) 1).toInt64 (rgS go (tg (2 * i)) (carF (z_SV S (4 + 2 * i + d)) 0).toInt64 (rg0 i go)))), none, some (.int (2))]) rfl ?_
                  refine q_goto 31 dX0_fillColumn_76 rfl ?_
                  refine q_iload dX0_fillColumn_31 rfl ?_
                  refine q_iconst (v := 1) dX0_fillColumn_33 rfl ?_
                  refine q_icmp_gt 79 dX0_fillColumn_34 rfl (fun c34 => ?_) (fun c34 => ?_)
                  · refine q_aload_n dX0_fillColumn_79 rfl ?_
                    refine q_get (j := 0) (v := .ref 16) dX0_fillColumn_80 (Nat.le_of_ble_eq_true rfl) rfl rfl iuX0 (Nat.le_of_ble_eq_true rfl) uw_144 rfl rfl ?_
                    refine q_bipush (v := 6) dX0_fillColumn_83 rfl ?_
                    refine q_iload dX0_fillColumn_85 rfl ?_
                    refine q_imul dX0_fillColumn_87 ?_
                    refine q_iload_n dX0_fillColumn_88 rfl ?_
                    refine q_iadd dX0_fillColumn_89 ?_
                    refine q_lload dX0_fillColumn_90 rfl ?_
                    refine q_last (f := (fcF (z_SV S) d col go tg (z_EQ S) i)) dX0_fillColumn_92 (Nat.le_of_ble_eq_true rfl) rfl (((6 * i) + col)) (by simp only [fa_lit, pk_mul, nI_add]) (by omega) (Nat.le_of_ble_eq_true rfl) ?_
                    refine wp_w (u_EQ g _ _) ?_
                    rw [ss_EQ]
                    refine q_iinc5 (k9 := 1) dX0_fillColumn_93 rfl (Nat.le_of_ble_eq_true rfl) rfl ?_
                    refine wp_L (L2 := [some (.ref 15), some (.ref 3), some (.int (nI d)), some (.int (nI col)), some (.int (nI go)), some (.int (nI (i + 1))), some (.long (rgS go (tg (2 * i + 1)) (carF (z_SV S (4 + 2 * i + d)) 1).toInt64 (rgS go (tg (2 * i)) (carF (z_SV S (4 + 2 * i + d)) 0).toInt64 (rg0 i go)))), none, some (.int (2))]) (by rw [show nI i + 1 = nI (i + 1) from nI_1 _]) ?_
                    refine q_goto 3 dX0_fillColumn_96 rfl ?_
                    refine wp_fg (L2 := [some (.ref 15), some (.ref 3), some (.int (nI d)), some (.int (nI col)), some (.int (nI go)), some (.int (nI (i + 1))), none, none, none]) ⟨rfl, rfl, rfl, rfl, rfl, rfl, trivial⟩ ?_
                    refine wp_w (w2 := mixW g (s_EQ S (fcF (z_SV S) d col go tg (z_EQ S) (i + 1)))) rfl ?_
                    exact ih (i + 1) (by omega)
                  · first | exact absurd (by decide) c34 | exact absurd c34 (by decide)
                · have n55 := (nI_eq (a := (tg (2 * i + 1))) (b := go) (by omega) (by omega)).mp c55
                  refine q_lload dX0_fillColumn_58 rfl ?_
                  refine q_aload_n dX0_fillColumn_60 rfl ?_
                  refine q_iload dX0_fillColumn_61 rfl ?_
                  refine q_iload_n dX0_fillColumn_63 rfl ?_
                  refine q_iload dX0_fillColumn_64 rfl ?_
                  refine q_callVv (ν := mX7_carried) dX0_fillColumn_66 uw_359 vX7_carried (c_X7_carried_3 hG (s_EQ S (fcF (z_SV S) d col go tg (z_EQ S) i)) (i) (d) (1) (by omega)) (Nat.le_of_ble_eq_true rfl) rfl rfl rfl rfl (Nat.le_of_ble_eq_true rfl) (Nat.le_of_ble_eq_true rfl) (Nat.le_of_ble_eq_true rfl) 0 (Nat.le_of_ble_eq_true rfl) ?_
                  refine wp_eq (st2 := .int ((carF ((z_SV S) (4 + 2 * i + d)) 1)) :: _) rfl ?_
                  refine q_i2l dX0_fillColumn_69 ?_
                  refine q_ladd dX0_fillColumn_70 ?_
                  refine q_lst6 dX0_fillColumn_71 (Nat.le_of_ble_eq_true rfl) rfl ?_
                  refine wp_L (L2 := [some (.ref 15), some (.ref 3), some (.int (nI d)), some (.int (nI col)), some (.int (nI go)), some (.int (nI i)), some (.long (rgS go (tg (2 * i + 1)) (carF (z_SV S (4 + 2 * i + d)) 1).toInt64 (rgS go (tg (2 * i)) (carF (z_SV S (4 + 2 * i + d)) 0).toInt64 (rg0 i go)))), none, some (.int (1))]) (by unfold rgS; rw [if_pos (c := (go = 8 ∨ go = 9) ∧ tg (2 * i + 1) = go) ⟨pI_1 c42, n55⟩]) ?_
                  refine q_iinc8 (k9 := 1) dX0_fillColumn_73 rfl (Nat.le_of_ble_eq_true rfl) rfl ?_
                  refine wp_L (L2 := [some (.ref 15), some (.ref 3), some (.int (nI d)), some (.int (nI col)), some (.int (nI go)), some (.int (nI i)), some (.long (rgS go (tg (2 * i + 1)) (carF (z_SV S (4 + 2 * i + d)) 1).toInt64 (rgS go (tg (2 * i)) (carF (z_SV S (4 + 2 * i + d)) 0).toInt64 (rg0 i go)))), none, some (.int (2))]) rfl ?_
                  refine q_goto 31 dX0_fillColumn_76 rfl ?_
                  refine q_iload dX0_fillColumn_31 rfl ?_
                  refine q_iconst (v := 1) dX0_fillColumn_33 rfl ?_
                  refine q_icmp_gt 79 dX0_fillColumn_34 rfl (fun c34 => ?_) (fun c34 => ?_)
                  · refine q_aload_n dX0_fillColumn_79 rfl ?_
                    refine q_get (j := 0) (v := .ref 16) dX0_fillColumn_80 (Nat.le_of_ble_eq_true rfl) rfl rfl iuX0 (Nat.le_of_ble_eq_true rfl) uw_144 rfl rfl ?_
                    refine q_bipush (v := 6) dX0_fillColumn_83 rfl ?_
                    refine q_iload dX0_fillColumn_85 rfl ?_
                    refine q_imul dX0_fillColumn_87 ?_
                    refine q_iload_n dX0_fillColumn_88 rfl ?_
                    refine q_iadd dX0_fillColumn_89 ?_
                    refine q_lload dX0_fillColumn_90 rfl ?_
                    refine q_last (f := (fcF (z_SV S) d col go tg (z_EQ S) i)) dX0_fillColumn_92 (Nat.le_of_ble_eq_true rfl) rfl (((6 * i) + col)) (by simp only [fa_lit, pk_mul, nI_add]) (by omega) (Nat.le_of_ble_eq_true rfl) ?_
                    refine wp_w (u_EQ g _ _) ?_
                    rw [ss_EQ]
                    refine q_iinc5 (k9 := 1) dX0_fillColumn_93 rfl (Nat.le_of_ble_eq_true rfl) rfl ?_
                    refine wp_L (L2 := [some (.ref 15), some (.ref 3), some (.int (nI d)), some (.int (nI col)), some (.int (nI go)), some (.int (nI (i + 1))), some (.long (rgS go (tg (2 * i + 1)) (carF (z_SV S (4 + 2 * i + d)) 1).toInt64 (rgS go (tg (2 * i)) (carF (z_SV S (4 + 2 * i + d)) 0).toInt64 (rg0 i go)))), none, some (.int (2))]) (by rw [show nI i + 1 = nI (i + 1) from nI_1 _]) ?_
                    refine q_goto 3 dX0_fillColumn_96 rfl ?_
                    refine wp_fg (L2 := [some (.ref 15), some (.ref 3), some (.int (nI d)), some (.int (nI col)), some (.int (nI go)), some (.int (nI (i + 1))), none, none, none]) ⟨rfl, rfl, rfl, rfl, rfl, rfl, trivial⟩ ?_
                    refine wp_w (w2 := mixW g (s_EQ S (fcF (z_SV S) d col go tg (z_EQ S) (i + 1)))) rfl ?_
                    exact ih (i + 1) (by omega)
                  · first | exact absurd (by decide) c34 | exact absurd c34 (by decide)
          · refine q_aload_n dX0_fillColumn_45 rfl ?_
            refine q_iload dX0_fillColumn_46 rfl ?_
            refine q_iload dX0_fillColumn_48 rfl ?_
            refine q_callVv (ν := mX7_target) dX0_fillColumn_50 uw_343 vX7_target (c_X7_target_3 hG (s_EQ S (fcF (z_SV S) d col go tg (z_EQ S) i)) (i) (0) (by omega)) (Nat.le_of_ble_eq_true rfl) rfl rfl rfl rfl (Nat.le_of_ble_eq_true rfl) (Nat.le_of_ble_eq_true rfl) (Nat.le_of_ble_eq_true rfl) 0 (Nat.le_of_ble_eq_true rfl) ?_
            refine wp_eq (st2 := .int ((presF ((z_SV S) 0) ((z_SV S) (16 + 2 * i + 0)))) :: _) rfl ?_
            refine wp_top (y := nI (tg (2 * i))) (t5 (2 * i) (by omega)).1 ?_
            have tl0 := (t5 (2 * i) (by omega)).2
            refine q_iload dX0_fillColumn_53 rfl ?_
            refine q_icmp_ne 73 dX0_fillColumn_55 rfl (fun c55 => ?_) (fun c55 => ?_)
            · have n55 := mt (nI_eq (a := (tg (2 * i))) (b := go) (by omega) (by omega)).mpr c55
              refine wp_L (L2 := [some (.ref 15), some (.ref 3), some (.int (nI d)), some (.int (nI col)), some (.int (nI go)), some (.int (nI i)), some (.long (rgS go (tg (2 * i)) (carF (z_SV S (4 + 2 * i + d)) 0).toInt64 (rg0 i go))), none, some (.int (0))]) (by unfold rgS; rw [if_neg (c := (go = 8 ∨ go = 9) ∧ tg (2 * i) = go) (by first | exact fun z => pI_0 c42 z.1 | exact fun z => n55 z.2)]) ?_
              refine q_iinc8 (k9 := 1) dX0_fillColumn_73 rfl (Nat.le_of_ble_eq_true rfl) rfl ?_
              refine wp_L (L2 := [some (.ref 15), some (.ref 3), some (.int (nI d)), some (.int (nI col)), some (.int (nI go)), some (.int (nI i)), some (.long (rgS go (tg (2 * i)) (carF (z_SV S (4 + 2 * i + d)) 0).toInt64 (rg0 i go))), none, some (.int (1))]) rfl ?_
              refine q_goto 31 dX0_fillColumn_76 rfl ?_
              refine q_iload dX0_fillColumn_31 rfl ?_
              refine q_iconst (v := 1) dX0_fillColumn_33 rfl ?_
              refine q_icmp_gt 79 dX0_fillColumn_34 rfl (fun c34 => ?_) (fun c34 => ?_)
              · first | exact absurd (by decide) c34 | exact absurd c34 (by decide)
              · refine q_iload dX0_fillColumn_37 rfl ?_
                refine q_callSNv (ν := mX9_isProduct) dX0_fillColumn_39 (List.mem_of_getElem? (i := 0) rfl) vX9_isProduct (c_X9_isProduct hG (s_EQ S (fcF (z_SV S) d col go tg (z_EQ S) i)) (go) (by omega)) rfl rfl (Nat.le_of_ble_eq_true rfl) (Nat.le_of_ble_eq_true rfl) (Nat.le_of_ble_eq_true rfl) 0 (Nat.le_of_ble_eq_true rfl) ?_
                refine wp_eq (st2 := .int ((pI (go = 8 ∨ go = 9))) :: _) rfl ?_
                refine q_if_eq 73 dX0_fillColumn_42 rfl (fun c42 => ?_) (fun c42 => ?_)
                · refine wp_L (L2 := [some (.ref 15), some (.ref 3), some (.int (nI d)), some (.int (nI col)), some (.int (nI go)), some (.int (nI i)), some (.long (rgS go (tg (2 * i + 1)) (carF (z_SV S (4 + 2 * i + d)) 1).toInt64 (rgS go (tg (2 * i)) (carF (z_SV S (4 + 2 * i + d)) 0).toInt64 (rg0 i go)))), none, some (.int (1))]) (by unfold rgS; rw [if_neg (c := (go = 8 ∨ go = 9) ∧ tg (2 * i + 1) = go) (by first | exact fun z => pI_0 c42 z.1 | exact fun z => n55 z.2)]) ?_
                  refine q_iinc8 (k9 := 1) dX0_fillColumn_73 rfl (Nat.le_of_ble_eq_true rfl) rfl ?_
                  refine wp_L (L2 := [some (.ref 15), some (.ref 3), some (.int (nI d)), some (.int (nI col)), some (.int (nI go)), some (.int (nI i)), some (.long (rgS go (tg (2 * i + 1)) (carF (z_SV S (4 + 2 * i + d)) 1).toInt64 (rgS go (tg (2 * i)) (carF (z_SV S (4 + 2 * i + d)) 0).toInt64 (rg0 i go)))), none, some (.int (2))]) rfl ?_
                  refine q_goto 31 dX0_fillColumn_76 rfl ?_
                  refine q_iload dX0_fillColumn_31 rfl ?_
                  refine q_iconst (v := 1) dX0_fillColumn_33 rfl ?_
                  refine q_icmp_gt 79 dX0_fillColumn_34 rfl (fun c34 => ?_) (fun c34 => ?_)
                  · refine q_aload_n dX0_fillColumn_79 rfl ?_
                    refine q_get (j := 0) (v := .ref 16) dX0_fillColumn_80 (Nat.le_of_ble_eq_true rfl) rfl rfl iuX0 (Nat.le_of_ble_eq_true rfl) uw_144 rfl rfl ?_
                    refine q_bipush (v := 6) dX0_fillColumn_83 rfl ?_
                    refine q_iload dX0_fillColumn_85 rfl ?_
                    refine q_imul dX0_fillColumn_87 ?_
                    refine q_iload_n dX0_fillColumn_88 rfl ?_
                    refine q_iadd dX0_fillColumn_89 ?_
                    refine q_lload dX0_fillColumn_90 rfl ?_
                    refine q_last (f := (fcF (z_SV S) d col go tg (z_EQ S) i)) dX0_fillColumn_92 (Nat.le_of_ble_eq_true rfl) rfl (((6 * i) + col)) (by simp only [fa_lit, pk_mul, nI_add]) (by omega) (Nat.le_of_ble_eq_true rfl) ?_
                    refine wp_w (u_EQ g _ _) ?_
                    rw [ss_EQ]
                    refine q_iinc5 (k9 := 1) dX0_fillColumn_93 rfl (Nat.le_of_ble_eq_true rfl) rfl ?_
                    refine wp_L (L2 := [some (.ref 15), some (.ref 3), some (.int (nI d)), some (.int (nI col)), some (.int (nI go)), some (.int (nI (i + 1))), some (.long (rgS go (tg (2 * i + 1)) (carF (z_SV S (4 + 2 * i + d)) 1).toInt64 (rgS go (tg (2 * i)) (carF (z_SV S (4 + 2 * i + d)) 0).toInt64 (rg0 i go)))), none, some (.int (2))]) (by rw [show nI i + 1 = nI (i + 1) from nI_1 _]) ?_
                    refine q_goto 3 dX0_fillColumn_96 rfl ?_
                    refine wp_fg (L2 := [some (.ref 15), some (.ref 3), some (.int (nI d)), some (.int (nI col)), some (.int (nI go)), some (.int (nI (i + 1))), none, none, none]) ⟨rfl, rfl, rfl, rfl, rfl, rfl, trivial⟩ ?_
                    refine wp_w (w2 := mixW g (s_EQ S (fcF (z_SV S) d col go tg (z_EQ S) (i + 1)))) rfl ?_
                    exact ih (i + 1) (by omega)
                  · first | exact absurd (by decide) c34 | exact absurd c34 (by decide)
                · refine q_aload_n dX0_fillColumn_45 rfl ?_
                  refine q_iload dX0_fillColumn_46 rfl ?_
                  refine q_iload dX0_fillColumn_48 rfl ?_
                  refine q_callVv (ν := mX7_target) dX0_fillColumn_50 uw_343 vX7_target (c_X7_target_3 hG (s_EQ S (fcF (z_SV S) d col go tg (z_EQ S) i)) (i) (1) (by omega)) (Nat.le_of_ble_eq_true rfl) rfl rfl rfl rfl (Nat.le_of_ble_eq_true rfl) (Nat.le_of_ble_eq_true rfl) (Nat.le_of_ble_eq_true rfl) 0 (Nat.le_of_ble_eq_true rfl) ?_
                  refine wp_eq (st2 := .int ((presF ((z_SV S) 0) ((z_SV S) (16 + 2 * i + 1)))) :: _) rfl ?_
                  refine wp_top (y := nI (tg (2 * i + 1))) (t5 (2 * i + 1) (by omega)).1 ?_
                  have tl1 := (t5 (2 * i + 1) (by omega)).2
                  refine q_iload dX0_fillColumn_53 rfl ?_
                  refine q_icmp_ne 73 dX0_fillColumn_55 rfl (fun c55 => ?_) (fun c55 => ?_)
                  · have n55 := mt (nI_eq (a := (tg (2 * i + 1))) (b := go) (by omega) (by omega)).mpr c55
                    refine wp_L (L2 := [some (.ref 15), some (.ref 3), some (.int (nI d)), some (.int (nI col)), some (.int (nI go)), some (.int (nI i)), some (.long (rgS go (tg (2 * i + 1)) (carF (z_SV S (4 + 2 * i + d)) 1).toInt64 (rgS go (tg (2 * i)) (carF (z_SV S (4 + 2 * i + d)) 0).toInt64 (rg0 i go)))), none, some (.int (1))]) (by unfold rgS; rw [if_neg (c := (go = 8 ∨ go = 9) ∧ tg (2 * i + 1) = go) (by first | exact fun z => pI_0 c42 z.1 | exact fun z => n55 z.2)]) ?_
                    refine q_iinc8 (k9 := 1) dX0_fillColumn_73 rfl (Nat.le_of_ble_eq_true rfl) rfl ?_
                    refine wp_L (L2 := [some (.ref 15), some (.ref 3), some (.int (nI d)), some (.int (nI col)), some (.int (nI go)), some (.int (nI i)), some (.long (rgS go (tg (2 * i + 1)) (carF (z_SV S (4 + 2 * i + d)) 1).toInt64 (rgS go (tg (2 * i)) (carF (z_SV S (4 + 2 * i + d)) 0).toInt64 (rg0 i go)))), none, some (.int (2))]) rfl ?_
                    refine q_goto 31 dX0_fillColumn_76 rfl ?_
                    refine q_iload dX0_fillColumn_31 rfl ?_
                    refine q_iconst (v := 1) dX0_fillColumn_33 rfl ?_
                    refine q_icmp_gt 79 dX0_fillColumn_34 rfl (fun c34 => ?_) (fun c34 => ?_)
                    · refine q_aload_n dX0_fillColumn_79 rfl ?_
                      refine q_get (j := 0) (v := .ref 16) dX0_fillColumn_80 (Nat.le_of_ble_eq_true rfl) rfl rfl iuX0 (Nat.le_of_ble_eq_true rfl) uw_144 rfl rfl ?_
                      refine q_bipush (v := 6) dX0_fillColumn_83 rfl ?_
                      refine q_iload dX0_fillColumn_85 rfl ?_
                      refine q_imul dX0_fillColumn_87 ?_
                      refine q_iload_n dX0_fillColumn_88 rfl ?_
                      refine q_iadd dX0_fillColumn_89 ?_
                      refine q_lload dX0_fillColumn_90 rfl ?_
                      refine q_last (f := (fcF (z_SV S) d col go tg (z_EQ S) i)) dX0_fillColumn_92 (Nat.le_of_ble_eq_true rfl) rfl (((6 * i) + col)) (by simp only [fa_lit, pk_mul, nI_add]) (by omega) (Nat.le_of_ble_eq_true rfl) ?_
                      refine wp_w (u_EQ g _ _) ?_
                      rw [ss_EQ]
                      refine q_iinc5 (k9 := 1) dX0_fillColumn_93 rfl (Nat.le_of_ble_eq_true rfl) rfl ?_
                      refine wp_L (L2 := [some (.ref 15), some (.ref 3), some (.int (nI d)), some (.int (nI col)), some (.int (nI go)), some (.int (nI (i + 1))), some (.long (rgS go (tg (2 * i + 1)) (carF (z_SV S (4 + 2 * i + d)) 1).toInt64 (rgS go (tg (2 * i)) (carF (z_SV S (4 + 2 * i + d)) 0).toInt64 (rg0 i go)))), none, some (.int (2))]) (by rw [show nI i + 1 = nI (i + 1) from nI_1 _]) ?_
                      refine q_goto 3 dX0_fillColumn_96 rfl ?_
                      refine wp_fg (L2 := [some (.ref 15), some (.ref 3), some (.int (nI d)), some (.int (nI col)), some (.int (nI go)), some (.int (nI (i + 1))), none, none, none]) ⟨rfl, rfl, rfl, rfl, rfl, rfl, trivial⟩ ?_
                      refine wp_w (w2 := mixW g (s_EQ S (fcF (z_SV S) d col go tg (z_EQ S) (i + 1)))) rfl ?_
                      exact ih (i + 1) (by omega)
                    · first | exact absurd (by decide) c34 | exact absurd c34 (by decide)
                  · have n55 := (nI_eq (a := (tg (2 * i + 1))) (b := go) (by omega) (by omega)).mp c55
                    refine q_lload dX0_fillColumn_58 rfl ?_
                    refine q_aload_n dX0_fillColumn_60 rfl ?_
                    refine q_iload dX0_fillColumn_61 rfl ?_
                    refine q_iload_n dX0_fillColumn_63 rfl ?_
                    refine q_iload dX0_fillColumn_64 rfl ?_
                    refine q_callVv (ν := mX7_carried) dX0_fillColumn_66 uw_359 vX7_carried (c_X7_carried_3 hG (s_EQ S (fcF (z_SV S) d col go tg (z_EQ S) i)) (i) (d) (1) (by omega)) (Nat.le_of_ble_eq_true rfl) rfl rfl rfl rfl (Nat.le_of_ble_eq_true rfl) (Nat.le_of_ble_eq_true rfl) (Nat.le_of_ble_eq_true rfl) 0 (Nat.le_of_ble_eq_true rfl) ?_
                    refine wp_eq (st2 := .int ((carF ((z_SV S) (4 + 2 * i + d)) 1)) :: _) rfl ?_
                    refine q_i2l dX0_fillColumn_69 ?_
                    refine q_ladd dX0_fillColumn_70 ?_
                    refine q_lst6 dX0_fillColumn_71 (Nat.le_of_ble_eq_true rfl) rfl ?_
                    refine wp_L (L2 := [some (.ref 15), some (.ref 3), some (.int (nI d)), some (.int (nI col)), some (.int (nI go)), some (.int (nI i)), some (.long (rgS go (tg (2 * i + 1)) (carF (z_SV S (4 + 2 * i + d)) 1).toInt64 (rgS go (tg (2 * i)) (carF (z_SV S (4 + 2 * i + d)) 0).toInt64 (rg0 i go)))), none, some (.int (1))]) (by unfold rgS; rw [if_pos (c := (go = 8 ∨ go = 9) ∧ tg (2 * i + 1) = go) ⟨pI_1 c42, n55⟩]) ?_
                    refine q_iinc8 (k9 := 1) dX0_fillColumn_73 rfl (Nat.le_of_ble_eq_true rfl) rfl ?_
                    refine wp_L (L2 := [some (.ref 15), some (.ref 3), some (.int (nI d)), some (.int (nI col)), some (.int (nI go)), some (.int (nI i)), some (.long (rgS go (tg (2 * i + 1)) (carF (z_SV S (4 + 2 * i + d)) 1).toInt64 (rgS go (tg (2 * i)) (carF (z_SV S (4 + 2 * i + d)) 0).toInt64 (rg0 i go)))), none, some (.int (2))]) rfl ?_
                    refine q_goto 31 dX0_fillColumn_76 rfl ?_
                    refine q_iload dX0_fillColumn_31 rfl ?_
                    refine q_iconst (v := 1) dX0_fillColumn_33 rfl ?_
                    refine q_icmp_gt 79 dX0_fillColumn_34 rfl (fun c34 => ?_) (fun c34 => ?_)
                    · refine q_aload_n dX0_fillColumn_79 rfl ?_
                      refine q_get (j := 0) (v := .ref 16) dX0_fillColumn_80 (Nat.le_of_ble_eq_true rfl) rfl rfl iuX0 (Nat.le_of_ble_eq_true rfl) uw_144 rfl rfl ?_
                      refine q_bipush (v := 6) dX0_fillColumn_83 rfl ?_
                      refine q_iload dX0_fillColumn_85 rfl ?_
                      refine q_imul dX0_fillColumn_87 ?_
                      refine q_iload_n dX0_fillColumn_88 rfl ?_
                      refine q_iadd dX0_fillColumn_89 ?_
                      refine q_lload dX0_fillColumn_90 rfl ?_
                      refine q_last (f := (fcF (z_SV S) d col go tg (z_EQ S) i)) dX0_fillColumn_92 (Nat.le_of_ble_eq_true rfl) rfl (((6 * i) + col)) (by simp only [fa_lit, pk_mul, nI_add]) (by omega) (Nat.le_of_ble_eq_true rfl) ?_
                      refine wp_w (u_EQ g _ _) ?_
                      rw [ss_EQ]
                      refine q_iinc5 (k9 := 1) dX0_fillColumn_93 rfl (Nat.le_of_ble_eq_true rfl) rfl ?_
                      refine wp_L (L2 := [some (.ref 15), some (.ref 3), some (.int (nI d)), some (.int (nI col)), some (.int (nI go)), some (.int (nI (i + 1))), some (.long (rgS go (tg (2 * i + 1)) (carF (z_SV S (4 + 2 * i + d)) 1).toInt64 (rgS go (tg (2 * i)) (carF (z_SV S (4 + 2 * i + d)) 0).toInt64 (rg0 i go)))), none, some (.int (2))]) (by rw [show nI i + 1 = nI (i + 1) from nI_1 _]) ?_
                      refine q_goto 3 dX0_fillColumn_96 rfl ?_
                      refine wp_fg (L2 := [some (.ref 15), some (.ref 3), some (.int (nI d)), some (.int (nI col)), some (.int (nI go)), some (.int (nI (i + 1))), none, none, none]) ⟨rfl, rfl, rfl, rfl, rfl, rfl, trivial⟩ ?_
                      refine wp_w (w2 := mixW g (s_EQ S (fcF (z_SV S) d col go tg (z_EQ S) (i + 1)))) rfl ?_
                      exact ih (i + 1) (by omega)
                    · first | exact absurd (by decide) c34 | exact absurd c34 (by decide)
            · have n55 := (nI_eq (a := (tg (2 * i))) (b := go) (by omega) (by omega)).mp c55
              refine q_lload dX0_fillColumn_58 rfl ?_
              refine q_aload_n dX0_fillColumn_60 rfl ?_
              refine q_iload dX0_fillColumn_61 rfl ?_
              refine q_iload_n dX0_fillColumn_63 rfl ?_
              refine q_iload dX0_fillColumn_64 rfl ?_
              refine q_callVv (ν := mX7_carried) dX0_fillColumn_66 uw_359 vX7_carried (c_X7_carried_3 hG (s_EQ S (fcF (z_SV S) d col go tg (z_EQ S) i)) (i) (d) (0) (by omega)) (Nat.le_of_ble_eq_true rfl) rfl rfl rfl rfl (Nat.le_of_ble_eq_true rfl) (Nat.le_of_ble_eq_true rfl) (Nat.le_of_ble_eq_true rfl) 0 (Nat.le_of_ble_eq_true rfl) ?_
              refine wp_eq (st2 := .int ((carF ((z_SV S) (4 + 2 * i + d)) 0)) :: _) rfl ?_
              refine q_i2l dX0_fillColumn_69 ?_
              refine q_ladd dX0_fillColumn_70 ?_
              refine q_lst6 dX0_fillColumn_71 (Nat.le_of_ble_eq_true rfl) rfl ?_
              refine wp_L (L2 := [some (.ref 15), some (.ref 3), some (.int (nI d)), some (.int (nI col)), some (.int (nI go)), some (.int (nI i)), some (.long (rgS go (tg (2 * i)) (carF (z_SV S (4 + 2 * i + d)) 0).toInt64 (rg0 i go))), none, some (.int (0))]) (by unfold rgS; rw [if_pos (c := (go = 8 ∨ go = 9) ∧ tg (2 * i) = go) ⟨pI_1 c42, n55⟩]) ?_
              refine q_iinc8 (k9 := 1) dX0_fillColumn_73 rfl (Nat.le_of_ble_eq_true rfl) rfl ?_
              refine wp_L (L2 := [some (.ref 15), some (.ref 3), some (.int (nI d)), some (.int (nI col)), some (.int (nI go)), some (.int (nI i)), some (.long (rgS go (tg (2 * i)) (carF (z_SV S (4 + 2 * i + d)) 0).toInt64 (rg0 i go))), none, some (.int (1))]) rfl ?_
              refine q_goto 31 dX0_fillColumn_76 rfl ?_
              refine q_iload dX0_fillColumn_31 rfl ?_
              refine q_iconst (v := 1) dX0_fillColumn_33 rfl ?_
              refine q_icmp_gt 79 dX0_fillColumn_34 rfl (fun c34 => ?_) (fun c34 => ?_)
              · first | exact absurd (by decide) c34 | exact absurd c34 (by decide)
              · refine q_iload dX0_fillColumn_37 rfl ?_
                refine q_callSNv (ν := mX9_isProduct) dX0_fillColumn_39 (List.mem_of_getElem? (i := 0) rfl) vX9_isProduct (c_X9_isProduct hG (s_EQ S (fcF (z_SV S) d col go tg (z_EQ S) i)) (go) (by omega)) rfl rfl (Nat.le_of_ble_eq_true rfl) (Nat.le_of_ble_eq_true rfl) (Nat.le_of_ble_eq_true rfl) 0 (Nat.le_of_ble_eq_true rfl) ?_
                refine wp_eq (st2 := .int ((pI (go = 8 ∨ go = 9))) :: _) rfl ?_
                refine q_if_eq 73 dX0_fillColumn_42 rfl (fun c42 => ?_) (fun c42 => ?_)
                · refine wp_L (L2 := [some (.ref 15), some (.ref 3), some (.int (nI d)), some (.int (nI col)), some (.int (nI go)), some (.int (nI i)), some (.long (rgS go (tg (2 * i + 1)) (carF (z_SV S (4 + 2 * i + d)) 1).toInt64 (rgS go (tg (2 * i)) (carF (z_SV S (4 + 2 * i + d)) 0).toInt64 (rg0 i go)))), none, some (.int (1))]) (by unfold rgS; rw [if_neg (c := (go = 8 ∨ go = 9) ∧ tg (2 * i + 1) = go) (by first | exact fun z => pI_0 c42 z.1 | exact fun z => n55 z.2)]) ?_
                  refine q_iinc8 (k9 := 1) dX0_fillColumn_73 rfl (Nat.le_of_ble_eq_true rfl) rfl ?_
                  refine wp_L (L2 := [some (.ref 15), some (.ref 3), some (.int (nI d)), some (.int (nI col)), some (.int (nI go)), some (.int (nI i)), some (.long (rgS go (tg (2 * i + 1)) (carF (z_SV S (4 + 2 * i + d)) 1).toInt64 (rgS go (tg (2 * i)) (carF (z_SV S (4 + 2 * i + d)) 0).toInt64 (rg0 i go)))), none, some (.int (2))]) rfl ?_
                  refine q_goto 31 dX0_fillColumn_76 rfl ?_
                  refine q_iload dX0_fillColumn_31 rfl ?_
                  refine q_iconst (v := 1) dX0_fillColumn_33 rfl ?_
                  refine q_icmp_gt 79 dX0_fillColumn_34 rfl (fun c34 => ?_) (fun c34 => ?_)
                  · refine q_aload_n dX0_fillColumn_79 rfl ?_
                    refine q_get (j := 0) (v := .ref 16) dX0_fillColumn_80 (Nat.le_of_ble_eq_true rfl) rfl rfl iuX0 (Nat.le_of_ble_eq_true rfl) uw_144 rfl rfl ?_
                    refine q_bipush (v := 6) dX0_fillColumn_83 rfl ?_
                    refine q_iload dX0_fillColumn_85 rfl ?_
                    refine q_imul dX0_fillColumn_87 ?_
                    refine q_iload_n dX0_fillColumn_88 rfl ?_
                    refine q_iadd dX0_fillColumn_89 ?_
                    refine q_lload dX0_fillColumn_90 rfl ?_
                    refine q_last (f := (fcF (z_SV S) d col go tg (z_EQ S) i)) dX0_fillColumn_92 (Nat.le_of_ble_eq_true rfl) rfl (((6 * i) + col)) (by simp only [fa_lit, pk_mul, nI_add]) (by omega) (Nat.le_of_ble_eq_true rfl) ?_
                    refine wp_w (u_EQ g _ _) ?_
                    rw [ss_EQ]
                    refine q_iinc5 (k9 := 1) dX0_fillColumn_93 rfl (Nat.le_of_ble_eq_true rfl) rfl ?_
                    refine wp_L (L2 := [some (.ref 15), some (.ref 3), some (.int (nI d)), some (.int (nI col)), some (.int (nI go)), some (.int (nI (i + 1))), some (.long (rgS go (tg (2 * i + 1)) (carF (z_SV S (4 + 2 * i + d)) 1).toInt64 (rgS go (tg (2 * i)) (carF (z_SV S (4 + 2 * i + d)) 0).toInt64 (rg0 i go)))), none, some (.int (2))]) (by rw [show nI i + 1 = nI (i + 1) from nI_1 _]) ?_
                    refine q_goto 3 dX0_fillColumn_96 rfl ?_
                    refine wp_fg (L2 := [some (.ref 15), some (.ref 3), some (.int (nI d)), some (.int (nI col)), some (.int (nI go)), some (.int (nI (i + 1))), none, none, none]) ⟨rfl, rfl, rfl, rfl, rfl, rfl, trivial⟩ ?_
                    refine wp_w (w2 := mixW g (s_EQ S (fcF (z_SV S) d col go tg (z_EQ S) (i + 1)))) rfl ?_
                    exact ih (i + 1) (by omega)
                  · first | exact absurd (by decide) c34 | exact absurd c34 (by decide)
                · refine q_aload_n dX0_fillColumn_45 rfl ?_
                  refine q_iload dX0_fillColumn_46 rfl ?_
                  refine q_iload dX0_fillColumn_48 rfl ?_
                  refine q_callVv (ν := mX7_target) dX0_fillColumn_50 uw_343 vX7_target (c_X7_target_3 hG (s_EQ S (fcF (z_SV S) d col go tg (z_EQ S) i)) (i) (1) (by omega)) (Nat.le_of_ble_eq_true rfl) rfl rfl rfl rfl (Nat.le_of_ble_eq_true rfl) (Nat.le_of_ble_eq_true rfl) (Nat.le_of_ble_eq_true rfl) 0 (Nat.le_of_ble_eq_true rfl) ?_
                  refine wp_eq (st2 := .int ((presF ((z_SV S) 0) ((z_SV S) (16 + 2 * i + 1)))) :: _) rfl ?_
                  refine wp_top (y := nI (tg (2 * i + 1))) (t5 (2 * i + 1) (by omega)).1 ?_
                  have tl1 := (t5 (2 * i + 1) (by omega)).2
                  refine q_iload dX0_fillColumn_53 rfl ?_
                  refine q_icmp_ne 73 dX0_fillColumn_55 rfl (fun c55 => ?_) (fun c55 => ?_)
                  · have n55 := mt (nI_eq (a := (tg (2 * i + 1))) (b := go) (by omega) (by omega)).mpr c55
                    refine wp_L (L2 := [some (.ref 15), some (.ref 3), some (.int (nI d)), some (.int (nI col)), some (.int (nI go)), some (.int (nI i)), some (.long (rgS go (tg (2 * i + 1)) (carF (z_SV S (4 + 2 * i + d)) 1).toInt64 (rgS go (tg (2 * i)) (carF (z_SV S (4 + 2 * i + d)) 0).toInt64 (rg0 i go)))), none, some (.int (1))]) (by unfold rgS; rw [if_neg (c := (go = 8 ∨ go = 9) ∧ tg (2 * i + 1) = go) (by first | exact fun z => pI_0 c42 z.1 | exact fun z => n55 z.2)]) ?_
                    refine q_iinc8 (k9 := 1) dX0_fillColumn_73 rfl (Nat.le_of_ble_eq_true rfl) rfl ?_
                    refine wp_L (L2 := [some (.ref 15), some (.ref 3), some (.int (nI d)), some (.int (nI col)), some (.int (nI go)), some (.int (nI i)), some (.long (rgS go (tg (2 * i + 1)) (carF (z_SV S (4 + 2 * i + d)) 1).toInt64 (rgS go (tg (2 * i)) (carF (z_SV S (4 + 2 * i + d)) 0).toInt64 (rg0 i go)))), none, some (.int (2))]) rfl ?_
                    refine q_goto 31 dX0_fillColumn_76 rfl ?_
                    refine q_iload dX0_fillColumn_31 rfl ?_
                    refine q_iconst (v := 1) dX0_fillColumn_33 rfl ?_
                    refine q_icmp_gt 79 dX0_fillColumn_34 rfl (fun c34 => ?_) (fun c34 => ?_)
                    · refine q_aload_n dX0_fillColumn_79 rfl ?_
                      refine q_get (j := 0) (v := .ref 16) dX0_fillColumn_80 (Nat.le_of_ble_eq_true rfl) rfl rfl iuX0 (Nat.le_of_ble_eq_true rfl) uw_144 rfl rfl ?_
                      refine q_bipush (v := 6) dX0_fillColumn_83 rfl ?_
                      refine q_iload dX0_fillColumn_85 rfl ?_
                      refine q_imul dX0_fillColumn_87 ?_
                      refine q_iload_n dX0_fillColumn_88 rfl ?_
                      refine q_iadd dX0_fillColumn_89 ?_
                      refine q_lload dX0_fillColumn_90 rfl ?_
                      refine q_last (f := (fcF (z_SV S) d col go tg (z_EQ S) i)) dX0_fillColumn_92 (Nat.le_of_ble_eq_true rfl) rfl (((6 * i) + col)) (by simp only [fa_lit, pk_mul, nI_add]) (by omega) (Nat.le_of_ble_eq_true rfl) ?_
                      refine wp_w (u_EQ g _ _) ?_
                      rw [ss_EQ]
                      refine q_iinc5 (k9 := 1) dX0_fillColumn_93 rfl (Nat.le_of_ble_eq_true rfl) rfl ?_
                      refine wp_L (L2 := [some (.ref 15), some (.ref 3), some (.int (nI d)), some (.int (nI col)), some (.int (nI go)), some (.int (nI (i + 1))), some (.long (rgS go (tg (2 * i + 1)) (carF (z_SV S (4 + 2 * i + d)) 1).toInt64 (rgS go (tg (2 * i)) (carF (z_SV S (4 + 2 * i + d)) 0).toInt64 (rg0 i go)))), none, some (.int (2))]) (by rw [show nI i + 1 = nI (i + 1) from nI_1 _]) ?_
                      refine q_goto 3 dX0_fillColumn_96 rfl ?_
                      refine wp_fg (L2 := [some (.ref 15), some (.ref 3), some (.int (nI d)), some (.int (nI col)), some (.int (nI go)), some (.int (nI (i + 1))), none, none, none]) ⟨rfl, rfl, rfl, rfl, rfl, rfl, trivial⟩ ?_
                      refine wp_w (w2 := mixW g (s_EQ S (fcF (z_SV S) d col go tg (z_EQ S) (i + 1)))) rfl ?_
                      exact ih (i + 1) (by omega)
                    · first | exact absurd (by decide) c34 | exact absurd c34 (by decide)
                  · have n55 := (nI_eq (a := (tg (2 * i + 1))) (b := go) (by omega) (by omega)).mp c55
                    refine q_lload dX0_fillColumn_58 rfl ?_
                    refine q_aload_n dX0_fillColumn_60 rfl ?_
                    refine q_iload dX0_fillColumn_61 rfl ?_
                    refine q_iload_n dX0_fillColumn_63 rfl ?_
                    refine q_iload dX0_fillColumn_64 rfl ?_
                    refine q_callVv (ν := mX7_carried) dX0_fillColumn_66 uw_359 vX7_carried (c_X7_carried_3 hG (s_EQ S (fcF (z_SV S) d col go tg (z_EQ S) i)) (i) (d) (1) (by omega)) (Nat.le_of_ble_eq_true rfl) rfl rfl rfl rfl (Nat.le_of_ble_eq_true rfl) (Nat.le_of_ble_eq_true rfl) (Nat.le_of_ble_eq_true rfl) 0 (Nat.le_of_ble_eq_true rfl) ?_
                    refine wp_eq (st2 := .int ((carF ((z_SV S) (4 + 2 * i + d)) 1)) :: _) rfl ?_
                    refine q_i2l dX0_fillColumn_69 ?_
                    refine q_ladd dX0_fillColumn_70 ?_
                    refine q_lst6 dX0_fillColumn_71 (Nat.le_of_ble_eq_true rfl) rfl ?_
                    refine wp_L (L2 := [some (.ref 15), some (.ref 3), some (.int (nI d)), some (.int (nI col)), some (.int (nI go)), some (.int (nI i)), some (.long (rgS go (tg (2 * i + 1)) (carF (z_SV S (4 + 2 * i + d)) 1).toInt64 (rgS go (tg (2 * i)) (carF (z_SV S (4 + 2 * i + d)) 0).toInt64 (rg0 i go)))), none, some (.int (1))]) (by unfold rgS; rw [if_pos (c := (go = 8 ∨ go = 9) ∧ tg (2 * i + 1) = go) ⟨pI_1 c42, n55⟩]) ?_
                    refine q_iinc8 (k9 := 1) dX0_fillColumn_73 rfl (Nat.le_of_ble_eq_true rfl) rfl ?_
                    refine wp_L (L2 := [some (.ref 15), some (.ref 3), some (.int (nI d)), some (.int (nI col)), some (.int (nI go)), some (.int (nI i)), some (.long (rgS go (tg (2 * i + 1)) (carF (z_SV S (4 + 2 * i + d)) 1).toInt64 (rgS go (tg (2 * i)) (carF (z_SV S (4 + 2 * i + d)) 0).toInt64 (rg0 i go)))), none, some (.int (2))]) rfl ?_
                    refine q_goto 31 dX0_fillColumn_76 rfl ?_
                    refine q_iload dX0_fillColumn_31 rfl ?_
                    refine q_iconst (v := 1) dX0_fillColumn_33 rfl ?_
                    refine q_icmp_gt 79 dX0_fillColumn_34 rfl (fun c34 => ?_) (fun c34 => ?_)
                    · refine q_aload_n dX0_fillColumn_79 rfl ?_
                      refine q_get (j := 0) (v := .ref 16) dX0_fillColumn_80 (Nat.le_of_ble_eq_true rfl) rfl rfl iuX0 (Nat.le_of_ble_eq_true rfl) uw_144 rfl rfl ?_
                      refine q_bipush (v := 6) dX0_fillColumn_83 rfl ?_
                      refine q_iload dX0_fillColumn_85 rfl ?_
                      refine q_imul dX0_fillColumn_87 ?_
                      refine q_iload_n dX0_fillColumn_88 rfl ?_
                      refine q_iadd dX0_fillColumn_89 ?_
                      refine q_lload dX0_fillColumn_90 rfl ?_
                      refine q_last (f := (fcF (z_SV S) d col go tg (z_EQ S) i)) dX0_fillColumn_92 (Nat.le_of_ble_eq_true rfl) rfl (((6 * i) + col)) (by simp only [fa_lit, pk_mul, nI_add]) (by omega) (Nat.le_of_ble_eq_true rfl) ?_
                      refine wp_w (u_EQ g _ _) ?_
                      rw [ss_EQ]
                      refine q_iinc5 (k9 := 1) dX0_fillColumn_93 rfl (Nat.le_of_ble_eq_true rfl) rfl ?_
                      refine wp_L (L2 := [some (.ref 15), some (.ref 3), some (.int (nI d)), some (.int (nI col)), some (.int (nI go)), some (.int (nI (i + 1))), some (.long (rgS go (tg (2 * i + 1)) (carF (z_SV S (4 + 2 * i + d)) 1).toInt64 (rgS go (tg (2 * i)) (carF (z_SV S (4 + 2 * i + d)) 0).toInt64 (rg0 i go)))), none, some (.int (2))]) (by rw [show nI i + 1 = nI (i + 1) from nI_1 _]) ?_
                      refine q_goto 3 dX0_fillColumn_96 rfl ?_
                      refine wp_fg (L2 := [some (.ref 15), some (.ref 3), some (.int (nI d)), some (.int (nI col)), some (.int (nI go)), some (.int (nI (i + 1))), none, none, none]) ⟨rfl, rfl, rfl, rfl, rfl, rfl, trivial⟩ ?_
                      refine wp_w (w2 := mixW g (s_EQ S (fcF (z_SV S) d col go tg (z_EQ S) (i + 1)))) rfl ?_
                      exact ih (i + 1) (by omega)
                    · first | exact absurd (by decide) c34 | exact absurd c34 (by decide)
      · have n16 := (nI_eq (a := i) (b := go) (by omega) (by omega)).mp c16
        refine q_ldc2 dX0_fillColumn_19 uw_342 ?_
        refine q_goto 26 dX0_fillColumn_22 rfl ?_
        refine wp_topl (y := rg0 i go) (by rw [rg0, if_pos (by omega)]) ?_
        refine q_lst6 dX0_fillColumn_26 (Nat.le_of_ble_eq_true rfl) rfl ?_
        refine q_iconst (v := 0) dX0_fillColumn_28 rfl ?_
        refine q_ist8 dX0_fillColumn_29 (Nat.le_of_ble_eq_true rfl) rfl ?_
        refine q_iload dX0_fillColumn_31 rfl ?_
        refine q_iconst (v := 1) dX0_fillColumn_33 rfl ?_
        refine q_icmp_gt 79 dX0_fillColumn_34 rfl (fun c34 => ?_) (fun c34 => ?_)
        · first | exact absurd (by decide) c34 | exact absurd c34 (by decide)
        · refine q_iload dX0_fillColumn_37 rfl ?_
          refine q_callSNv (ν := mX9_isProduct) dX0_fillColumn_39 (List.mem_of_getElem? (i := 0) rfl) vX9_isProduct (c_X9_isProduct hG (s_EQ S (fcF (z_SV S) d col go tg (z_EQ S) i)) (go) (by omega)) rfl rfl (Nat.le_of_ble_eq_true rfl) (Nat.le_of_ble_eq_true rfl) (Nat.le_of_ble_eq_true rfl) 0 (Nat.le_of_ble_eq_true rfl) ?_
          refine wp_eq (st2 := .int ((pI (go = 8 ∨ go = 9))) :: _) rfl ?_
          refine q_if_eq 73 dX0_fillColumn_42 rfl (fun c42 => ?_) (fun c42 => ?_)
          · refine wp_L (L2 := [some (.ref 15), some (.ref 3), some (.int (nI d)), some (.int (nI col)), some (.int (nI go)), some (.int (nI i)), some (.long (rgS go (tg (2 * i)) (carF (z_SV S (4 + 2 * i + d)) 0).toInt64 (rg0 i go))), none, some (.int (0))]) (by unfold rgS; rw [if_neg (c := (go = 8 ∨ go = 9) ∧ tg (2 * i) = go) (by first | exact fun z => pI_0 c42 z.1 | exact fun z => n55 z.2)]) ?_
            refine q_iinc8 (k9 := 1) dX0_fillColumn_73 rfl (Nat.le_of_ble_eq_true rfl) rfl ?_
            refine wp_L (L2 := [some (.ref 15), some (.ref 3), some (.int (nI d)), some (.int (nI col)), some (.int (nI go)), some (.int (nI i)), some (.long (rgS go (tg (2 * i)) (carF (z_SV S (4 + 2 * i + d)) 0).toInt64 (rg0 i go))), none, some (.int (1))]) rfl ?_
            refine q_goto 31 dX0_fillColumn_76 rfl ?_
            refine q_iload dX0_fillColumn_31 rfl ?_
            refine q_iconst (v := 1) dX0_fillColumn_33 rfl ?_
            refine q_icmp_gt 79 dX0_fillColumn_34 rfl (fun c34 => ?_) (fun c34 => ?_)
            · first | exact absurd (by decide) c34 | exact absurd c34 (by decide)
            · refine q_iload dX0_fillColumn_37 rfl ?_
              refine q_callSNv (ν := mX9_isProduct) dX0_fillColumn_39 (List.mem_of_getElem? (i := 0) rfl) vX9_isProduct (c_X9_isProduct hG (s_EQ S (fcF (z_SV S) d col go tg (z_EQ S) i)) (go) (by omega)) rfl rfl (Nat.le_of_ble_eq_true rfl) (Nat.le_of_ble_eq_true rfl) (Nat.le_of_ble_eq_true rfl) 0 (Nat.le_of_ble_eq_true rfl) ?_
              refine wp_eq (st2 := .int ((pI (go = 8 ∨ go = 9))) :: _) rfl ?_
              refine q_if_eq 73 dX0_fillColumn_42 rfl (fun c42 => ?_) (fun c42 => ?_)
              · refine wp_L (L2 := [some (.ref 15), some (.ref 3), some (.int (nI d)), some (.int (nI col)), some (.int (nI go)), some (.int (nI i)), some (.long (rgS go (tg (2 * i + 1)) (carF (z_SV S (4 + 2 * i + d)) 1).toInt64 (rgS go (tg (2 * i)) (carF (z_SV S (4 + 2 * i + d)) 0).toInt64 (rg0 i go)))), none, some (.int (1))]) (by unfold rgS; rw [if_neg (c := (go = 8 ∨ go = 9) ∧ tg (2 * i + 1) = go) (by first | exact fun z => pI_0 c42 z.1 | exact fun z => n55 z.2)]) ?_
                refine q_iinc8 (k9 := 1) dX0_fillColumn_73 rfl (Nat.le_of_ble_eq_true rfl) rfl ?_
                refine wp_L (L2 := [some (.ref 15), some (.ref 3), some (.int (nI d)), some (.int (nI col)), some (.int (nI go)), some (.int (nI i)), some (.long (rgS go (tg (2 * i + 1)) (carF (z_SV S (4 + 2 * i + d)) 1).toInt64 (rgS go (tg (2 * i)) (carF (z_SV S (4 + 2 * i + d)) 0).toInt64 (rg0 i go)))), none, some (.int (2))]) rfl ?_
                refine q_goto 31 dX0_fillColumn_76 rfl ?_
                refine q_iload dX0_fillColumn_31 rfl ?_
                refine q_iconst (v := 1) dX0_fillColumn_33 rfl ?_
                refine q_icmp_gt 79 dX0_fillColumn_34 rfl (fun c34 => ?_) (fun c34 => ?_)
                · refine q_aload_n dX0_fillColumn_79 rfl ?_
                  refine q_get (j := 0) (v := .ref 16) dX0_fillColumn_80 (Nat.le_of_ble_eq_true rfl) rfl rfl iuX0 (Nat.le_of_ble_eq_true rfl) uw_144 rfl rfl ?_
                  refine q_bipush (v := 6) dX0_fillColumn_83 rfl ?_
                  refine q_iload dX0_fillColumn_85 rfl ?_
                  refine q_imul dX0_fillColumn_87 ?_
                  refine q_iload_n dX0_fillColumn_88 rfl ?_
                  refine q_iadd dX0_fillColumn_89 ?_
                  refine q_lload dX0_fillColumn_90 rfl ?_
                  refine q_last (f := (fcF (z_SV S) d col go tg (z_EQ S) i)) dX0_fillColumn_92 (Nat.le_of_ble_eq_true rfl) rfl (((6 * i) + col)) (by simp only [fa_lit, pk_mul, nI_add]) (by omega) (Nat.le_of_ble_eq_true rfl) ?_
                  refine wp_w (u_EQ g _ _) ?_
                  rw [ss_EQ]
                  refine q_iinc5 (k9 := 1) dX0_fillColumn_93 rfl (Nat.le_of_ble_eq_true rfl) rfl ?_
                  refine wp_L (L2 := [some (.ref 15), some (.ref 3), some (.int (nI d)), some (.int (nI col)), some (.int (nI go)), some (.int (nI (i + 1))), some (.long (rgS go (tg (2 * i + 1)) (carF (z_SV S (4 + 2 * i + d)) 1).toInt64 (rgS go (tg (2 * i)) (carF (z_SV S (4 + 2 * i + d)) 0).toInt64 (rg0 i go)))), none, some (.int (2))]) (by rw [show nI i + 1 = nI (i + 1) from nI_1 _]) ?_
                  refine q_goto 3 dX0_fillColumn_96 rfl ?_
                  refine wp_fg (L2 := [some (.ref 15), some (.ref 3), some (.int (nI d)), some (.int (nI col)), some (.int (nI go)), some (.int (nI (i + 1))), none, none, none]) ⟨rfl, rfl, rfl, rfl, rfl, rfl, trivial⟩ ?_
                  refine wp_w (w2 := mixW g (s_EQ S (fcF (z_SV S) d col go tg (z_EQ S) (i + 1)))) rfl ?_
                  exact ih (i + 1) (by omega)
                · first | exact absurd (by decide) c34 | exact absurd c34 (by decide)
              · refine q_aload_n dX0_fillColumn_45 rfl ?_
                refine q_iload dX0_fillColumn_46 rfl ?_
                refine q_iload dX0_fillColumn_48 rfl ?_
                refine q_callVv (ν := mX7_target) dX0_fillColumn_50 uw_343 vX7_target (c_X7_target_3 hG (s_EQ S (fcF (z_SV S) d col go tg (z_EQ S) i)) (i) (1) (by omega)) (Nat.le_of_ble_eq_true rfl) rfl rfl rfl rfl (Nat.le_of_ble_eq_true rfl) (Nat.le_of_ble_eq_true rfl) (Nat.le_of_ble_eq_true rfl) 0 (Nat.le_of_ble_eq_true rfl) ?_
                refine wp_eq (st2 := .int ((presF ((z_SV S) 0) ((z_SV S) (16 + 2 * i + 1)))) :: _) rfl ?_
                refine wp_top (y := nI (tg (2 * i + 1))) (t5 (2 * i + 1) (by omega)).1 ?_
                have tl1 := (t5 (2 * i + 1) (by omega)).2
                refine q_iload dX0_fillColumn_53 rfl ?_
                refine q_icmp_ne 73 dX0_fillColumn_55 rfl (fun c55 => ?_) (fun c55 => ?_)
                · have n55 := mt (nI_eq (a := (tg (2 * i + 1))) (b := go) (by omega) (by omega)).mpr c55
                  refine wp_L (L2 := [some (.ref 15), some (.ref 3), some (.int (nI d)), some (.int (nI col)), some (.int (nI go)), some (.int (nI i)), some (.long (rgS go (tg (2 * i + 1)) (carF (z_SV S (4 + 2 * i + d)) 1).toInt64 (rgS go (tg (2 * i)) (carF (z_SV S (4 + 2 * i + d)) 0).toInt64 (rg0 i go)))), none, some (.int (1))]) (by unfold rgS; rw [if_neg (c := (go = 8 ∨ go = 9) ∧ tg (2 * i + 1) = go) (by first | exact fun z => pI_0 c42 z.1 | exact fun z => n55 z.2)]) ?_
                  refine q_iinc8 (k9 := 1) dX0_fillColumn_73 rfl (Nat.le_of_ble_eq_true rfl) rfl ?_
                  refine wp_L (L2 := [some (.ref 15), some (.ref 3), some (.int (nI d)), some (.int (nI col)), some (.int (nI go)), some (.int (nI i)), some (.long (rgS go (tg (2 * i + 1)) (carF (z_SV S (4 + 2 * i + d)) 1).toInt64 (rgS go (tg (2 * i)) (carF (z_SV S (4 + 2 * i + d)) 0).toInt64 (rg0 i go)))), none, some (.int (2))]) rfl ?_
                  refine q_goto 31 dX0_fillColumn_76 rfl ?_
                  refine q_iload dX0_fillColumn_31 rfl ?_
                  refine q_iconst (v := 1) dX0_fillColumn_33 rfl ?_
                  refine q_icmp_gt 79 dX0_fillColumn_34 rfl (fun c34 => ?_) (fun c34 => ?_)
                  · refine q_aload_n dX0_fillColumn_79 rfl ?_
                    refine q_get (j := 0) (v := .ref 16) dX0_fillColumn_80 (Nat.le_of_ble_eq_true rfl) rfl rfl iuX0 (Nat.le_of_ble_eq_true rfl) uw_144 rfl rfl ?_
                    refine q_bipush (v := 6) dX0_fillColumn_83 rfl ?_
                    refine q_iload dX0_fillColumn_85 rfl ?_
                    refine q_imul dX0_fillColumn_87 ?_
                    refine q_iload_n dX0_fillColumn_88 rfl ?_
                    refine q_iadd dX0_fillColumn_89 ?_
                    refine q_lload dX0_fillColumn_90 rfl ?_
                    refine q_last (f := (fcF (z_SV S) d col go tg (z_EQ S) i)) dX0_fillColumn_92 (Nat.le_of_ble_eq_true rfl) rfl (((6 * i) + col)) (by simp only [fa_lit, pk_mul, nI_add]) (by omega) (Nat.le_of_ble_eq_true rfl) ?_
                    refine wp_w (u_EQ g _ _) ?_
                    rw [ss_EQ]
                    refine q_iinc5 (k9 := 1) dX0_fillColumn_93 rfl (Nat.le_of_ble_eq_true rfl) rfl ?_
                    refine wp_L (L2 := [some (.ref 15), some (.ref 3), some (.int (nI d)), some (.int (nI col)), some (.int (nI go)), some (.int (nI (i + 1))), some (.long (rgS go (tg (2 * i + 1)) (carF (z_SV S (4 + 2 * i + d)) 1).toInt64 (rgS go (tg (2 * i)) (carF (z_SV S (4 + 2 * i + d)) 0).toInt64 (rg0 i go)))), none, some (.int (2))]) (by rw [show nI i + 1 = nI (i + 1) from nI_1 _]) ?_
                    refine q_goto 3 dX0_fillColumn_96 rfl ?_
                    refine wp_fg (L2 := [some (.ref 15), some (.ref 3), some (.int (nI d)), some (.int (nI col)), some (.int (nI go)), some (.int (nI (i + 1))), none, none, none]) ⟨rfl, rfl, rfl, rfl, rfl, rfl, trivial⟩ ?_
                    refine wp_w (w2 := mixW g (s_EQ S (fcF (z_SV S) d col go tg (z_EQ S) (i + 1)))) rfl ?_
                    exact ih (i + 1) (by omega)
                  · first | exact absurd (by decide) c34 | exact absurd c34 (by decide)
                · have n55 := (nI_eq (a := (tg (2 * i + 1))) (b := go) (by omega) (by omega)).mp c55
                  refine q_lload dX0_fillColumn_58 rfl ?_
                  refine q_aload_n dX0_fillColumn_60 rfl ?_
                  refine q_iload dX0_fillColumn_61 rfl ?_
                  refine q_iload_n dX0_fillColumn_63 rfl ?_
                  refine q_iload dX0_fillColumn_64 rfl ?_
                  refine q_callVv (ν := mX7_carried) dX0_fillColumn_66 uw_359 vX7_carried (c_X7_carried_3 hG (s_EQ S (fcF (z_SV S) d col go tg (z_EQ S) i)) (i) (d) (1) (by omega)) (Nat.le_of_ble_eq_true rfl) rfl rfl rfl rfl (Nat.le_of_ble_eq_true rfl) (Nat.le_of_ble_eq_true rfl) (Nat.le_of_ble_eq_true rfl) 0 (Nat.le_of_ble_eq_true rfl) ?_
                  refine wp_eq (st2 := .int ((carF ((z_SV S) (4 + 2 * i + d)) 1)) :: _) rfl ?_
                  refine q_i2l dX0_fillColumn_69 ?_
                  refine q_ladd dX0_fillColumn_70 ?_
                  refine q_lst6 dX0_fillColumn_71 (Nat.le_of_ble_eq_true rfl) rfl ?_
                  refine wp_L (L2 := [some (.ref 15), some (.ref 3), some (.int (nI d)), some (.int (nI col)), some (.int (nI go)), some (.int (nI i)), some (.long (rgS go (tg (2 * i + 1)) (carF (z_SV S (4 + 2 * i + d)) 1).toInt64 (rgS go (tg (2 * i)) (carF (z_SV S (4 + 2 * i + d)) 0).toInt64 (rg0 i go)))), none, some (.int (1))]) (by unfold rgS; rw [if_pos (c := (go = 8 ∨ go = 9) ∧ tg (2 * i + 1) = go) ⟨pI_1 c42, n55⟩]) ?_
                  refine q_iinc8 (k9 := 1) dX0_fillColumn_73 rfl (Nat.le_of_ble_eq_true rfl) rfl ?_
                  refine wp_L (L2 := [some (.ref 15), some (.ref 3), some (.int (nI d)), some (.int (nI col)), some (.int (nI go)), some (.int (nI i)), some (.long (rgS go (tg (2 * i + 1)) (carF (z_SV S (4 + 2 * i + d)) 1).toInt64 (rgS go (tg (2 * i)) (carF (z_SV S (4 + 2 * i + d)) 0).toInt64 (rg0 i go)))), none, some (.int (2))]) rfl ?_
                  refine q_goto 31 dX0_fillColumn_76 rfl ?_
                  refine q_iload dX0_fillColumn_31 rfl ?_
                  refine q_iconst (v := 1) dX0_fillColumn_33 rfl ?_
                  refine q_icmp_gt 79 dX0_fillColumn_34 rfl (fun c34 => ?_) (fun c34 => ?_)
                  · refine q_aload_n dX0_fillColumn_79 rfl ?_
                    refine q_get (j := 0) (v := .ref 16) dX0_fillColumn_80 (Nat.le_of_ble_eq_true rfl) rfl rfl iuX0 (Nat.le_of_ble_eq_true rfl) uw_144 rfl rfl ?_
                    refine q_bipush (v := 6) dX0_fillColumn_83 rfl ?_
                    refine q_iload dX0_fillColumn_85 rfl ?_
                    refine q_imul dX0_fillColumn_87 ?_
                    refine q_iload_n dX0_fillColumn_88 rfl ?_
                    refine q_iadd dX0_fillColumn_89 ?_
                    refine q_lload dX0_fillColumn_90 rfl ?_
                    refine q_last (f := (fcF (z_SV S) d col go tg (z_EQ S) i)) dX0_fillColumn_92 (Nat.le_of_ble_eq_true rfl) rfl (((6 * i) + col)) (by simp only [fa_lit, pk_mul, nI_add]) (by omega) (Nat.le_of_ble_eq_true rfl) ?_
                    refine wp_w (u_EQ g _ _) ?_
                    rw [ss_EQ]
                    refine q_iinc5 (k9 := 1) dX0_fillColumn_93 rfl (Nat.le_of_ble_eq_true rfl) rfl ?_
                    refine wp_L (L2 := [some (.ref 15), some (.ref 3), some (.int (nI d)), some (.int (nI col)), some (.int (nI go)), some (.int (nI (i + 1))), some (.long (rgS go (tg (2 * i + 1)) (carF (z_SV S (4 + 2 * i + d)) 1).toInt64 (rgS go (tg (2 * i)) (carF (z_SV S (4 + 2 * i + d)) 0).toInt64 (rg0 i go)))), none, some (.int (2))]) (by rw [show nI i + 1 = nI (i + 1) from nI_1 _]) ?_
                    refine q_goto 3 dX0_fillColumn_96 rfl ?_
                    refine wp_fg (L2 := [some (.ref 15), some (.ref 3), some (.int (nI d)), some (.int (nI col)), some (.int (nI go)), some (.int (nI (i + 1))), none, none, none]) ⟨rfl, rfl, rfl, rfl, rfl, rfl, trivial⟩ ?_
                    refine wp_w (w2 := mixW g (s_EQ S (fcF (z_SV S) d col go tg (z_EQ S) (i + 1)))) rfl ?_
                    exact ih (i + 1) (by omega)
                  · first | exact absurd (by decide) c34 | exact absurd c34 (by decide)
          · refine q_aload_n dX0_fillColumn_45 rfl ?_
            refine q_iload dX0_fillColumn_46 rfl ?_
            refine q_iload dX0_fillColumn_48 rfl ?_
            refine q_callVv (ν := mX7_target) dX0_fillColumn_50 uw_343 vX7_target (c_X7_target_3 hG (s_EQ S (fcF (z_SV S) d col go tg (z_EQ S) i)) (i) (0) (by omega)) (Nat.le_of_ble_eq_true rfl) rfl rfl rfl rfl (Nat.le_of_ble_eq_true rfl) (Nat.le_of_ble_eq_true rfl) (Nat.le_of_ble_eq_true rfl) 0 (Nat.le_of_ble_eq_true rfl) ?_
            refine wp_eq (st2 := .int ((presF ((z_SV S) 0) ((z_SV S) (16 + 2 * i + 0)))) :: _) rfl ?_
            refine wp_top (y := nI (tg (2 * i))) (t5 (2 * i) (by omega)).1 ?_
            have tl0 := (t5 (2 * i) (by omega)).2
            refine q_iload dX0_fillColumn_53 rfl ?_
            refine q_icmp_ne 73 dX0_fillColumn_55 rfl (fun c55 => ?_) (fun c55 => ?_)
            · have n55 := mt (nI_eq (a := (tg (2 * i))) (b := go) (by omega) (by omega)).mpr c55
              refine wp_L (L2 := [some (.ref 15), some (.ref 3), some (.int (nI d)), some (.int (nI col)), some (.int (nI go)), some (.int (nI i)), some (.long (rgS go (tg (2 * i)) (carF (z_SV S (4 + 2 * i + d)) 0).toInt64 (rg0 i go))), none, some (.int (0))]) (by unfold rgS; rw [if_neg (c := (go = 8 ∨ go = 9) ∧ tg (2 * i) = go) (by first | exact fun z => pI_0 c42 z.1 | exact fun z => n55 z.2)]) ?_
              refine q_iinc8 (k9 := 1) dX0_fillColumn_73 rfl (Nat.le_of_ble_eq_true rfl) rfl ?_
              refine wp_L (L2 := [some (.ref 15), some (.ref 3), some (.int (nI d)), some (.int (nI col)), some (.int (nI go)), some (.int (nI i)), some (.long (rgS go (tg (2 * i)) (carF (z_SV S (4 + 2 * i + d)) 0).toInt64 (rg0 i go))), none, some (.int (1))]) rfl ?_
              refine q_goto 31 dX0_fillColumn_76 rfl ?_
              refine q_iload dX0_fillColumn_31 rfl ?_
              refine q_iconst (v := 1) dX0_fillColumn_33 rfl ?_
              refine q_icmp_gt 79 dX0_fillColumn_34 rfl (fun c34 => ?_) (fun c34 => ?_)
              · first | exact absurd (by decide) c34 | exact absurd c34 (by decide)
              · refine q_iload dX0_fillColumn_37 rfl ?_
                refine q_callSNv (ν := mX9_isProduct) dX0_fillColumn_39 (List.mem_of_getElem? (i := 0) rfl) vX9_isProduct (c_X9_isProduct hG (s_EQ S (fcF (z_SV S) d col go tg (z_EQ S) i)) (go) (by omega)) rfl rfl (Nat.le_of_ble_eq_true rfl) (Nat.le_of_ble_eq_true rfl) (Nat.le_of_ble_eq_true rfl) 0 (Nat.le_of_ble_eq_true rfl) ?_
                refine wp_eq (st2 := .int ((pI (go = 8 ∨ go = 9))) :: _) rfl ?_
                refine q_if_eq 73 dX0_fillColumn_42 rfl (fun c42 => ?_) (fun c42 => ?_)
                · refine wp_L (L2 := [some (.ref 15), some (.ref 3), some (.int (nI d)), some (.int (nI col)), some (.int (nI go)), some (.int (nI i)), some (.long (rgS go (tg (2 * i + 1)) (carF (z_SV S (4 + 2 * i + d)) 1).toInt64 (rgS go (tg (2 * i)) (carF (z_SV S (4 + 2 * i + d)) 0).toInt64 (rg0 i go)))), none, some (.int (1))]) (by unfold rgS; rw [if_neg (c := (go = 8 ∨ go = 9) ∧ tg (2 * i + 1) = go) (by first | exact fun z => pI_0 c42 z.1 | exact fun z => n55 z.2)]) ?_
                  refine q_iinc8 (k9 := 1) dX0_fillColumn_73 rfl (Nat.le_of_ble_eq_true rfl) rfl ?_
                  refine wp_L (L2 := [some (.ref 15), some (.ref 3), some (.int (nI d)), some (.int (nI col)), some (.int (nI go)), some (.int (nI i)), some (.long (rgS go (tg (2 * i + 1)) (carF (z_SV S (4 + 2 * i + d)) 1).toInt64 (rgS go (tg (2 * i)) (carF (z_SV S (4 + 2 * i + d)) 0).toInt64 (rg0 i go)))), none, some (.int (2))]) rfl ?_
                  refine q_goto 31 dX0_fillColumn_76 rfl ?_
                  refine q_iload dX0_fillColumn_31 rfl ?_
                  refine q_iconst (v := 1) dX0_fillColumn_33 rfl ?_
                  refine q_icmp_gt 79 dX0_fillColumn_34 rfl (fun c34 => ?_) (fun c34 => ?_)
                  · refine q_aload_n dX0_fillColumn_79 rfl ?_
                    refine q_get (j := 0) (v := .ref 16) dX0_fillColumn_80 (Nat.le_of_ble_eq_true rfl) rfl rfl iuX0 (Nat.le_of_ble_eq_true rfl) uw_144 rfl rfl ?_
                    refine q_bipush (v := 6) dX0_fillColumn_83 rfl ?_
                    refine q_iload dX0_fillColumn_85 rfl ?_
                    refine q_imul dX0_fillColumn_87 ?_
                    refine q_iload_n dX0_fillColumn_88 rfl ?_
                    refine q_iadd dX0_fillColumn_89 ?_
                    refine q_lload dX0_fillColumn_90 rfl ?_
                    refine q_last (f := (fcF (z_SV S) d col go tg (z_EQ S) i)) dX0_fillColumn_92 (Nat.le_of_ble_eq_true rfl) rfl (((6 * i) + col)) (by simp only [fa_lit, pk_mul, nI_add]) (by omega) (Nat.le_of_ble_eq_true rfl) ?_
                    refine wp_w (u_EQ g _ _) ?_
                    rw [ss_EQ]
                    refine q_iinc5 (k9 := 1) dX0_fillColumn_93 rfl (Nat.le_of_ble_eq_true rfl) rfl ?_
                    refine wp_L (L2 := [some (.ref 15), some (.ref 3), some (.int (nI d)), some (.int (nI col)), some (.int (nI go)), some (.int (nI (i + 1))), some (.long (rgS go (tg (2 * i + 1)) (carF (z_SV S (4 + 2 * i + d)) 1).toInt64 (rgS go (tg (2 * i)) (carF (z_SV S (4 + 2 * i + d)) 0).toInt64 (rg0 i go)))), none, some (.int (2))]) (by rw [show nI i + 1 = nI (i + 1) from nI_1 _]) ?_
                    refine q_goto 3 dX0_fillColumn_96 rfl ?_
                    refine wp_fg (L2 := [some (.ref 15), some (.ref 3), some (.int (nI d)), some (.int (nI col)), some (.int (nI go)), some (.int (nI (i + 1))), none, none, none]) ⟨rfl, rfl, rfl, rfl, rfl, rfl, trivial⟩ ?_
                    refine wp_w (w2 := mixW g (s_EQ S (fcF (z_SV S) d col go tg (z_EQ S) (i + 1)))) rfl ?_
                    exact ih (i + 1) (by omega)
                  · first | exact absurd (by decide) c34 | exact absurd c34 (by decide)
                · refine q_aload_n dX0_fillColumn_45 rfl ?_
                  refine q_iload dX0_fillColumn_46 rfl ?_
                  refine q_iload dX0_fillColumn_48 rfl ?_
                  refine q_callVv (ν := mX7_target) dX0_fillColumn_50 uw_343 vX7_target (c_X7_target_3 hG (s_EQ S (fcF (z_SV S) d col go tg (z_EQ S) i)) (i) (1) (by omega)) (Nat.le_of_ble_eq_true rfl) rfl rfl rfl rfl (Nat.le_of_ble_eq_true rfl) (Nat.le_of_ble_eq_true rfl) (Nat.le_of_ble_eq_true rfl) 0 (Nat.le_of_ble_eq_true rfl) ?_
                  refine wp_eq (st2 := .int ((presF ((z_SV S) 0) ((z_SV S) (16 + 2 * i + 1)))) :: _) rfl ?_
                  refine wp_top (y := nI (tg (2 * i + 1))) (t5 (2 * i + 1) (by omega)).1 ?_
                  have tl1 := (t5 (2 * i + 1) (by omega)).2
                  refine q_iload dX0_fillColumn_53 rfl ?_
                  refine q_icmp_ne 73 dX0_fillColumn_55 rfl (fun c55 => ?_) (fun c55 => ?_)
                  · have n55 := mt (nI_eq (a := (tg (2 * i + 1))) (b := go) (by omega) (by omega)).mpr c55
                    refine wp_L (L2 := [some (.ref 15), some (.ref 3), some (.int (nI d)), some (.int (nI col)), some (.int (nI go)), some (.int (nI i)), some (.long (rgS go (tg (2 * i + 1)) (carF (z_SV S (4 + 2 * i + d)) 1).toInt64 (rgS go (tg (2 * i)) (carF (z_SV S (4 + 2 * i + d)) 0).toInt64 (rg0 i go)))), none, some (.int (1))]) (by unfold rgS; rw [if_neg (c := (go = 8 ∨ go = 9) ∧ tg (2 * i + 1) = go) (by first | exact fun z => pI_0 c42 z.1 | exact fun z => n55 z.2)]) ?_
                    refine q_iinc8 (k9 := 1) dX0_fillColumn_73 rfl (Nat.le_of_ble_eq_true rfl) rfl ?_
                    refine wp_L (L2 := [some (.ref 15), some (.ref 3), some (.int (nI d)), some (.int (nI col)), some (.int (nI go)), some (.int (nI i)), some (.long (rgS go (tg (2 * i + 1)) (carF (z_SV S (4 + 2 * i + d)) 1).toInt64 (rgS go (tg (2 * i)) (carF (z_SV S (4 + 2 * i + d)) 0).toInt64 (rg0 i go)))), none, some (.int (2))]) rfl ?_
                    refine q_goto 31 dX0_fillColumn_76 rfl ?_
                    refine q_iload dX0_fillColumn_31 rfl ?_
                    refine q_iconst (v := 1) dX0_fillColumn_33 rfl ?_
                    refine q_icmp_gt 79 dX0_fillColumn_34 rfl (fun c34 => ?_) (fun c34 => ?_)
                    · refine q_aload_n dX0_fillColumn_79 rfl ?_
                      refine q_get (j := 0) (v := .ref 16) dX0_fillColumn_80 (Nat.le_of_ble_eq_true rfl) rfl rfl iuX0 (Nat.le_of_ble_eq_true rfl) uw_144 rfl rfl ?_
                      refine q_bipush (v := 6) dX0_fillColumn_83 rfl ?_
                      refine q_iload dX0_fillColumn_85 rfl ?_
                      refine q_imul dX0_fillColumn_87 ?_
                      refine q_iload_n dX0_fillColumn_88 rfl ?_
                      refine q_iadd dX0_fillColumn_89 ?_
                      refine q_lload dX0_fillColumn_90 rfl ?_
                      refine q_last (f := (fcF (z_SV S) d col go tg (z_EQ S) i)) dX0_fillColumn_92 (Nat.le_of_ble_eq_true rfl) rfl (((6 * i) + col)) (by simp only [fa_lit, pk_mul, nI_add]) (by omega) (Nat.le_of_ble_eq_true rfl) ?_
                      refine wp_w (u_EQ g _ _) ?_
                      rw [ss_EQ]
                      refine q_iinc5 (k9 := 1) dX0_fillColumn_93 rfl (Nat.le_of_ble_eq_true rfl) rfl ?_
                      refine wp_L (L2 := [some (.ref 15), some (.ref 3), some (.int (nI d)), some (.int (nI col)), some (.int (nI go)), some (.int (nI (i + 1))), some (.long (rgS go (tg (2 * i + 1)) (carF (z_SV S (4 + 2 * i + d)) 1).toInt64 (rgS go (tg (2 * i)) (carF (z_SV S (4 + 2 * i + d)) 0).toInt64 (rg0 i go)))), none, some (.int (2))]) (by rw [show nI i + 1 = nI (i + 1) from nI_1 _]) ?_
                      refine q_goto 3 dX0_fillColumn_96 rfl ?_
                      refine wp_fg (L2 := [some (.ref 15), some (.ref 3), some (.int (nI d)), some (.int (nI col)), some (.int (nI go)), some (.int (nI (i + 1))), none, none, none]) ⟨rfl, rfl, rfl, rfl, rfl, rfl, trivial⟩ ?_
                      refine wp_w (w2 := mixW g (s_EQ S (fcF (z_SV S) d col go tg (z_EQ S) (i + 1)))) rfl ?_
                      exact ih (i + 1) (by omega)
                    · first | exact absurd (by decide) c34 | exact absurd c34 (by decide)
                  · have n55 := (nI_eq (a := (tg (2 * i + 1))) (b := go) (by omega) (by omega)).mp c55
                    refine q_lload dX0_fillColumn_58 rfl ?_
                    refine q_aload_n dX0_fillColumn_60 rfl ?_
                    refine q_iload dX0_fillColumn_61 rfl ?_
                    refine q_iload_n dX0_fillColumn_63 rfl ?_
                    refine q_iload dX0_fillColumn_64 rfl ?_
                    refine q_callVv (ν := mX7_carried) dX0_fillColumn_66 uw_359 vX7_carried (c_X7_carried_3 hG (s_EQ S (fcF (z_SV S) d col go tg (z_EQ S) i)) (i) (d) (1) (by omega)) (Nat.le_of_ble_eq_true rfl) rfl rfl rfl rfl (Nat.le_of_ble_eq_true rfl) (Nat.le_of_ble_eq_true rfl) (Nat.le_of_ble_eq_true rfl) 0 (Nat.le_of_ble_eq_true rfl) ?_
                    refine wp_eq (st2 := .int ((carF ((z_SV S) (4 + 2 * i + d)) 1)) :: _) rfl ?_
                    refine q_i2l dX0_fillColumn_69 ?_
                    refine q_ladd dX0_fillColumn_70 ?_
                    refine q_lst6 dX0_fillColumn_71 (Nat.le_of_ble_eq_true rfl) rfl ?_
                    refine wp_L (L2 := [some (.ref 15), some (.ref 3), some (.int (nI d)), some (.int (nI col)), some (.int (nI go)), some (.int (nI i)), some (.long (rgS go (tg (2 * i + 1)) (carF (z_SV S (4 + 2 * i + d)) 1).toInt64 (rgS go (tg (2 * i)) (carF (z_SV S (4 + 2 * i + d)) 0).toInt64 (rg0 i go)))), none, some (.int (1))]) (by unfold rgS; rw [if_pos (c := (go = 8 ∨ go = 9) ∧ tg (2 * i + 1) = go) ⟨pI_1 c42, n55⟩]) ?_
                    refine q_iinc8 (k9 := 1) dX0_fillColumn_73 rfl (Nat.le_of_ble_eq_true rfl) rfl ?_
                    refine wp_L (L2 := [some (.ref 15), some (.ref 3), some (.int (nI d)), some (.int (nI col)), some (.int (nI go)), some (.int (nI i)), some (.long (rgS go (tg (2 * i + 1)) (carF (z_SV S (4 + 2 * i + d)) 1).toInt64 (rgS go (tg (2 * i)) (carF (z_SV S (4 + 2 * i + d)) 0).toInt64 (rg0 i go)))), none, some (.int (2))]) rfl ?_
                    refine q_goto 31 dX0_fillColumn_76 rfl ?_
                    refine q_iload dX0_fillColumn_31 rfl ?_
                    refine q_iconst (v := 1) dX0_fillColumn_33 rfl ?_
                    refine q_icmp_gt 79 dX0_fillColumn_34 rfl (fun c34 => ?_) (fun c34 => ?_)
                    · refine q_aload_n dX0_fillColumn_79 rfl ?_
                      refine q_get (j := 0) (v := .ref 16) dX0_fillColumn_80 (Nat.le_of_ble_eq_true rfl) rfl rfl iuX0 (Nat.le_of_ble_eq_true rfl) uw_144 rfl rfl ?_
                      refine q_bipush (v := 6) dX0_fillColumn_83 rfl ?_
                      refine q_iload dX0_fillColumn_85 rfl ?_
                      refine q_imul dX0_fillColumn_87 ?_
                      refine q_iload_n dX0_fillColumn_88 rfl ?_
                      refine q_iadd dX0_fillColumn_89 ?_
                      refine q_lload dX0_fillColumn_90 rfl ?_
                      refine q_last (f := (fcF (z_SV S) d col go tg (z_EQ S) i)) dX0_fillColumn_92 (Nat.le_of_ble_eq_true rfl) rfl (((6 * i) + col)) (by simp only [fa_lit, pk_mul, nI_add]) (by omega) (Nat.le_of_ble_eq_true rfl) ?_
                      refine wp_w (u_EQ g _ _) ?_
                      rw [ss_EQ]
                      refine q_iinc5 (k9 := 1) dX0_fillColumn_93 rfl (Nat.le_of_ble_eq_true rfl) rfl ?_
                      refine wp_L (L2 := [some (.ref 15), some (.ref 3), some (.int (nI d)), some (.int (nI col)), some (.int (nI go)), some (.int (nI (i + 1))), some (.long (rgS go (tg (2 * i + 1)) (carF (z_SV S (4 + 2 * i + d)) 1).toInt64 (rgS go (tg (2 * i)) (carF (z_SV S (4 + 2 * i + d)) 0).toInt64 (rg0 i go)))), none, some (.int (2))]) (by rw [show nI i + 1 = nI (i + 1) from nI_1 _]) ?_
                      refine q_goto 3 dX0_fillColumn_96 rfl ?_
                      refine wp_fg (L2 := [some (.ref 15), some (.ref 3), some (.int (nI d)), some (.int (nI col)), some (.int (nI go)), some (.int (nI (i + 1))), none, none, none]) ⟨rfl, rfl, rfl, rfl, rfl, rfl, trivial⟩ ?_
                      refine wp_w (w2 := mixW g (s_EQ S (fcF (z_SV S) d col go tg (z_EQ S) (i + 1)))) rfl ?_
                      exact ih (i + 1) (by omega)
                    · first | exact absurd (by decide) c34 | exact absurd c34 (by decide)
            · have n55 := (nI_eq (a := (tg (2 * i))) (b := go) (by omega) (by omega)).mp c55
              refine q_lload dX0_fillColumn_58 rfl ?_
              refine q_aload_n dX0_fillColumn_60 rfl ?_
              refine q_iload dX0_fillColumn_61 rfl ?_
              refine q_iload_n dX0_fillColumn_63 rfl ?_
              refine q_iload dX0_fillColumn_64 rfl ?_
              refine q_callVv (ν := mX7_carried) dX0_fillColumn_66 uw_359 vX7_carried (c_X7_carried_3 hG (s_EQ S (fcF (z_SV S) d col go tg (z_EQ S) i)) (i) (d) (0) (by omega)) (Nat.le_of_ble_eq_true rfl) rfl rfl rfl rfl (Nat.le_of_ble_eq_true rfl) (Nat.le_of_ble_eq_true rfl) (Nat.le_of_ble_eq_true rfl) 0 (Nat.le_of_ble_eq_true rfl) ?_
              refine wp_eq (st2 := .int ((carF ((z_SV S) (4 + 2 * i + d)) 0)) :: _) rfl ?_
              refine q_i2l dX0_fillColumn_69 ?_
              refine q_ladd dX0_fillColumn_70 ?_
              refine q_lst6 dX0_fillColumn_71 (Nat.le_of_ble_eq_true rfl) rfl ?_
              refine wp_L (L2 := [some (.ref 15), some (.ref 3), some (.int (nI d)), some (.int (nI col)), some (.int (nI go)), some (.int (nI i)), some (.long (rgS go (tg (2 * i)) (carF (z_SV S (4 + 2 * i + d)) 0).toInt64 (rg0 i go))), none, some (.int (0))]) (by unfold rgS; rw [if_pos (c := (go = 8 ∨ go = 9) ∧ tg (2 * i) = go) ⟨pI_1 c42, n55⟩]) ?_
              refine q_iinc8 (k9 := 1) dX0_fillColumn_73 rfl (Nat.le_of_ble_eq_true rfl) rfl ?_
              refine wp_L (L2 := [some (.ref 15), some (.ref 3), some (.int (nI d)), some (.int (nI col)), some (.int (nI go)), some (.int (nI i)), some (.long (rgS go (tg (2 * i)) (carF (z_SV S (4 + 2 * i + d)) 0).toInt64 (rg0 i go))), none, some (.int (1))]) rfl ?_
              refine q_goto 31 dX0_fillColumn_76 rfl ?_
              refine q_iload dX0_fillColumn_31 rfl ?_
              refine q_iconst (v := 1) dX0_fillColumn_33 rfl ?_
              refine q_icmp_gt 79 dX0_fillColumn_34 rfl (fun c34 => ?_) (fun c34 => ?_)
              · first | exact absurd (by decide) c34 | exact absurd c34 (by decide)
              · refine q_iload dX0_fillColumn_37 rfl ?_
                refine q_callSNv (ν := mX9_isProduct) dX0_fillColumn_39 (List.mem_of_getElem? (i := 0) rfl) vX9_isProduct (c_X9_isProduct hG (s_EQ S (fcF (z_SV S) d col go tg (z_EQ S) i)) (go) (by omega)) rfl rfl (Nat.le_of_ble_eq_true rfl) (Nat.le_of_ble_eq_true rfl) (Nat.le_of_ble_eq_true rfl) 0 (Nat.le_of_ble_eq_true rfl) ?_
                refine wp_eq (st2 := .int ((pI (go = 8 ∨ go = 9))) :: _) rfl ?_
                refine q_if_eq 73 dX0_fillColumn_42 rfl (fun c42 => ?_) (fun c42 => ?_)
                · refine wp_L (L2 := [some (.ref 15), some (.ref 3), some (.int (nI d)), some (.int (nI col)), some (.int (nI go)), some (.int (nI i)), some (.long (rgS go (tg (2 * i + 1)) (carF (z_SV S (4 + 2 * i + d)) 1).toInt64 (rgS go (tg (2 * i)) (carF (z_SV S (4 + 2 * i + d)) 0).toInt64 (rg0 i go)))), none, some (.int (1))]) (by unfold rgS; rw [if_neg (c := (go = 8 ∨ go = 9) ∧ tg (2 * i + 1) = go) (by first | exact fun z => pI_0 c42 z.1 | exact fun z => n55 z.2)]) ?_
                  refine q_iinc8 (k9 := 1) dX0_fillColumn_73 rfl (Nat.le_of_ble_eq_true rfl) rfl ?_
                  refine wp_L (L2 := [some (.ref 15), some (.ref 3), some (.int (nI d)), some (.int (nI col)), some (.int (nI go)), some (.int (nI i)), some (.long (rgS go (tg (2 * i + 1)) (carF (z_SV S (4 + 2 * i + d)) 1).toInt64 (rgS go (tg (2 * i)) (carF (z_SV S (4 + 2 * i + d)) 0).toInt64 (rg0 i go)))), none, some (.int (2))]) rfl ?_
                  refine q_goto 31 dX0_fillColumn_76 rfl ?_
                  refine q_iload dX0_fillColumn_31 rfl ?_
                  refine q_iconst (v := 1) dX0_fillColumn_33 rfl ?_
                  refine q_icmp_gt 79 dX0_fillColumn_34 rfl (fun c34 => ?_) (fun c34 => ?_)
                  · refine q_aload_n dX0_fillColumn_79 rfl ?_
                    refine q_get (j := 0) (v := .ref 16) dX0_fillColumn_80 (Nat.le_of_ble_eq_true rfl) rfl rfl iuX0 (Nat.le_of_ble_eq_true rfl) uw_144 rfl rfl ?_
                    refine q_bipush (v := 6) dX0_fillColumn_83 rfl ?_
                    refine q_iload dX0_fillColumn_85 rfl ?_
                    refine q_imul dX0_fillColumn_87 ?_
                    refine q_iload_n dX0_fillColumn_88 rfl ?_
                    refine q_iadd dX0_fillColumn_89 ?_
                    refine q_lload dX0_fillColumn_90 rfl ?_
                    refine q_last (f := (fcF (z_SV S) d col go tg (z_EQ S) i)) dX0_fillColumn_92 (Nat.le_of_ble_eq_true rfl) rfl (((6 * i) + col)) (by simp only [fa_lit, pk_mul, nI_add]) (by omega) (Nat.le_of_ble_eq_true rfl) ?_
                    refine wp_w (u_EQ g _ _) ?_
                    rw [ss_EQ]
                    refine q_iinc5 (k9 := 1) dX0_fillColumn_93 rfl (Nat.le_of_ble_eq_true rfl) rfl ?_
                    refine wp_L (L2 := [some (.ref 15), some (.ref 3), some (.int (nI d)), some (.int (nI col)), some (.int (nI go)), some (.int (nI (i + 1))), some (.long (rgS go (tg (2 * i + 1)) (carF (z_SV S (4 + 2 * i + d)) 1).toInt64 (rgS go (tg (2 * i)) (carF (z_SV S (4 + 2 * i + d)) 0).toInt64 (rg0 i go)))), none, some (.int (2))]) (by rw [show nI i + 1 = nI (i + 1) from nI_1 _]) ?_
                    refine q_goto 3 dX0_fillColumn_96 rfl ?_
                    refine wp_fg (L2 := [some (.ref 15), some (.ref 3), some (.int (nI d)), some (.int (nI col)), some (.int (nI go)), some (.int (nI (i + 1))), none, none, none]) ⟨rfl, rfl, rfl, rfl, rfl, rfl, trivial⟩ ?_
                    refine wp_w (w2 := mixW g (s_EQ S (fcF (z_SV S) d col go tg (z_EQ S) (i + 1)))) rfl ?_
                    exact ih (i + 1) (by omega)
                  · first | exact absurd (by decide) c34 | exact absurd c34 (by decide)
                · refine q_aload_n dX0_fillColumn_45 rfl ?_
                  refine q_iload dX0_fillColumn_46 rfl ?_
                  refine q_iload dX0_fillColumn_48 rfl ?_
                  refine q_callVv (ν := mX7_target) dX0_fillColumn_50 uw_343 vX7_target (c_X7_target_3 hG (s_EQ S (fcF (z_SV S) d col go tg (z_EQ S) i)) (i) (1) (by omega)) (Nat.le_of_ble_eq_true rfl) rfl rfl rfl rfl (Nat.le_of_ble_eq_true rfl) (Nat.le_of_ble_eq_true rfl) (Nat.le_of_ble_eq_true rfl) 0 (Nat.le_of_ble_eq_true rfl) ?_
                  refine wp_eq (st2 := .int ((presF ((z_SV S) 0) ((z_SV S) (16 + 2 * i + 1)))) :: _) rfl ?_
                  refine wp_top (y := nI (tg (2 * i + 1))) (t5 (2 * i + 1) (by omega)).1 ?_
                  have tl1 := (t5 (2 * i + 1) (by omega)).2
                  refine q_iload dX0_fillColumn_53 rfl ?_
                  refine q_icmp_ne 73 dX0_fillColumn_55 rfl (fun c55 => ?_) (fun c55 => ?_)
                  · have n55 := mt (nI_eq (a := (tg (2 * i + 1))) (b := go) (by omega) (by omega)).mpr c55
                    refine wp_L (L2 := [some (.ref 15), some (.ref 3), some (.int (nI d)), some (.int (nI col)), some (.int (nI go)), some (.int (nI i)), some (.long (rgS go (tg (2 * i + 1)) (carF (z_SV S (4 + 2 * i + d)) 1).toInt64 (rgS go (tg (2 * i)) (carF (z_SV S (4 + 2 * i + d)) 0).toInt64 (rg0 i go)))), none, some (.int (1))]) (by unfold rgS; rw [if_neg (c := (go = 8 ∨ go = 9) ∧ tg (2 * i + 1) = go) (by first | exact fun z => pI_0 c42 z.1 | exact fun z => n55 z.2)]) ?_
                    refine q_iinc8 (k9 := 1) dX0_fillColumn_73 rfl (Nat.le_of_ble_eq_true rfl) rfl ?_
                    refine wp_L (L2 := [some (.ref 15), some (.ref 3), some (.int (nI d)), some (.int (nI col)), some (.int (nI go)), some (.int (nI i)), some (.long (rgS go (tg (2 * i + 1)) (carF (z_SV S (4 + 2 * i + d)) 1).toInt64 (rgS go (tg (2 * i)) (carF (z_SV S (4 + 2 * i + d)) 0).toInt64 (rg0 i go)))), none, some (.int (2))]) rfl ?_
                    refine q_goto 31 dX0_fillColumn_76 rfl ?_
                    refine q_iload dX0_fillColumn_31 rfl ?_
                    refine q_iconst (v := 1) dX0_fillColumn_33 rfl ?_
                    refine q_icmp_gt 79 dX0_fillColumn_34 rfl (fun c34 => ?_) (fun c34 => ?_)
                    · refine q_aload_n dX0_fillColumn_79 rfl ?_
                      refine q_get (j := 0) (v := .ref 16) dX0_fillColumn_80 (Nat.le_of_ble_eq_true rfl) rfl rfl iuX0 (Nat.le_of_ble_eq_true rfl) uw_144 rfl rfl ?_
                      refine q_bipush (v := 6) dX0_fillColumn_83 rfl ?_
                      refine q_iload dX0_fillColumn_85 rfl ?_
                      refine q_imul dX0_fillColumn_87 ?_
                      refine q_iload_n dX0_fillColumn_88 rfl ?_
                      refine q_iadd dX0_fillColumn_89 ?_
                      refine q_lload dX0_fillColumn_90 rfl ?_
                      refine q_last (f := (fcF (z_SV S) d col go tg (z_EQ S) i)) dX0_fillColumn_92 (Nat.le_of_ble_eq_true rfl) rfl (((6 * i) + col)) (by simp only [fa_lit, pk_mul, nI_add]) (by omega) (Nat.le_of_ble_eq_true rfl) ?_
                      refine wp_w (u_EQ g _ _) ?_
                      rw [ss_EQ]
                      refine q_iinc5 (k9 := 1) dX0_fillColumn_93 rfl (Nat.le_of_ble_eq_true rfl) rfl ?_
                      refine wp_L (L2 := [some (.ref 15), some (.ref 3), some (.int (nI d)), some (.int (nI col)), some (.int (nI go)), some (.int (nI (i + 1))), some (.long (rgS go (tg (2 * i + 1)) (carF (z_SV S (4 + 2 * i + d)) 1).toInt64 (rgS go (tg (2 * i)) (carF (z_SV S (4 + 2 * i + d)) 0).toInt64 (rg0 i go)))), none, some (.int (2))]) (by rw [show nI i + 1 = nI (i + 1) from nI_1 _]) ?_
                      refine q_goto 3 dX0_fillColumn_96 rfl ?_
                      refine wp_fg (L2 := [some (.ref 15), some (.ref 3), some (.int (nI d)), some (.int (nI col)), some (.int (nI go)), some (.int (nI (i + 1))), none, none, none]) ⟨rfl, rfl, rfl, rfl, rfl, rfl, trivial⟩ ?_
                      refine wp_w (w2 := mixW g (s_EQ S (fcF (z_SV S) d col go tg (z_EQ S) (i + 1)))) rfl ?_
                      exact ih (i + 1) (by omega)
                    · first | exact absurd (by decide) c34 | exact absurd c34 (by decide)
                  · have n55 := (nI_eq (a := (tg (2 * i + 1))) (b := go) (by omega) (by omega)).mp c55
                    refine q_lload dX0_fillColumn_58 rfl ?_
                    refine q_aload_n dX0_fillColumn_60 rfl ?_
                    refine q_iload dX0_fillColumn_61 rfl ?_
                    refine q_iload_n dX0_fillColumn_63 rfl ?_
                    refine q_iload dX0_fillColumn_64 rfl ?_
                    refine q_callVv (ν := mX7_carried) dX0_fillColumn_66 uw_359 vX7_carried (c_X7_carried_3 hG (s_EQ S (fcF (z_SV S) d col go tg (z_EQ S) i)) (i) (d) (1) (by omega)) (Nat.le_of_ble_eq_true rfl) rfl rfl rfl rfl (Nat.le_of_ble_eq_true rfl) (Nat.le_of_ble_eq_true rfl) (Nat.le_of_ble_eq_true rfl) 0 (Nat.le_of_ble_eq_true rfl) ?_
                    refine wp_eq (st2 := .int ((carF ((z_SV S) (4 + 2 * i + d)) 1)) :: _) rfl ?_
                    refine q_i2l dX0_fillColumn_69 ?_
                    refine q_ladd dX0_fillColumn_70 ?_
                    refine q_lst6 dX0_fillColumn_71 (Nat.le_of_ble_eq_true rfl) rfl ?_
                    refine wp_L (L2 := [some (.ref 15), some (.ref 3), some (.int (nI d)), some (.int (nI col)), some (.int (nI go)), some (.int (nI i)), some (.long (rgS go (tg (2 * i + 1)) (carF (z_SV S (4 + 2 * i + d)) 1).toInt64 (rgS go (tg (2 * i)) (carF (z_SV S (4 + 2 * i + d)) 0).toInt64 (rg0 i go)))), none, some (.int (1))]) (by unfold rgS; rw [if_pos (c := (go = 8 ∨ go = 9) ∧ tg (2 * i + 1) = go) ⟨pI_1 c42, n55⟩]) ?_
                    refine q_iinc8 (k9 := 1) dX0_fillColumn_73 rfl (Nat.le_of_ble_eq_true rfl) rfl ?_
                    refine wp_L (L2 := [some (.ref 15), some (.ref 3), some (.int (nI d)), some (.int (nI col)), some (.int (nI go)), some (.int (nI i)), some (.long (rgS go (tg (2 * i + 1)) (carF (z_SV S (4 + 2 * i + d)) 1).toInt64 (rgS go (tg (2 * i)) (carF (z_SV S (4 + 2 * i + d)) 0).toInt64 (rg0 i go)))), none, some (.int (2))]) rfl ?_
                    refine q_goto 31 dX0_fillColumn_76 rfl ?_
                    refine q_iload dX0_fillColumn_31 rfl ?_
                    refine q_iconst (v := 1) dX0_fillColumn_33 rfl ?_
                    refine q_icmp_gt 79 dX0_fillColumn_34 rfl (fun c34 => ?_) (fun c34 => ?_)
                    · refine q_aload_n dX0_fillColumn_79 rfl ?_
                      refine q_get (j := 0) (v := .ref 16) dX0_fillColumn_80 (Nat.le_of_ble_eq_true rfl) rfl rfl iuX0 (Nat.le_of_ble_eq_true rfl) uw_144 rfl rfl ?_
                      refine q_bipush (v := 6) dX0_fillColumn_83 rfl ?_
                      refine q_iload dX0_fillColumn_85 rfl ?_
                      refine q_imul dX0_fillColumn_87 ?_
                      refine q_iload_n dX0_fillColumn_88 rfl ?_
                      refine q_iadd dX0_fillColumn_89 ?_
                      refine q_lload dX0_fillColumn_90 rfl ?_
                      refine q_last (f := (fcF (z_SV S) d col go tg (z_EQ S) i)) dX0_fillColumn_92 (Nat.le_of_ble_eq_true rfl) rfl (((6 * i) + col)) (by simp only [fa_lit, pk_mul, nI_add]) (by omega) (Nat.le_of_ble_eq_true rfl) ?_
                      refine wp_w (u_EQ g _ _) ?_
                      rw [ss_EQ]
                      refine q_iinc5 (k9 := 1) dX0_fillColumn_93 rfl (Nat.le_of_ble_eq_true rfl) rfl ?_
                      refine wp_L (L2 := [some (.ref 15), some (.ref 3), some (.int (nI d)), some (.int (nI col)), some (.int (nI go)), some (.int (nI (i + 1))), some (.long (rgS go (tg (2 * i + 1)) (carF (z_SV S (4 + 2 * i + d)) 1).toInt64 (rgS go (tg (2 * i)) (carF (z_SV S (4 + 2 * i + d)) 0).toInt64 (rg0 i go)))), none, some (.int (2))]) (by rw [show nI i + 1 = nI (i + 1) from nI_1 _]) ?_
                      refine q_goto 3 dX0_fillColumn_96 rfl ?_
                      refine wp_fg (L2 := [some (.ref 15), some (.ref 3), some (.int (nI d)), some (.int (nI col)), some (.int (nI go)), some (.int (nI (i + 1))), none, none, none]) ⟨rfl, rfl, rfl, rfl, rfl, rfl, trivial⟩ ?_
                      refine wp_w (w2 := mixW g (s_EQ S (fcF (z_SV S) d col go tg (z_EQ S) (i + 1)))) rfl ?_
                      exact ih (i + 1) (by omega)
                    · first | exact absurd (by decide) c34 | exact absurd c34 (by decide)
set_option maxRecDepth 100000 in
set_option maxHeartbeats 4000000 in
theorem c_X0_fillC_3 {g : G0} (hG : Gd g) (S : SS) (d : Nat) (col : Nat) (go : Nat) (ft : Nat) (N : Nat) (tg : Nat → Nat) (h1 : d < 2) (h2 : col < 6) (h3 : go < 10) (h4 : tgts (z_SV S) N ft tg) : ctu g mX0_fillColumn [.ref 15, .ref 3, .int (nI d), .int (nI col), .int (nI go)] (mixW g S) (mixW g (s_EQ S (fcF (z_SV S) d col go tg (z_EQ S) N))) := by
  refine ct_of hG [some (.ref 15), some (.ref 3), some (.int (nI d)), some (.int (nI col)), some (.int (nI go)), none, none, none, none] rfl rfl rfl (Nat.le_of_ble_eq_true rfl) (fun h => ?_) rfl
  refine q_iconst (v := 0) dX0_fillColumn_0 rfl ?_
  refine q_ist5 dX0_fillColumn_1 (Nat.le_of_ble_eq_true rfl) rfl ?_
  refine wp_w (w2 := mixW g (s_EQ S (fcF (z_SV S) d col go tg (z_EQ S) 0))) (by rw [show fcF (z_SV S) d col go tg (z_EQ S) 0 = z_EQ S from rfl, se_EQ]) ?_
  refine l_X0_fillC_3 hG S d col go ft N tg h1 h2 h3 h4 ?_ N 0 (by omega)
  exact q_vret dX0_fillColumn_99 rfl ⟨rfl, rfl⟩
set_option maxRecDepth 100000 in
set_option maxHeartbeats 4000000 in
theorem l_X0_fillE_5 {g : G0} {h : G1} (hG : Gd g) (S : SS) {Q : State → Prop} (d ft N : Nat) (tg : Nat → Nat) (hd : d < 2) (ht : tgts (z_TV S) N ft tg) (k : wp g h mX0_fillEquations (mixW g (s_EQ S (eqF (z_TV S) d N tg (z_EQ S) N))) [some (.ref 15), some (.ref 5), some (.int (nI d)), some (.int (nI N)), none, none] [] 0 Q 95) : ∀ (n i : Nat), i + n = N → wp g h mX0_fillEquations (mixW g (s_EQ S (eqF (z_TV S) d N tg (z_EQ S) i))) [some (.ref 15), some (.ref 5), some (.int (nI d)), some (.int (nI i)), none, none] [] 0 Q 10 := by
  intro n
  induction n with
  | zero =>
    intro i hq1
    obtain ⟨t1, t2, t3, t4, t5⟩ := ht
    obtain rfl : N = i := by omega
    refine q_iload_n dX0_fillEquations_10 rfl ?_
    refine q_aload_n dX0_fillEquations_11 rfl ?_
    refine q_callVv (ν := mX7_count) dX0_fillEquations_12 uw_341 vX7_count (c_X7_count_5 hG (s_EQ S (eqF (z_TV S) d N tg (z_EQ S) N)) ) (Nat.le_of_ble_eq_true rfl) rfl rfl rfl rfl (Nat.le_of_ble_eq_true rfl) (Nat.le_of_ble_eq_true rfl) (Nat.le_of_ble_eq_true rfl) 0 (Nat.le_of_ble_eq_true rfl) ?_
    refine wp_eq (st2 := .int (((z_TV S) 0)) :: _) rfl ?_
    refine wp_top (y := nI N) t1 ?_
    refine q_icmp_ge 95 dX0_fillEquations_15 rfl (fun c15 => ?_) (fun c15 => ?_)
    · have n15 := (nI_leI (a := N) (b := N) (by omega) (by omega)).mp c15
      exact k
    · have n15 := mt (nI_leI (a := N) (b := N) (by omega) (by omega)).mpr c15
      omega
  | succ n ih =>
    intro i hq1
    obtain ⟨t1, t2, t3, t4, t5⟩ := ht
    refine q_iload_n dX0_fillEquations_10 rfl ?_
    refine q_aload_n dX0_fillEquations_11 rfl ?_
    refine q_callVv (ν := mX7_count) dX0_fillEquations_12 uw_341 vX7_count (c_X7_count_5 hG (s_EQ S (eqF (z_TV S) d N tg (z_EQ S) i)) ) (Nat.le_of_ble_eq_true rfl) rfl rfl rfl rfl (Nat.le_of_ble_eq_true rfl) (Nat.le_of_ble_eq_true rfl) (Nat.le_of_ble_eq_true rfl) 0 (Nat.le_of_ble_eq_true rfl) ?_
    refine wp_eq (st2 := .int (((z_TV S) 0)) :: _) rfl ?_
    refine wp_top (y := nI N) t1 ?_
    refine q_icmp_ge 95 dX0_fillEquations_15 rfl (fun c15 => ?_) (fun c15 => ?_)
    · have n15 := (nI_leI (a := N) (b := i) (by omega) (by omega)).mp c15
      omega
    · have n15 := mt (nI_leI (a := N) (b := i) (by omega) (by omega)).mpr c15
      refine q_aload_n dX0_fillEquations_18 rfl ?_
      refine q_get (j := 0) (v := .ref 16) dX0_fillEquations_19 (Nat.le_of_ble_eq_true rfl) rfl rfl iuX0 (Nat.le_of_ble_eq_true rfl) uw_144 rfl rfl ?_
      refine q_bipush (v := 6) dX0_fillEquations_22 rfl ?_
      refine q_iload_n dX0_fillEquations_24 rfl ?_
      refine q_imul dX0_fillEquations_25 ?_
      refine q_iload_n dX0_fillEquations_26 rfl ?_
      refine q_iadd dX0_fillEquations_27 ?_
      refine q_ldc2 dX0_fillEquations_28 uw_342 ?_
      refine q_last (f := (eqF (z_TV S) d N tg (z_EQ S) i)) dX0_fillEquations_31 (Nat.le_of_ble_eq_true rfl) rfl (((6 * i) + i)) (by simp only [fa_lit, pk_mul, nI_add]) (by omega) (Nat.le_of_ble_eq_true rfl) ?_
      refine wp_w (u_EQ g _ _) ?_
      rw [ss_EQ]
      refine q_iconst (v := 0) dX0_fillEquations_32 rfl ?_
      refine q_ist4 dX0_fillEquations_33 (Nat.le_of_ble_eq_true rfl) rfl ?_
      refine q_iload dX0_fillEquations_35 rfl ?_
      refine q_iconst (v := 1) dX0_fillEquations_37 rfl ?_
      refine q_icmp_gt 89 dX0_fillEquations_38 rfl (fun c38 => ?_) (fun c38 => ?_)
      · first | exact absurd (by decide) c38 | exact absurd c38 (by decide)
      · refine q_aload_n dX0_fillEquations_41 rfl ?_
        refine q_iload_n dX0_fillEquations_42 rfl ?_
        refine q_iload dX0_fillEquations_43 rfl ?_
        refine q_callVv (ν := mX7_target) dX0_fillEquations_45 uw_343 vX7_target (c_X7_target_5 hG (s_EQ S (vp_updL (eqF (z_TV S) d N tg (z_EQ S) i) (((6 * i) + i)) (100))) (i) (0) (by omega)) (Nat.le_of_ble_eq_true rfl) rfl rfl rfl rfl (Nat.le_of_ble_eq_true rfl) (Nat.le_of_ble_eq_true rfl) (Nat.le_of_ble_eq_true rfl) 0 (Nat.le_of_ble_eq_true rfl) ?_
        refine wp_eq (st2 := .int ((presF ((z_TV S) 0) ((z_TV S) (16 + 2 * i + 0)))) :: _) rfl ?_
        refine wp_top (y := nI (tg (2 * i))) (t5 (2 * i) (by omega)).1 ?_
        have tl0 := (t5 (2 * i) (by omega)).2
        refine q_ist5 dX0_fillEquations_48 (Nat.le_of_ble_eq_true rfl) rfl ?_
        refine q_aload_n dX0_fillEquations_50 rfl ?_
        refine q_iload dX0_fillEquations_51 rfl ?_
        refine q_callVv (ν := mX7_has) dX0_fillEquations_53 uw_355 vX7_has (c_X7_has_5 hG (s_EQ S (vp_updL (eqF (z_TV S) d N tg (z_EQ S) i) (((6 * i) + i)) (100))) ((nI (tg (2 * i))))) (Nat.le_of_ble_eq_true rfl) rfl rfl rfl rfl (Nat.le_of_ble_eq_true rfl) (Nat.le_of_ble_eq_true rfl) (Nat.le_of_ble_eq_true rfl) 0 (Nat.le_of_ble_eq_true rfl) ?_
        refine wp_eq (st2 := .int ((bI (0 ≤ (nI (tg (2 * i))) ∧ (nI (tg (2 * i))) < (z_TV S) 0))) :: _) rfl ?_
        refine wp_top (y := pI (tg (2 * i) < N)) (has_nI t1 (by omega) (by omega)) ?_
        refine q_if_eq 83 dX0_fillEquations_56 rfl (fun c56 => ?_) (fun c56 => ?_)
        · have ne0 := pI_0 c56
          refine wp_w (w2 := mixW g (s_EQ S (eqS N (vp_updL (eqF (z_TV S) d N tg (z_EQ S) i) (6 * i + i) 100) i (tg (2 * i)) (carF (z_TV S (4 + 2 * i + d)) 0).toInt64))) (by unfold eqS; rw [if_neg ne0]) ?_
          refine q_iinc4 (k9 := 1) dX0_fillEquations_83 rfl (Nat.le_of_ble_eq_true rfl) rfl ?_
          refine wp_L (L2 := [some (.ref 15), some (.ref 5), some (.int (nI d)), some (.int (nI i)), some (.int (1)), some (.int (nI (tg (2 * i))))]) rfl ?_
          refine q_goto 35 dX0_fillEquations_86 rfl ?_
          refine q_iload dX0_fillEquations_35 rfl ?_
          refine q_iconst (v := 1) dX0_fillEquations_37 rfl ?_
          refine q_icmp_gt 89 dX0_fillEquations_38 rfl (fun c38 => ?_) (fun c38 => ?_)
          · first | exact absurd (by decide) c38 | exact absurd c38 (by decide)
          · refine q_aload_n dX0_fillEquations_41 rfl ?_
            refine q_iload_n dX0_fillEquations_42 rfl ?_
            refine q_iload dX0_fillEquations_43 rfl ?_
            refine q_callVv (ν := mX7_target) dX0_fillEquations_45 uw_343 vX7_target (c_X7_target_5 hG (s_EQ S (eqS N (vp_updL (eqF (z_TV S) d N tg (z_EQ S) i) (6 * i + i) 100) i (tg (2 * i)) (carF (z_TV S (4 + 2 * i + d)) 0).toInt64)) (i) (1) (by omega)) (Nat.le_of_ble_eq_true rfl) rfl rfl rfl rfl (Nat.le_of_ble_eq_true rfl) (Nat.le_of_ble_eq_true rfl) (Nat.le_of_ble_eq_true rfl) 0 (Nat.le_of_ble_eq_true rfl) ?_
            refine wp_eq (st2 := .int ((presF ((z_TV S) 0) ((z_TV S) (16 + 2 * i + 1)))) :: _) rfl ?_
            refine wp_top (y := nI (tg (2 * i + 1))) (t5 (2 * i + 1) (by omega)).1 ?_
            have tl1 := (t5 (2 * i + 1) (by omega)).2
            refine q_ist5 dX0_fillEquations_48 (Nat.le_of_ble_eq_true rfl) rfl ?_
            refine q_aload_n dX0_fillEquations_50 rfl ?_
            refine q_iload dX0_fillEquations_51 rfl ?_
            refine q_callVv (ν := mX7_has) dX0_fillEquations_53 uw_355 vX7_has (c_X7_has_5 hG (s_EQ S (eqS N (vp_updL (eqF (z_TV S) d N tg (z_EQ S) i) (6 * i + i) 100) i (tg (2 * i)) (carF (z_TV S (4 + 2 * i + d)) 0).toInt64)) ((nI (tg (2 * i + 1))))) (Nat.le_of_ble_eq_true rfl) rfl rfl rfl rfl (Nat.le_of_ble_eq_true rfl) (Nat.le_of_ble_eq_true rfl) (Nat.le_of_ble_eq_true rfl) 0 (Nat.le_of_ble_eq_true rfl) ?_
            refine wp_eq (st2 := .int ((bI (0 ≤ (nI (tg (2 * i + 1))) ∧ (nI (tg (2 * i + 1))) < (z_TV S) 0))) :: _) rfl ?_
            refine wp_top (y := pI (tg (2 * i + 1) < N)) (has_nI t1 (by omega) (by omega)) ?_
            refine q_if_eq 83 dX0_fillEquations_56 rfl (fun c56 => ?_) (fun c56 => ?_)
            · have ne1 := pI_0 c56
              refine wp_w (w2 := mixW g (s_EQ S (eqS N (eqS N (vp_updL (eqF (z_TV S) d N tg (z_EQ S) i) (6 * i + i) 100) i (tg (2 * i)) (carF (z_TV S (4 + 2 * i + d)) 0).toInt64) i (tg (2 * i + 1)) (carF (z_TV S (4 + 2 * i + d)) 1).toInt64))) (by unfold eqS; rw [if_neg ne1]) ?_
              refine q_iinc4 (k9 := 1) dX0_fillEquations_83 rfl (Nat.le_of_ble_eq_true rfl) rfl ?_
              refine wp_L (L2 := [some (.ref 15), some (.ref 5), some (.int (nI d)), some (.int (nI i)), some (.int (2)), some (.int (nI (tg (2 * i + 1))))]) rfl ?_
              refine q_goto 35 dX0_fillEquations_86 rfl ?_
              refine q_iload dX0_fillEquations_35 rfl ?_
              refine q_iconst (v := 1) dX0_fillEquations_37 rfl ?_
              refine q_icmp_gt 89 dX0_fillEquations_38 rfl (fun c38 => ?_) (fun c38 => ?_)
              · refine q_iinc3 (k9 := 1) dX0_fillEquations_89 rfl (Nat.le_of_ble_eq_true rfl) rfl ?_
                refine wp_L (L2 := [some (.ref 15), some (.ref 5), some (.int (nI d)), some (.int (nI (i + 1))), some (.int (2)), some (.int (nI (tg (2 * i + 1))))]) (by rw [show nI i + 1 = nI (i + 1) from nI_1 _]) ?_
                refine q_goto 10 dX0_fillEquations_92 rfl ?_
                refine wp_fg (L2 := [some (.ref 15), some (.ref 5), some (.int (nI d)), some (.int (nI (i + 1))), none, none]) ⟨rfl, rfl, rfl, rfl, trivial⟩ ?_
                refine wp_w (w2 := mixW g (s_EQ S (eqF (z_TV S) d N tg (z_EQ S) (i + 1)))) rfl ?_
                exact ih (i + 1) (by omega)
              · first | exact absurd (by decide) c38 | exact absurd c38 (by decide)
            · have ne1 := pI_1 c56
              refine q_aload_n dX0_fillEquations_59 rfl ?_
              refine q_get (j := 0) (v := .ref 16) dX0_fillEquations_60 (Nat.le_of_ble_eq_true rfl) rfl rfl iuX0 (Nat.le_of_ble_eq_true rfl) uw_144 rfl rfl ?_
              refine q_bipush (v := 6) dX0_fillEquations_63 rfl ?_
              refine q_iload_n dX0_fillEquations_65 rfl ?_
              refine q_imul dX0_fillEquations_66 ?_
              refine q_iload dX0_fillEquations_67 rfl ?_
              refine q_iadd dX0_fillEquations_69 ?_
              refine q_dup2_11 dX0_fillEquations_70 rfl rfl ?_
              refine q_lald (f := (eqS N (vp_updL (eqF (z_TV S) d N tg (z_EQ S) i) (6 * i + i) 100) i (tg (2 * i)) (carF (z_TV S (4 + 2 * i + d)) 0).toInt64)) dX0_fillEquations_71 (Nat.le_of_ble_eq_true rfl) rfl (((6 * i) + (tg (2 * i + 1)))) (by simp only [fa_lit, pk_mul, nI_add]) (by omega) (Nat.le_of_ble_eq_true rfl) ?_
              refine q_aload_n dX0_fillEquations_72 rfl ?_
              refine q_iload_n dX0_fillEquations_73 rfl ?_
              refine q_iload_n dX0_fillEquations_74 rfl ?_
              refine q_iload dX0_fillEquations_75 rfl ?_
              refine q_callVv (ν := mX7_carried) dX0_fillEquations_77 uw_359 vX7_carried (c_X7_carried_5 hG (s_EQ S (eqS N (vp_updL (eqF (z_TV S) d N tg (z_EQ S) i) (6 * i + i) 100) i (tg (2 * i)) (carF (z_TV S (4 + 2 * i + d)) 0).toInt64)) (i) (d) (1) (by omega)) (Nat.le_of_ble_eq_true rfl) rfl rfl rfl rfl (Nat.le_of_ble_eq_true rfl) (Nat.le_of_ble_eq_true rfl) (Nat.le_of_ble_eq_true rfl) 0 (Nat.le_of_ble_eq_true rfl) ?_
              refine wp_eq (st2 := .int ((carF ((z_TV S) (4 + 2 * i + d)) 1)) :: _) rfl ?_
              refine q_i2l dX0_fillEquations_80 ?_
              refine q_lsub dX0_fillEquations_81 ?_
              refine q_last (f := (eqS N (vp_updL (eqF (z_TV S) d N tg (z_EQ S) i) (6 * i + i) 100) i (tg (2 * i)) (carF (z_TV S (4 + 2 * i + d)) 0).toInt64)) dX0_fillEquations_82 (Nat.le_of_ble_eq_true rfl) rfl (((6 * i) + (tg (2 * i + 1)))) (by simp only [fa_lit, pk_mul, nI_add]) (by omega) (Nat.le_of_ble_eq_true rfl) ?_
              refine wp_w (u_EQ g _ _) ?_
              rw [ss_EQ]
              refine wp_w (w2 := mixW g (s_EQ S (eqS N (eqS N (vp_updL (eqF (z_TV S) d N tg (z_EQ S) i) (6 * i + i) 100) i (tg (2 * i)) (carF (z_TV S (4 + 2 * i + d)) 0).toInt64) i (tg (2 * i + 1)) (carF (z_TV S (4 + 2 * i + d)) 1).toInt64))) (by unfold eqS; rw [if_pos ne1]) ?_
              refine q_iinc4 (k9 := 1) dX0_fillEquations_83 rfl (Nat.le_of_ble_eq_true rfl) rfl ?_
              refine wp_L (L2 := [some (.ref 15), some (.ref 5), some (.int (nI d)), some (.int (nI i)), some (.int (2)), some (.int (nI (tg (2 * i + 1))))]) rfl ?_
              refine q_goto 35 dX0_fillEquations_86 rfl ?_
              refine q_iload dX0_fillEquations_35 rfl ?_
              refine q_iconst (v := 1) dX0_fillEquations_37 rfl ?_
              refine q_icmp_gt 89 dX0_fillEquations_38 rfl (fun c38 => ?_) (fun c38 => ?_)
              · refine q_iinc3 (k9 := 1) dX0_fillEquations_89 rfl (Nat.le_of_ble_eq_true rfl) rfl ?_
                refine wp_L (L2 := [some (.ref 15), some (.ref 5), some (.int (nI d)), some (.int (nI (i + 1))), some (.int (2)), some (.int (nI (tg (2 * i + 1))))]) (by rw [show nI i + 1 = nI (i + 1) from nI_1 _]) ?_
                refine q_goto 10 dX0_fillEquations_92 rfl ?_
                refine wp_fg (L2 := [some (.ref 15), some (.ref 5), some (.int (nI d)), some (.int (nI (i + 1))), none, none]) ⟨rfl, rfl, rfl, rfl, trivial⟩ ?_
                refine wp_w (w2 := mixW g (s_EQ S (eqF (z_TV S) d N tg (z_EQ S) (i + 1)))) rfl ?_
                exact ih (i + 1) (by omega)
              · first | exact absurd (by decide) c38 | exact absurd c38 (by decide)
        · have ne0 := pI_1 c56
          refine q_aload_n dX0_fillEquations_59 rfl ?_
          refine q_get (j := 0) (v := .ref 16) dX0_fillEquations_60 (Nat.le_of_ble_eq_true rfl) rfl rfl iuX0 (Nat.le_of_ble_eq_true rfl) uw_144 rfl rfl ?_
          refine q_bipush (v := 6) dX0_fillEquations_63 rfl ?_
          refine q_iload_n dX0_fillEquations_65 rfl ?_
          refine q_imul dX0_fillEquations_66 ?_
          refine q_iload dX0_fillEquations_67 rfl ?_
          refine q_iadd dX0_fillEquations_69 ?_
          refine q_dup2_11 dX0_fillEquations_70 rfl rfl ?_
          refine q_lald (f := (vp_updL (eqF (z_TV S) d N tg (z_EQ S) i) (((6 * i) + i)) (100))) dX0_fillEquations_71 (Nat.le_of_ble_eq_true rfl) rfl (((6 * i) + (tg (2 * i)))) (by simp only [fa_lit, pk_mul, nI_add]) (by omega) (Nat.le_of_ble_eq_true rfl) ?_
          refine q_aload_n dX0_fillEquations_72 rfl ?_
          refine q_iload_n dX0_fillEquations_73 rfl ?_
          refine q_iload_n dX0_fillEquations_74 rfl ?_
          refine q_iload dX0_fillEquations_75 rfl ?_
          refine q_callVv (ν := mX7_carried) dX0_fillEquations_77 uw_359 vX7_carried (c_X7_carried_5 hG (s_EQ S (vp_updL (eqF (z_TV S) d N tg (z_EQ S) i) (((6 * i) + i)) (100))) (i) (d) (0) (by omega)) (Nat.le_of_ble_eq_true rfl) rfl rfl rfl rfl (Nat.le_of_ble_eq_true rfl) (Nat.le_of_ble_eq_true rfl) (Nat.le_of_ble_eq_true rfl) 0 (Nat.le_of_ble_eq_true rfl) ?_
          refine wp_eq (st2 := .int ((carF ((z_TV S) (4 + 2 * i + d)) 0)) :: _) rfl ?_
          refine q_i2l dX0_fillEquations_80 ?_
          refine q_lsub dX0_fillEquations_81 ?_
          refine q_last (f := (vp_updL (eqF (z_TV S) d N tg (z_EQ S) i) (((6 * i) + i)) (100))) dX0_fillEquations_82 (Nat.le_of_ble_eq_true rfl) rfl (((6 * i) + (tg (2 * i)))) (by simp only [fa_lit, pk_mul, nI_add]) (by omega) (Nat.le_of_ble_eq_true rfl) ?_
          refine wp_w (u_EQ g _ _) ?_
          rw [ss_EQ]
          refine wp_w (w2 := mixW g (s_EQ S (eqS N (vp_updL (eqF (z_TV S) d N tg (z_EQ S) i) (6 * i + i) 100) i (tg (2 * i)) (carF (z_TV S (4 + 2 * i + d)) 0).toInt64))) (by unfold eqS; rw [if_pos ne0]) ?_
          refine q_iinc4 (k9 := 1) dX0_fillEquations_83 rfl (Nat.le_of_ble_eq_true rfl) rfl ?_
          refine wp_L (L2 := [some (.ref 15), some (.ref 5), some (.int (nI d)), some (.int (nI i)), some (.int (1)), some (.int (nI (tg (2 * i))))]) rfl ?_
          refine q_goto 35 dX0_fillEquations_86 rfl ?_
          refine q_iload dX0_fillEquations_35 rfl ?_
          refine q_iconst (v := 1) dX0_fillEquations_37 rfl ?_
          refine q_icmp_gt 89 dX0_fillEquations_38 rfl (fun c38 => ?_) (fun c38 => ?_)
          · first | exact absurd (by decide) c38 | exact absurd c38 (by decide)
          · refine q_aload_n dX0_fillEquations_41 rfl ?_
            refine q_iload_n dX0_fillEquations_42 rfl ?_
            refine q_iload dX0_fillEquations_43 rfl ?_
            refine q_callVv (ν := mX7_target) dX0_fillEquations_45 uw_343 vX7_target (c_X7_target_5 hG (s_EQ S (eqS N (vp_updL (eqF (z_TV S) d N tg (z_EQ S) i) (6 * i + i) 100) i (tg (2 * i)) (carF (z_TV S (4 + 2 * i + d)) 0).toInt64)) (i) (1) (by omega)) (Nat.le_of_ble_eq_true rfl) rfl rfl rfl rfl (Nat.le_of_ble_eq_true rfl) (Nat.le_of_ble_eq_true rfl) (Nat.le_of_ble_eq_true rfl) 0 (Nat.le_of_ble_eq_true rfl) ?_
            refine wp_eq (st2 := .int ((presF ((z_TV S) 0) ((z_TV S) (16 + 2 * i + 1)))) :: _) rfl ?_
            refine wp_top (y := nI (tg (2 * i + 1))) (t5 (2 * i + 1) (by omega)).1 ?_
            have tl1 := (t5 (2 * i + 1) (by omega)).2
            refine q_ist5 dX0_fillEquations_48 (Nat.le_of_ble_eq_true rfl) rfl ?_
            refine q_aload_n dX0_fillEquations_50 rfl ?_
            refine q_iload dX0_fillEquations_51 rfl ?_
            refine q_callVv (ν := mX7_has) dX0_fillEquations_53 uw_355 vX7_has (c_X7_has_5 hG (s_EQ S (eqS N (vp_updL (eqF (z_TV S) d N tg (z_EQ S) i) (6 * i + i) 100) i (tg (2 * i)) (carF (z_TV S (4 + 2 * i + d)) 0).toInt64)) ((nI (tg (2 * i + 1))))) (Nat.le_of_ble_eq_true rfl) rfl rfl rfl rfl (Nat.le_of_ble_eq_true rfl) (Nat.le_of_ble_eq_true rfl) (Nat.le_of_ble_eq_true rfl) 0 (Nat.le_of_ble_eq_true rfl) ?_
            refine wp_eq (st2 := .int ((bI (0 ≤ (nI (tg (2 * i + 1))) ∧ (nI (tg (2 * i + 1))) < (z_TV S) 0))) :: _) rfl ?_
            refine wp_top (y := pI (tg (2 * i + 1) < N)) (has_nI t1 (by omega) (by omega)) ?_
            refine q_if_eq 83 dX0_fillEquations_56 rfl (fun c56 => ?_) (fun c56 => ?_)
            · have ne1 := pI_0 c56
              refine wp_w (w2 := mixW g (s_EQ S (eqS N (eqS N (vp_updL (eqF (z_TV S) d N tg (z_EQ S) i) (6 * i + i) 100) i (tg (2 * i)) (carF (z_TV S (4 + 2 * i + d)) 0).toInt64) i (tg (2 * i + 1)) (carF (z_TV S (4 + 2 * i + d)) 1).toInt64))) (by unfold eqS; rw [if_neg ne1]) ?_
              refine q_iinc4 (k9 := 1) dX0_fillEquations_83 rfl (Nat.le_of_ble_eq_true rfl) rfl ?_
              refine wp_L (L2 := [some (.ref 15), some (.ref 5), some (.int (nI d)), some (.int (nI i)), some (.int (2)), some (.int (nI (tg (2 * i + 1))))]) rfl ?_
              refine q_goto 35 dX0_fillEquations_86 rfl ?_
              refine q_iload dX0_fillEquations_35 rfl ?_
              refine q_iconst (v := 1) dX0_fillEquations_37 rfl ?_
              refine q_icmp_gt 89 dX0_fillEquations_38 rfl (fun c38 => ?_) (fun c38 => ?_)
              · refine q_iinc3 (k9 := 1) dX0_fillEquations_89 rfl (Nat.le_of_ble_eq_true rfl) rfl ?_
                refine wp_L (L2 := [some (.ref 15), some (.ref 5), some (.int (nI d)), some (.int (nI (i + 1))), some (.int (2)), some (.int (nI (tg (2 * i + 1))))]) (by rw [show nI i + 1 = nI (i + 1) from nI_1 _]) ?_
                refine q_goto 10 dX0_fillEquations_92 rfl ?_
                refine wp_fg (L2 := [some (.ref 15), some (.ref 5), some (.int (nI d)), some (.int (nI (i + 1))), none, none]) ⟨rfl, rfl, rfl, rfl, trivial⟩ ?_
                refine wp_w (w2 := mixW g (s_EQ S (eqF (z_TV S) d N tg (z_EQ S) (i + 1)))) rfl ?_
                exact ih (i + 1) (by omega)
              · first | exact absurd (by decide) c38 | exact absurd c38 (by decide)
            · have ne1 := pI_1 c56
              refine q_aload_n dX0_fillEquations_59 rfl ?_
              refine q_get (j := 0) (v := .ref 16) dX0_fillEquations_60 (Nat.le_of_ble_eq_true rfl) rfl rfl iuX0 (Nat.le_of_ble_eq_true rfl) uw_144 rfl rfl ?_
              refine q_bipush (v := 6) dX0_fillEquations_63 rfl ?_
              refine q_iload_n dX0_fillEquations_65 rfl ?_
              refine q_imul dX0_fillEquations_66 ?_
              refine q_iload dX0_fillEquations_67 rfl ?_
              refine q_iadd dX0_fillEquations_69 ?_
              refine q_dup2_11 dX0_fillEquations_70 rfl rfl ?_
              refine q_lald (f := (eqS N (vp_updL (eqF (z_TV S) d N tg (z_EQ S) i) (6 * i + i) 100) i (tg (2 * i)) (carF (z_TV S (4 + 2 * i + d)) 0).toInt64)) dX0_fillEquations_71 (Nat.le_of_ble_eq_true rfl) rfl (((6 * i) + (tg (2 * i + 1)))) (by simp only [fa_lit, pk_mul, nI_add]) (by omega) (Nat.le_of_ble_eq_true rfl) ?_
              refine q_aload_n dX0_fillEquations_72 rfl ?_
              refine q_iload_n dX0_fillEquations_73 rfl ?_
              refine q_iload_n dX0_fillEquations_74 rfl ?_
              refine q_iload dX0_fillEquations_75 rfl ?_
              refine q_callVv (ν := mX7_carried) dX0_fillEquations_77 uw_359 vX7_carried (c_X7_carried_5 hG (s_EQ S (eqS N (vp_updL (eqF (z_TV S) d N tg (z_EQ S) i) (6 * i + i) 100) i (tg (2 * i)) (carF (z_TV S (4 + 2 * i + d)) 0).toInt64)) (i) (d) (1) (by omega)) (Nat.le_of_ble_eq_true rfl) rfl rfl rfl rfl (Nat.le_of_ble_eq_true rfl) (Nat.le_of_ble_eq_true rfl) (Nat.le_of_ble_eq_true rfl) 0 (Nat.le_of_ble_eq_true rfl) ?_
              refine wp_eq (st2 := .int ((carF ((z_TV S) (4 + 2 * i + d)) 1)) :: _) rfl ?_
              refine q_i2l dX0_fillEquations_80 ?_
              refine q_lsub dX0_fillEquations_81 ?_
              refine q_last (f := (eqS N (vp_updL (eqF (z_TV S) d N tg (z_EQ S) i) (6 * i + i) 100) i (tg (2 * i)) (carF (z_TV S (4 + 2 * i + d)) 0).toInt64)) dX0_fillEquations_82 (Nat.le_of_ble_eq_true rfl) rfl (((6 * i) + (tg (2 * i + 1)))) (by simp only [fa_lit, pk_mul, nI_add]) (by omega) (Nat.le_of_ble_eq_true rfl) ?_
              refine wp_w (u_EQ g _ _) ?_
              rw [ss_EQ]
              refine wp_w (w2 := mixW g (s_EQ S (eqS N (eqS N (vp_updL (eqF (z_TV S) d N tg (z_EQ S) i) (6 * i + i) 100) i (tg (2 * i)) (carF (z_TV S (4 + 2 * i + d)) 0).toInt64) i (tg (2 * i + 1)) (carF (z_TV S (4 + 2 * i + d)) 1).toInt64))) (by unfold eqS; rw [if_pos ne1]) ?_
              refine q_iinc4 (k9 := 1) dX0_fillEquations_83 rfl (Nat.le_of_ble_eq_true rfl) rfl ?_
              refine wp_L (L2 := [some (.ref 15), some (.ref 5), some (.int (nI d)), some (.int (nI i)), some (.int (2)), some (.int (nI (tg (2 * i + 1))))]) rfl ?_
              refine q_goto 35 dX0_fillEquations_86 rfl ?_
              refine q_iload dX0_fillEquations_35 rfl ?_
              refine q_iconst (v := 1) dX0_fillEquations_37 rfl ?_
              refine q_icmp_gt 89 dX0_fillEquations_38 rfl (fun c38 => ?_) (fun c38 => ?_)
              · refine q_iinc3 (k9 := 1) dX0_fillEquations_89 rfl (Nat.le_of_ble_eq_true rfl) rfl ?_
                refine wp_L (L2 := [some (.ref 15), some (.ref 5), some (.int (nI d)), some (.int (nI (i + 1))), some (.int (2)), some (.int (nI (tg (2 * i + 1))))]) (by rw [show nI i + 1 = nI (i + 1) from nI_1 _]) ?_
                refine q_goto 10 dX0_fillEquations_92 rfl ?_
                refine wp_fg (L2 := [some (.ref 15), some (.ref 5), some (.int (nI d)), some (.int (nI (i + 1))), none, none]) ⟨rfl, rfl, rfl, rfl, trivial⟩ ?_
                refine wp_w (w2 := mixW g (s_EQ S (eqF (z_TV S) d N tg (z_EQ S) (i + 1)))) rfl ?_
                exact ih (i + 1) (by omega)
              · first | exact absurd (by decide) c38 | exact absurd c38 (by decide)
set_option maxRecDepth 100000 in
set_option maxHeartbeats 4000000 in
theorem c_X0_fillE_5 {g : G0} (hG : Gd g) (S : SS) (d : Nat) (ft : Nat) (N : Nat) (tg : Nat → Nat) (h1 : d < 2) (h2 : tgts (z_TV S) N ft tg) : ctu g mX0_fillEquations [.ref 15, .ref 5, .int (nI d)] (mixW g S) (mixW g (s_EQ S (eqF (z_TV S) d N tg (z_EQ S) N))) := by
  refine ct_of hG [some (.ref 15), some (.ref 5), some (.int (nI d)), none, none, none] rfl rfl rfl (Nat.le_of_ble_eq_true rfl) (fun h => ?_) rfl
  refine q_aload_n dX0_fillEquations_0 rfl ?_
  refine q_get (j := 0) (v := .ref 16) dX0_fillEquations_1 (Nat.le_of_ble_eq_true rfl) rfl rfl iuX0 (Nat.le_of_ble_eq_true rfl) uw_144 rfl rfl ?_
  refine q_lconst (v := 0) dX0_fillEquations_4 rfl ?_
  refine q_callSu (ν := mJ7_fill_d0a16) dX0_fillEquations_5 uw_338 vJ7_fill_d0a16 (c_fill_16 hG S (0)) rfl rfl (Nat.le_of_ble_eq_true rfl) (Nat.le_of_ble_eq_true rfl) (Nat.le_of_ble_eq_true rfl) 0 (Nat.le_of_ble_eq_true rfl) ?_
  refine wp_w (w2 := mixW g (s_EQ S (filF (z_EQ S) 0 36))) rfl ?_
  refine q_iconst (v := 0) dX0_fillEquations_8 rfl ?_
  refine q_ist3 dX0_fillEquations_9 (Nat.le_of_ble_eq_true rfl) rfl ?_
  refine wp_w (w2 := mixW g (s_EQ S (eqF (z_TV S) d N tg (z_EQ S) 0))) rfl ?_
  refine l_X0_fillE_5 hG S d ft N tg h1 h2 ?_ N 0 (by omega)
  exact q_vret dX0_fillEquations_95 rfl ⟨rfl, rfl⟩
set_option maxRecDepth 100000 in
set_option maxHeartbeats 4000000 in
theorem l_X0_fillC_5 {g : G0} {h : G1} (hG : Gd g) (S : SS) {Q : State → Prop} (d col go ft N : Nat) (tg : Nat → Nat) (hd : d < 2) (hcol : col < 6) (hgo : go < 10) (ht : tgts (z_TV S) N ft tg) (k : wp g h mX0_fillColumn (mixW g (s_EQ S (fcF (z_TV S) d col go tg (z_EQ S) N))) [some (.ref 15), some (.ref 5), some (.int (nI d)), some (.int (nI col)), some (.int (nI go)), some (.int (nI N)), none, none, none] [] 0 Q 99) : ∀ (n i : Nat), i + n = N → wp g h mX0_fillColumn (mixW g (s_EQ S (fcF (z_TV S) d col go tg (z_EQ S) i))) [some (.ref 15), some (.ref 5), some (.int (nI d)), some (.int (nI col)), some (.int (nI go)), some (.int (nI i)), none, none, none] [] 0 Q 3 := by
  intro n
  induction n with
  | zero =>
    intro i hq1
    obtain ⟨t1, t2, t3, t4, t5⟩ := ht
    obtain rfl : N = i := by omega
    refine q_iload dX0_fillColumn_3 rfl ?_
    refine q_aload_n dX0_fillColumn_5 rfl ?_
    refine q_callVv (ν := mX7_count) dX0_fillColumn_6 uw_341 vX7_count (c_X7_count_5 hG (s_EQ S (fcF (z_TV S) d col go tg (z_EQ S) N)) ) (Nat.le_of_ble_eq_true rfl) rfl rfl rfl rfl (Nat.le_of_ble_eq_true rfl) (Nat.le_of_ble_eq_true rfl) (Nat.le_of_ble_eq_true rfl) 0 (Nat.le_of_ble_eq_true rfl) ?_
    refine wp_eq (st2 := .int (((z_TV S) 0)) :: _) rfl ?_
    refine wp_top (y := nI N) t1 ?_
    refine q_icmp_ge 99 dX0_fillColumn_9 rfl (fun c9 => ?_) (fun c9 => ?_)
    · have n9 := (nI_leI (a := N) (b := N) (by omega) (by omega)).mp c9
      exact k
    · have n9 := mt (nI_leI (a := N) (b := N) (by omega) (by omega)).mpr c9
      omega
  | succ n ih =>
    intro i hq1
    obtain ⟨t1, t2, t3, t4, t5⟩ := ht
    refine q_iload dX0_fillColumn_3 rfl ?_
    refine q_aload_n dX0_fillColumn_5 rfl ?_
    refine q_callVv (ν := mX7_count) dX0_fillColumn_6 uw_341 vX7_count (c_X7_count_5 hG (s_EQ S (fcF (z_TV S) d col go tg (z_EQ S) i)) ) (Nat.le_of_ble_eq_true rfl) rfl rfl rfl rfl (Nat.le_of_ble_eq_true rfl) (Nat.le_of_ble_eq_true rfl) (Nat.le_of_ble_eq_true rfl) 0 (Nat.le_of_ble_eq_true rfl) ?_
    refine wp_eq (st2 := .int (((z_TV S) 0)) :: _) rfl ?_
    refine wp_top (y := nI N) t1 ?_
    refine q_icmp_ge 99 dX0_fillColumn_9 rfl (fun c9 => ?_) (fun c9 => ?_)
    · have n9 := (nI_leI (a := N) (b := i) (by omega) (by omega)).mp c9
      omega
    · have n9 := mt (nI_leI (a := N) (b := i) (by omega) (by omega)).mpr c9
      refine q_iload dX0_fillColumn_12 rfl ?_
      refine q_iload dX0_fillColumn_14 rfl ?_
      refine q_icmp_ne 25 dX0_fillColumn_16 rfl (fun c16 => ?_) (fun c16 => ?_)
      · have n16 := mt (nI_eq (a := i) (b := go) (by omega) (by omega)).mpr c16
        refine q_lconst (v := 0) dX0_fillColumn_25 rfl ?_
        refine wp_topl (y := rg0 i go) (by rw [rg0, if_neg (by omega)]) ?_
        refine q_lst6 dX0_fillColumn_26 (Nat.le_of_ble_eq_true rfl) rfl ?_
        refine q_iconst (v := 0) dX0_fillColumn_28 rfl ?_
        refine q_ist8 dX0_fillColumn_29 (Nat.le_of_ble_eq_true rfl) rfl ?_
        refine q_iload dX0_fillColumn_31 rfl ?_
        refine q_iconst (v := 1) dX0_fillColumn_33 rfl ?_
        refine q_icmp_gt 79 dX0_fillColumn_34 rfl (fun c34 => ?_) (fun c34 => ?_)
        · first | exact absurd (by decide) c34 | exact absurd c34 (by decide)
        · refine q_iload dX0_fillColumn_37 rfl ?_
          refine q_callSNv (ν := mX9_isProduct) dX0_fillColumn_39 (List.mem_of_getElem? (i := 0) rfl) vX9_isProduct (c_X9_isProduct hG (s_EQ S (fcF (z_TV S) d col go tg (z_EQ S) i)) (go) (by omega)) rfl rfl (Nat.le_of_ble_eq_true rfl) (Nat.le_of_ble_eq_true rfl) (Nat.le_of_ble_eq_true rfl) 0 (Nat.le_of_ble_eq_true rfl) ?_
          refine wp_eq (st2 := .int ((pI (go = 8 ∨ go = 9))) :: _) rfl ?_
          refine q_if_eq 73 dX0_fillColumn_42 rfl (fun c42 => ?_) (fun c42 => ?_)
          · refine wp_L (L2 := [some (.ref 15), some (.ref 5), some (.int (nI d)), some (.int (nI col)), some (.int (nI go)), some (.int (nI i)), some (.long (rgS go (tg (2 * i)) (carF (z_TV S (4 + 2 * i + d)) 0).toInt64 (rg0 i go))), none, some (.int (0))]) (by unfold rgS; rw [if_neg (c := (go = 8 ∨ go = 9) ∧ tg (2 * i) = go) (by first | exact fun z => pI_0 c42 z.1 | exact fun z => n55 z.2)]) ?_
            refine q_iinc8 (k9 := 1) dX0_fillColumn_73 rfl (Nat.le_of_ble_eq_true rfl) rfl ?_
            refine wp_L (L2 := [some (.ref 15), some (.ref 5), some (.int (nI d)), some (.int (nI col)), some (.int (nI go)), some (.int (nI i)), some (.long (rgS go (tg (2 * i)) (carF (z_TV S (4 + 2 * i + d)) 0).toInt64 (rg0 i go))), none, some (.int (1))]) rfl ?_
            refine q_goto 31 dX0_fillColumn_76 rfl ?_
            refine q_iload dX0_fillColumn_31 rfl ?_
            refine q_iconst (v := 1) dX0_fillColumn_33 rfl ?_
            refine q_icmp_gt 79 dX0_fillColumn_34 rfl (fun c34 => ?_) (fun c34 => ?_)
            · first | exact absurd (by decide) c34 | exact absurd c34 (by decide)
            · refine q_iload dX0_fillColumn_37 rfl ?_
              refine q_callSNv (ν := mX9_isProduct) dX0_fillColumn_39 (List.mem_of_getElem? (i := 0) rfl) vX9_isProduct (c_X9_isProduct hG (s_EQ S (fcF (z_TV S) d col go tg (z_EQ S) i)) (go) (by omega)) rfl rfl (Nat.le_of_ble_eq_true rfl) (Nat.le_of_ble_eq_true rfl) (Nat.le_of_ble_eq_true rfl) 0 (Nat.le_of_ble_eq_true rfl) ?_
              refine wp_eq (st2 := .int ((pI (go = 8 ∨ go = 9))) :: _) rfl ?_
              refine q_if_eq 73 dX0_fillColumn_42 rfl (fun c42 => ?_) (fun c42 => ?_)
              · refine wp_L (L2 := [some (.ref 15), some (.ref 5), some (.int (nI d)), some (.int (nI col)), some (.int (nI go)), some (.int (nI i)), some (.long (rgS go (tg (2 * i + 1)) (carF (z_TV S (4 + 2 * i + d)) 1).toInt64 (rgS go (tg (2 * i)) (carF (z_TV S (4 + 2 * i + d)) 0).toInt64 (rg0 i go)))), none, some (.int (1))]) (by unfold rgS; rw [if_neg (c := (go = 8 ∨ go = 9) ∧ tg (2 * i + 1) = go) (by first | exact fun z => pI_0 c42 z.1 | exact fun z => n55 z.2)]) ?_
                refine q_iinc8 (k9 := 1) dX0_fillColumn_73 rfl (Nat.le_of_ble_eq_true rfl) rfl ?_
                refine wp_L (L2 := [some (.ref 15), some (.ref 5), some (.int (nI d)), some (.int (nI col)), some (.int (nI go)), some (.int (nI i)), some (.long (rgS go (tg (2 * i + 1)) (carF (z_TV S (4 + 2 * i + d)) 1).toInt64 (rgS go (tg (2 * i)) (carF (z_TV S (4 + 2 * i + d)) 0).toInt64 (rg0 i go)))), none, some (.int (2))]) rfl ?_
                refine q_goto 31 dX0_fillColumn_76 rfl ?_
                refine q_iload dX0_fillColumn_31 rfl ?_
                refine q_iconst (v := 1) dX0_fillColumn_33 rfl ?_
                refine q_icmp_gt 79 dX0_fillColumn_34 rfl (fun c34 => ?_) (fun c34 => ?_)
                · refine q_aload_n dX0_fillColumn_79 rfl ?_
                  refine q_get (j := 0) (v := .ref 16) dX0_fillColumn_80 (Nat.le_of_ble_eq_true rfl) rfl rfl iuX0 (Nat.le_of_ble_eq_true rfl) uw_144 rfl rfl ?_
                  refine q_bipush (v := 6) dX0_fillColumn_83 rfl ?_
                  refine q_iload dX0_fillColumn_85 rfl ?_
                  refine q_imul dX0_fillColumn_87 ?_
                  refine q_iload_n dX0_fillColumn_88 rfl ?_
                  refine q_iadd dX0_fillColumn_89 ?_
                  refine q_lload dX0_fillColumn_90 rfl ?_
                  refine q_last (f := (fcF (z_TV S) d col go tg (z_EQ S) i)) dX0_fillColumn_92 (Nat.le_of_ble_eq_true rfl) rfl (((6 * i) + col)) (by simp only [fa_lit, pk_mul, nI_add]) (by omega) (Nat.le_of_ble_eq_true rfl) ?_
                  refine wp_w (u_EQ g _ _) ?_
                  rw [ss_EQ]
                  refine q_iinc5 (k9 := 1) dX0_fillColumn_93 rfl (Nat.le_of_ble_eq_true rfl) rfl ?_
                  refine wp_L (L2 := [some (.ref 15), some (.ref 5), some (.int (nI d)), some (.int (nI col)), some (.int (nI go)), some (.int (nI (i + 1))), some (.long (rgS go (tg (2 * i + 1)) (carF (z_TV S (4 + 2 * i + d)) 1).toInt64 (rgS go (tg (2 * i)) (carF (z_TV S (4 + 2 * i + d)) 0).toInt64 (rg0 i go)))), none, some (.int (2))]) (by rw [show nI i + 1 = nI (i + 1) from nI_1 _]) ?_
                  refine q_goto 3 dX0_fillColumn_96 rfl ?_
                  refine wp_fg (L2 := [some (.ref 15), some (.ref 5), some (.int (nI d)), some (.int (nI col)), some (.int (nI go)), some (.int (nI (i + 1))), none, none, none]) ⟨rfl, rfl, rfl, rfl, rfl, rfl, trivial⟩ ?_
                  refine wp_w (w2 := mixW g (s_EQ S (fcF (z_TV S) d col go tg (z_EQ S) (i + 1)))) rfl ?_
                  exact ih (i + 1) (by omega)
                · first | exact absurd (by decide) c34 | exact absurd c34 (by decide)
              · refine q_aload_n dX0_fillColumn_45 rfl ?_
                refine q_iload dX0_fillColumn_46 rfl ?_
                refine q_iload dX0_fillColumn_48 rfl ?_
                refine q_callVv (ν := mX7_target) dX0_fillColumn_50 uw_343 vX7_target (c_X7_target_5 hG (s_EQ S (fcF (z_TV S) d col go tg (z_EQ S) i)) (i) (1) (by omega)) (Nat.le_of_ble_eq_true rfl) rfl rfl rfl rfl (Nat.le_of_ble_eq_true rfl) (Nat.le_of_ble_eq_true rfl) (Nat.le_of_ble_eq_true rfl) 0 (Nat.le_of_ble_eq_true rfl) ?_
                refine wp_eq (st2 := .int ((presF ((z_TV S) 0) ((z_TV S) (16 + 2 * i + 1)))) :: _) rfl ?_
                refine wp_top (y := nI (tg (2 * i + 1))) (t5 (2 * i + 1) (by omega)).1 ?_
                have tl1 := (t5 (2 * i + 1) (by omega)).2
                refine q_iload dX0_fillColumn_53 rfl ?_
                refine q_icmp_ne 73 dX0_fillColumn_55 rfl (fun c55 => ?_) (fun c55 => ?_)
                · have n55 := mt (nI_eq (a := (tg (2 * i + 1))) (b := go) (by omega) (by omega)).mpr c55
                  refine wp_L (L2 := [some (.ref 15), some (.ref 5), some (.int (nI d)), some (.int (nI col)), some (.int (nI go)), some (.int (nI i)), some (.long (rgS go (tg (2 * i + 1)) (carF (z_TV S (4 + 2 * i + d)) 1).toInt64 (rgS go (tg (2 * i)) (carF (z_TV S (4 + 2 * i + d)) 0).toInt64 (rg0 i go)))), none, some (.int (1))]) (by unfold rgS; rw [if_neg (c := (go = 8 ∨ go = 9) ∧ tg (2 * i + 1) = go) (by first | exact fun z => pI_0 c42 z.1 | exact fun z => n55 z.2)]) ?_
                  refine q_iinc8 (k9 := 1) dX0_fillColumn_73 rfl (Nat.le_of_ble_eq_true rfl) rfl ?_
                  refine wp_L (L2 := [some (.ref 15), some (.ref 5), some (.int (nI d)), some (.int (nI col)), some (.int (nI go)), some (.int (nI i)), some (.long (rgS go (tg (2 * i + 1)) (carF (z_TV S (4 + 2 * i + d)) 1).toInt64 (rgS go (tg (2 * i)) (carF (z_TV S (4 + 2 * i + d)) 0).toInt64 (rg0 i go)))), none, some (.int (2))]) rfl ?_
                  refine q_goto 31 dX0_fillColumn_76 rfl ?_
                  refine q_iload dX0_fillColumn_31 rfl ?_
                  refine q_iconst (v := 1) dX0_fillColumn_33 rfl ?_
                  refine q_icmp_gt 79 dX0_fillColumn_34 rfl (fun c34 => ?_) (fun c34 => ?_)
                  · refine q_aload_n dX0_fillColumn_79 rfl ?_
                    refine q_get (j := 0) (v := .ref 16) dX0_fillColumn_80 (Nat.le_of_ble_eq_true rfl) rfl rfl iuX0 (Nat.le_of_ble_eq_true rfl) uw_144 rfl rfl ?_
                    refine q_bipush (v := 6) dX0_fillColumn_83 rfl ?_
                    refine q_iload dX0_fillColumn_85 rfl ?_
                    refine q_imul dX0_fillColumn_87 ?_
                    refine q_iload_n dX0_fillColumn_88 rfl ?_
                    refine q_iadd dX0_fillColumn_89 ?_
                    refine q_lload dX0_fillColumn_90 rfl ?_
                    refine q_last (f := (fcF (z_TV S) d col go tg (z_EQ S) i)) dX0_fillColumn_92 (Nat.le_of_ble_eq_true rfl) rfl (((6 * i) + col)) (by simp only [fa_lit, pk_mul, nI_add]) (by omega) (Nat.le_of_ble_eq_true rfl) ?_
                    refine wp_w (u_EQ g _ _) ?_
                    rw [ss_EQ]
                    refine q_iinc5 (k9 := 1) dX0_fillColumn_93 rfl (Nat.le_of_ble_eq_true rfl) rfl ?_
                    refine wp_L (L2 := [some (.ref 15), some (.ref 5), some (.int (nI d)), some (.int (nI col)), some (.int (nI go)), some (.int (nI (i + 1))), some (.long (rgS go (tg (2 * i + 1)) (carF (z_TV S (4 + 2 * i + d)) 1).toInt64 (rgS go (tg (2 * i)) (carF (z_TV S (4 + 2 * i + d)) 0).toInt64 (rg0 i go)))), none, some (.int (2))]) (by rw [show nI i + 1 = nI (i + 1) from nI_1 _]) ?_
                    refine q_goto 3 dX0_fillColumn_96 rfl ?_
                    refine wp_fg (L2 := [some (.ref 15), some (.ref 5), some (.int (nI d)), some (.int (nI col)), some (.int (nI go)), some (.int (nI (i + 1))), none, none, none]) ⟨rfl, rfl, rfl, rfl, rfl, rfl, trivial⟩ ?_
                    refine wp_w (w2 := mixW g (s_EQ S (fcF (z_TV S) d col go tg (z_EQ S) (i + 1)))) rfl ?_
                    exact ih (i + 1) (by omega)
                  · first | exact absurd (by decide) c34 | exact absurd c34 (by decide)
                · have n55 := (nI_eq (a := (tg (2 * i + 1))) (b := go) (by omega) (by omega)).mp c55
                  refine q_lload dX0_fillColumn_58 rfl ?_
                  refine q_aload_n dX0_fillColumn_60 rfl ?_
                  refine q_iload dX0_fillColumn_61 rfl ?_
                  refine q_iload_n dX0_fillColumn_63 rfl ?_
                  refine q_iload dX0_fillColumn_64 rfl ?_
                  refine q_callVv (ν := mX7_carried) dX0_fillColumn_66 uw_359 vX7_carried (c_X7_carried_5 hG (s_EQ S (fcF (z_TV S) d col go tg (z_EQ S) i)) (i) (d) (1) (by omega)) (Nat.le_of_ble_eq_true rfl) rfl rfl rfl rfl (Nat.le_of_ble_eq_true rfl) (Nat.le_of_ble_eq_true rfl) (Nat.le_of_ble_eq_true rfl) 0 (Nat.le_of_ble_eq_true rfl) ?_
                  refine wp_eq (st2 := .int ((carF ((z_TV S) (4 + 2 * i + d)) 1)) :: _) rfl ?_
                  refine q_i2l dX0_fillColumn_69 ?_
                  refine q_ladd dX0_fillColumn_70 ?_
                  refine q_lst6 dX0_fillColumn_71 (Nat.le_of_ble_eq_true rfl) rfl ?_
                  refine wp_L (L2 := [some (.ref 15), some (.ref 5), some (.int (nI d)), some (.int (nI col)), some (.int (nI go)), some (.int (nI i)), some (.long (rgS go (tg (2 * i + 1)) (carF (z_TV S (4 + 2 * i + d)) 1).toInt64 (rgS go (tg (2 * i)) (carF (z_TV S (4 + 2 * i + d)) 0).toInt64 (rg0 i go)))), none, some (.int (1))]) (by unfold rgS; rw [if_pos (c := (go = 8 ∨ go = 9) ∧ tg (2 * i + 1) = go) ⟨pI_1 c42, n55⟩]) ?_
                  refine q_iinc8 (k9 := 1) dX0_fillColumn_73 rfl (Nat.le_of_ble_eq_true rfl) rfl ?_
                  refine wp_L (L2 := [some (.ref 15), some (.ref 5), some (.int (nI d)), some (.int (nI col)), some (.int (nI go)), some (.int (nI i)), some (.long (rgS go (tg (2 * i + 1)) (carF (z_TV S (4 + 2 * i + d)) 1).toInt64 (rgS go (tg (2 * i)) (carF (z_TV S (4 + 2 * i + d)) 0).toInt64 (rg0 i go)))), none, some (.int (2))]) rfl ?_
                  refine q_goto 31 dX0_fillColumn_76 rfl ?_
                  refine q_iload dX0_fillColumn_31 rfl ?_
                  refine q_iconst (v := 1) dX0_fillColumn_33 rfl ?_
                  refine q_icmp_gt 79 dX0_fillColumn_34 rfl (fun c34 => ?_) (fun c34 => ?_)
                  · refine q_aload_n dX0_fillColumn_79 rfl ?_
                    refine q_get (j := 0) (v := .ref 16) dX0_fillColumn_80 (Nat.le_of_ble_eq_true rfl) rfl rfl iuX0 (Nat.le_of_ble_eq_true rfl) uw_144 rfl rfl ?_
                    refine q_bipush (v := 6) dX0_fillColumn_83 rfl ?_
                    refine q_iload dX0_fillColumn_85 rfl ?_
                    refine q_imul dX0_fillColumn_87 ?_
                    refine q_iload_n dX0_fillColumn_88 rfl ?_
                    refine q_iadd dX0_fillColumn_89 ?_
                    refine q_lload dX0_fillColumn_90 rfl ?_
                    refine q_last (f := (fcF (z_TV S) d col go tg (z_EQ S) i)) dX0_fillColumn_92 (Nat.le_of_ble_eq_true rfl) rfl (((6 * i) + col)) (by simp only [fa_lit, pk_mul, nI_add]) (by omega) (Nat.le_of_ble_eq_true rfl) ?_
                    refine wp_w (u_EQ g _ _) ?_
                    rw [ss_EQ]
                    refine q_iinc5 (k9 := 1) dX0_fillColumn_93 rfl (Nat.le_of_ble_eq_true rfl) rfl ?_
                    refine wp_L (L2 := [some (.ref 15), some (.ref 5), some (.int (nI d)), some (.int (nI col)), some (.int (nI go)), some (.int (nI (i + 1))), some (.long (rgS go (tg (2 * i + 1)) (carF (z_TV S (4 + 2 * i + d)) 1).toInt64 (rgS go (tg (2 * i)) (carF (z_TV S (4 + 2 * i + d)) 0).toInt64 (rg0 i go)))), none, some (.int (2))]) (by rw [show nI i + 1 = nI (i + 1) from nI_1 _]) ?_
                    refine q_goto 3 dX0_fillColumn_96 rfl ?_
                    refine wp_fg (L2 := [some (.ref 15), some (.ref 5), some (.int (nI d)), some (.int (nI col)), some (.int (nI go)), some (.int (nI (i + 1))), none, none, none]) ⟨rfl, rfl, rfl, rfl, rfl, rfl, trivial⟩ ?_
                    refine wp_w (w2 := mixW g (s_EQ S (fcF (z_TV S) d col go tg (z_EQ S) (i + 1)))) rfl ?_
                    exact ih (i + 1) (by omega)
                  · first | exact absurd (by decide) c34 | exact absurd c34 (by decide)
          · refine q_aload_n dX0_fillColumn_45 rfl ?_
            refine q_iload dX0_fillColumn_46 rfl ?_
            refine q_iload dX0_fillColumn_48 rfl ?_
            refine q_callVv (ν := mX7_target) dX0_fillColumn_50 uw_343 vX7_target (c_X7_target_5 hG (s_EQ S (fcF (z_TV S) d col go tg (z_EQ S) i)) (i) (0) (by omega)) (Nat.le_of_ble_eq_true rfl) rfl rfl rfl rfl (Nat.le_of_ble_eq_true rfl) (Nat.le_of_ble_eq_true rfl) (Nat.le_of_ble_eq_true rfl) 0 (Nat.le_of_ble_eq_true rfl) ?_
            refine wp_eq (st2 := .int ((presF ((z_TV S) 0) ((z_TV S) (16 + 2 * i + 0)))) :: _) rfl ?_
            refine wp_top (y := nI (tg (2 * i))) (t5 (2 * i) (by omega)).1 ?_
            have tl0 := (t5 (2 * i) (by omega)).2
            refine q_iload dX0_fillColumn_53 rfl ?_
            refine q_icmp_ne 73 dX0_fillColumn_55 rfl (fun c55 => ?_) (fun c55 => ?_)
            · have n55 := mt (nI_eq (a := (tg (2 * i))) (b := go) (by omega) (by omega)).mpr c55
              refine wp_L (L2 := [some (.ref 15), some (.ref 5), some (.int (nI d)), some (.int (nI col)), some (.int (nI go)), some (.int (nI i)), some (.long (rgS go (tg (2 * i)) (carF (z_TV S (4 + 2 * i + d)) 0).toInt64 (rg0 i go))), none, some (.int (0))]) (by unfold rgS; rw [if_neg (c := (go = 8 ∨ go = 9) ∧ tg (2 * i) = go) (by first | exact fun z => pI_0 c42 z.1 | exact fun z => n55 z.2)]) ?_
              refine q_iinc8 (k9 := 1) dX0_fillColumn_73 rfl (Nat.le_of_ble_eq_true rfl) rfl ?_
              refine wp_L (L2 := [some (.ref 15), some (.ref 5), some (.int (nI d)), some (.int (nI col)), some (.int (nI go)), some (.int (nI i)), some (.long (rgS go (tg (2 * i)) (carF (z_TV S (4 + 2 * i + d)) 0).toInt64 (rg0 i go))), none, some (.int (1))]) rfl ?_
              refine q_goto 31 dX0_fillColumn_76 rfl ?_
              refine q_iload dX0_fillColumn_31 rfl ?_
              refine q_iconst (v := 1) dX0_fillColumn_33 rfl ?_
              refine q_icmp_gt 79 dX0_fillColumn_34 rfl (fun c34 => ?_) (fun c34 => ?_)
              · first | exact absurd (by decide) c34 | exact absurd c34 (by decide)
              · refine q_iload dX0_fillColumn_37 rfl ?_
                refine q_callSNv (ν := mX9_isProduct) dX0_fillColumn_39 (List.mem_of_getElem? (i := 0) rfl) vX9_isProduct (c_X9_isProduct hG (s_EQ S (fcF (z_TV S) d col go tg (z_EQ S) i)) (go) (by omega)) rfl rfl (Nat.le_of_ble_eq_true rfl) (Nat.le_of_ble_eq_true rfl) (Nat.le_of_ble_eq_true rfl) 0 (Nat.le_of_ble_eq_true rfl) ?_
                refine wp_eq (st2 := .int ((pI (go = 8 ∨ go = 9))) :: _) rfl ?_
                refine q_if_eq 73 dX0_fillColumn_42 rfl (fun c42 => ?_) (fun c42 => ?_)
                · refine wp_L (L2 := [some (.ref 15), some (.ref 5), some (.int (nI d)), some (.int (nI col)), some (.int (nI go)), some (.int (nI i)), some (.long (rgS go (tg (2 * i + 1)) (carF (z_TV S (4 + 2 * i + d)) 1).toInt64 (rgS go (tg (2 * i)) (carF (z_TV S (4 + 2 * i + d)) 0).toInt64 (rg0 i go)))), none, some (.int (1))]) (by unfold rgS; rw [if_neg (c := (go = 8 ∨ go = 9) ∧ tg (2 * i + 1) = go) (by first | exact fun z => pI_0 c42 z.1 | exact fun z => n55 z.2)]) ?_
                  refine q_iinc8 (k9 := 1) dX0_fillColumn_73 rfl (Nat.le_of_ble_eq_true rfl) rfl ?_
                  refine wp_L (L2 := [some (.ref 15), some (.ref 5), some (.int (nI d)), some (.int (nI col)), some (.int (nI go)), some (.int (nI i)), some (.long (rgS go (tg (2 * i + 1)) (carF (z_TV S (4 + 2 * i + d)) 1).toInt64 (rgS go (tg (2 * i)) (carF (z_TV S (4 + 2 * i + d)) 0).toInt64 (rg0 i go)))), none, some (.int (2))]) rfl ?_
                  refine q_goto 31 dX0_fillColumn_76 rfl ?_
                  refine q_iload dX0_fillColumn_31 rfl ?_
                  refine q_iconst (v := 1) dX0_fillColumn_33 rfl ?_
                  refine q_icmp_gt 79 dX0_fillColumn_34 rfl (fun c34 => ?_) (fun c34 => ?_)
                  · refine q_aload_n dX0_fillColumn_79 rfl ?_
                    refine q_get (j := 0) (v := .ref 16) dX0_fillColumn_80 (Nat.le_of_ble_eq_true rfl) rfl rfl iuX0 (Nat.le_of_ble_eq_true rfl) uw_144 rfl rfl ?_
                    refine q_bipush (v := 6) dX0_fillColumn_83 rfl ?_
                    refine q_iload dX0_fillColumn_85 rfl ?_
                    refine q_imul dX0_fillColumn_87 ?_
                    refine q_iload_n dX0_fillColumn_88 rfl ?_
                    refine q_iadd dX0_fillColumn_89 ?_
                    refine q_lload dX0_fillColumn_90 rfl ?_
                    refine q_last (f := (fcF (z_TV S) d col go tg (z_EQ S) i)) dX0_fillColumn_92 (Nat.le_of_ble_eq_true rfl) rfl (((6 * i) + col)) (by simp only [fa_lit, pk_mul, nI_add]) (by omega) (Nat.le_of_ble_eq_true rfl) ?_
                    refine wp_w (u_EQ g _ _) ?_
                    rw [ss_EQ]
                    refine q_iinc5 (k9 := 1) dX0_fillColumn_93 rfl (Nat.le_of_ble_eq_true rfl) rfl ?_
                    refine wp_L (L2 := [some (.ref 15), some (.ref 5), some (.int (nI d)), some (.int (nI col)), some (.int (nI go)), some (.int (nI (i + 1))), some (.long (rgS go (tg (2 * i + 1)) (carF (z_TV S (4 + 2 * i + d)) 1).toInt64 (rgS go (tg (2 * i)) (carF (z_TV S (4 + 2 * i + d)) 0).toInt64 (rg0 i go)))), none, some (.int (2))]) (by rw [show nI i + 1 = nI (i + 1) from nI_1 _]) ?_
                    refine q_goto 3 dX0_fillColumn_96 rfl ?_
                    refine wp_fg (L2 := [some (.ref 15), some (.ref 5), some (.int (nI d)), some (.int (nI col)), some (.int (nI go)), some (.int (nI (i + 1))), none, none, none]) ⟨rfl, rfl, rfl, rfl, rfl, rfl, trivial⟩ ?_
                    refine wp_w (w2 := mixW g (s_EQ S (fcF (z_TV S) d col go tg (z_EQ S) (i + 1)))) rfl ?_
                    exact ih (i + 1) (by omega)
                  · first | exact absurd (by decide) c34 | exact absurd c34 (by decide)
                · refine q_aload_n dX0_fillColumn_45 rfl ?_
                  refine q_iload dX0_fillColumn_46 rfl ?_
                  refine q_iload dX0_fillColumn_48 rfl ?_
                  refine q_callVv (ν := mX7_target) dX0_fillColumn_50 uw_343 vX7_target (c_X7_target_5 hG (s_EQ S (fcF (z_TV S) d col go tg (z_EQ S) i)) (i) (1) (by omega)) (Nat.le_of_ble_eq_true rfl) rfl rfl rfl rfl (Nat.le_of_ble_eq_true rfl) (Nat.le_of_ble_eq_true rfl) (Nat.le_of_ble_eq_true rfl) 0 (Nat.le_of_ble_eq_true rfl) ?_
                  refine wp_eq (st2 := .int ((presF ((z_TV S) 0) ((z_TV S) (16 + 2 * i + 1)))) :: _) rfl ?_
                  refine wp_top (y := nI (tg (2 * i + 1))) (t5 (2 * i + 1) (by omega)).1 ?_
                  have tl1 := (t5 (2 * i + 1) (by omega)).2
                  refine q_iload dX0_fillColumn_53 rfl ?_
                  refine q_icmp_ne 73 dX0_fillColumn_55 rfl (fun c55 => ?_) (fun c55 => ?_)
                  · have n55 := mt (nI_eq (a := (tg (2 * i + 1))) (b := go) (by omega) (by omega)).mpr c55
                    refine wp_L (L2 := [some (.ref 15), some (.ref 5), some (.int (nI d)), some (.int (nI col)), some (.int (nI go)), some (.int (nI i)), some (.long (rgS go (tg (2 * i + 1)) (carF (z_TV S (4 + 2 * i + d)) 1).toInt64 (rgS go (tg (2 * i)) (carF (z_TV S (4 + 2 * i + d)) 0).toInt64 (rg0 i go)))), none, some (.int (1))]) (by unfold rgS; rw [if_neg (c := (go = 8 ∨ go = 9) ∧ tg (2 * i + 1) = go) (by first | exact fun z => pI_0 c42 z.1 | exact fun z => n55 z.2)]) ?_
                    refine q_iinc8 (k9 := 1) dX0_fillColumn_73 rfl (Nat.le_of_ble_eq_true rfl) rfl ?_
                    refine wp_L (L2 := [some (.ref 15), some (.ref 5), some (.int (nI d)), some (.int (nI col)), some (.int (nI go)), some (.int (nI i)), some (.long (rgS go (tg (2 * i + 1)) (carF (z_TV S (4 + 2 * i + d)) 1).toInt64 (rgS go (tg (2 * i)) (carF (z_TV S (4 + 2 * i + d)) 0).toInt64 (rg0 i go)))), none, some (.int (2))]) rfl ?_
                    refine q_goto 31 dX0_fillColumn_76 rfl ?_
                    refine q_iload dX0_fillColumn_31 rfl ?_
                    refine q_iconst (v := 1) dX0_fillColumn_33 rfl ?_
                    refine q_icmp_gt 79 dX0_fillColumn_34 rfl (fun c34 => ?_) (fun c34 => ?_)
                    · refine q_aload_n dX0_fillColumn_79 rfl ?_
                      refine q_get (j := 0) (v := .ref 16) dX0_fillColumn_80 (Nat.le_of_ble_eq_true rfl) rfl rfl iuX0 (Nat.le_of_ble_eq_true rfl) uw_144 rfl rfl ?_
                      refine q_bipush (v := 6) dX0_fillColumn_83 rfl ?_
                      refine q_iload dX0_fillColumn_85 rfl ?_
                      refine q_imul dX0_fillColumn_87 ?_
                      refine q_iload_n dX0_fillColumn_88 rfl ?_
                      refine q_iadd dX0_fillColumn_89 ?_
                      refine q_lload dX0_fillColumn_90 rfl ?_
                      refine q_last (f := (fcF (z_TV S) d col go tg (z_EQ S) i)) dX0_fillColumn_92 (Nat.le_of_ble_eq_true rfl) rfl (((6 * i) + col)) (by simp only [fa_lit, pk_mul, nI_add]) (by omega) (Nat.le_of_ble_eq_true rfl) ?_
                      refine wp_w (u_EQ g _ _) ?_
                      rw [ss_EQ]
                      refine q_iinc5 (k9 := 1) dX0_fillColumn_93 rfl (Nat.le_of_ble_eq_true rfl) rfl ?_
                      refine wp_L (L2 := [some (.ref 15), some (.ref 5), some (.int (nI d)), some (.int (nI col)), some (.int (nI go)), some (.int (nI (i + 1))), some (.long (rgS go (tg (2 * i + 1)) (carF (z_TV S (4 + 2 * i + d)) 1).toInt64 (rgS go (tg (2 * i)) (carF (z_TV S (4 + 2 * i + d)) 0).toInt64 (rg0 i go)))), none, some (.int (2))]) (by rw [show nI i + 1 = nI (i + 1) from nI_1 _]) ?_
                      refine q_goto 3 dX0_fillColumn_96 rfl ?_
                      refine wp_fg (L2 := [some (.ref 15), some (.ref 5), some (.int (nI d)), some (.int (nI col)), some (.int (nI go)), some (.int (nI (i + 1))), none, none, none]) ⟨rfl, rfl, rfl, rfl, rfl, rfl, trivial⟩ ?_
                      refine wp_w (w2 := mixW g (s_EQ S (fcF (z_TV S) d col go tg (z_EQ S) (i + 1)))) rfl ?_
                      exact ih (i + 1) (by omega)
                    · first | exact absurd (by decide) c34 | exact absurd c34 (by decide)
                  · have n55 := (nI_eq (a := (tg (2 * i + 1))) (b := go) (by omega) (by omega)).mp c55
                    refine q_lload dX0_fillColumn_58 rfl ?_
                    refine q_aload_n dX0_fillColumn_60 rfl ?_
                    refine q_iload dX0_fillColumn_61 rfl ?_
                    refine q_iload_n dX0_fillColumn_63 rfl ?_
                    refine q_iload dX0_fillColumn_64 rfl ?_
                    refine q_callVv (ν := mX7_carried) dX0_fillColumn_66 uw_359 vX7_carried (c_X7_carried_5 hG (s_EQ S (fcF (z_TV S) d col go tg (z_EQ S) i)) (i) (d) (1) (by omega)) (Nat.le_of_ble_eq_true rfl) rfl rfl rfl rfl (Nat.le_of_ble_eq_true rfl) (Nat.le_of_ble_eq_true rfl) (Nat.le_of_ble_eq_true rfl) 0 (Nat.le_of_ble_eq_true rfl) ?_
                    refine wp_eq (st2 := .int ((carF ((z_TV S) (4 + 2 * i + d)) 1)) :: _) rfl ?_
                    refine q_i2l dX0_fillColumn_69 ?_
                    refine q_ladd dX0_fillColumn_70 ?_
                    refine q_lst6 dX0_fillColumn_71 (Nat.le_of_ble_eq_true rfl) rfl ?_
                    refine wp_L (L2 := [some (.ref 15), some (.ref 5), some (.int (nI d)), some (.int (nI col)), some (.int (nI go)), some (.int (nI i)), some (.long (rgS go (tg (2 * i + 1)) (carF (z_TV S (4 + 2 * i + d)) 1).toInt64 (rgS go (tg (2 * i)) (carF (z_TV S (4 + 2 * i + d)) 0).toInt64 (rg0 i go)))), none, some (.int (1))]) (by unfold rgS; rw [if_pos (c := (go = 8 ∨ go = 9) ∧ tg (2 * i + 1) = go) ⟨pI_1 c42, n55⟩]) ?_
                    refine q_iinc8 (k9 := 1) dX0_fillColumn_73 rfl (Nat.le_of_ble_eq_true rfl) rfl ?_
                    refine wp_L (L2 := [some (.ref 15), some (.ref 5), some (.int (nI d)), some (.int (nI col)), some (.int (nI go)), some (.int (nI i)), some (.long (rgS go (tg (2 * i + 1)) (carF (z_TV S (4 + 2 * i + d)) 1).toInt64 (rgS go (tg (2 * i)) (carF (z_TV S (4 + 2 * i + d)) 0).toInt64 (rg0 i go)))), none, some (.int (2))]) rfl ?_
                    refine q_goto 31 dX0_fillColumn_76 rfl ?_
                    refine q_iload dX0_fillColumn_31 rfl ?_
                    refine q_iconst (v := 1) dX0_fillColumn_33 rfl ?_
                    refine q_icmp_gt 79 dX0_fillColumn_34 rfl (fun c34 => ?_) (fun c34 => ?_)
                    · refine q_aload_n dX0_fillColumn_79 rfl ?_
                      refine q_get (j := 0) (v := .ref 16) dX0_fillColumn_80 (Nat.le_of_ble_eq_true rfl) rfl rfl iuX0 (Nat.le_of_ble_eq_true rfl) uw_144 rfl rfl ?_
                      refine q_bipush (v := 6) dX0_fillColumn_83 rfl ?_
                      refine q_iload dX0_fillColumn_85 rfl ?_
                      refine q_imul dX0_fillColumn_87 ?_
                      refine q_iload_n dX0_fillColumn_88 rfl ?_
                      refine q_iadd dX0_fillColumn_89 ?_
                      refine q_lload dX0_fillColumn_90 rfl ?_
                      refine q_last (f := (fcF (z_TV S) d col go tg (z_EQ S) i)) dX0_fillColumn_92 (Nat.le_of_ble_eq_true rfl) rfl (((6 * i) + col)) (by simp only [fa_lit, pk_mul, nI_add]) (by omega) (Nat.le_of_ble_eq_true rfl) ?_
                      refine wp_w (u_EQ g _ _) ?_
                      rw [ss_EQ]
                      refine q_iinc5 (k9 := 1) dX0_fillColumn_93 rfl (Nat.le_of_ble_eq_true rfl) rfl ?_
                      refine wp_L (L2 := [some (.ref 15), some (.ref 5), some (.int (nI d)), some (.int (nI col)), some (.int (nI go)), some (.int (nI (i + 1))), some (.long (rgS go (tg (2 * i + 1)) (carF (z_TV S (4 + 2 * i + d)) 1).toInt64 (rgS go (tg (2 * i)) (carF (z_TV S (4 + 2 * i + d)) 0).toInt64 (rg0 i go)))), none, some (.int (2))]) (by rw [show nI i + 1 = nI (i + 1) from nI_1 _]) ?_
                      refine q_goto 3 dX0_fillColumn_96 rfl ?_
                      refine wp_fg (L2 := [some (.ref 15), some (.ref 5), some (.int (nI d)), some (.int (nI col)), some (.int (nI go)), some (.int (nI (i + 1))), none, none, none]) ⟨rfl, rfl, rfl, rfl, rfl, rfl, trivial⟩ ?_
                      refine wp_w (w2 := mixW g (s_EQ S (fcF (z_TV S) d col go tg (z_EQ S) (i + 1)))) rfl ?_
                      exact ih (i + 1) (by omega)
                    · first | exact absurd (by decide) c34 | exact absurd c34 (by decide)
            · have n55 := (nI_eq (a := (tg (2 * i))) (b := go) (by omega) (by omega)).mp c55
              refine q_lload dX0_fillColumn_58 rfl ?_
              refine q_aload_n dX0_fillColumn_60 rfl ?_
              refine q_iload dX0_fillColumn_61 rfl ?_
              refine q_iload_n dX0_fillColumn_63 rfl ?_
              refine q_iload dX0_fillColumn_64 rfl ?_
              refine q_callVv (ν := mX7_carried) dX0_fillColumn_66 uw_359 vX7_carried (c_X7_carried_5 hG (s_EQ S (fcF (z_TV S) d col go tg (z_EQ S) i)) (i) (d) (0) (by omega)) (Nat.le_of_ble_eq_true rfl) rfl rfl rfl rfl (Nat.le_of_ble_eq_true rfl) (Nat.le_of_ble_eq_true rfl) (Nat.le_of_ble_eq_true rfl) 0 (Nat.le_of_ble_eq_true rfl) ?_
              refine wp_eq (st2 := .int ((carF ((z_TV S) (4 + 2 * i + d)) 0)) :: _) rfl ?_
              refine q_i2l dX0_fillColumn_69 ?_
              refine q_ladd dX0_fillColumn_70 ?_
              refine q_lst6 dX0_fillColumn_71 (Nat.le_of_ble_eq_true rfl) rfl ?_
              refine wp_L (L2 := [some (.ref 15), some (.ref 5), some (.int (nI d)), some (.int (nI col)), some (.int (nI go)), some (.int (nI i)), some (.long (rgS go (tg (2 * i)) (carF (z_TV S (4 + 2 * i + d)) 0).toInt64 (rg0 i go))), none, some (.int (0))]) (by unfold rgS; rw [if_pos (c := (go = 8 ∨ go = 9) ∧ tg (2 * i) = go) ⟨pI_1 c42, n55⟩]) ?_
              refine q_iinc8 (k9 := 1) dX0_fillColumn_73 rfl (Nat.le_of_ble_eq_true rfl) rfl ?_
              refine wp_L (L2 := [some (.ref 15), some (.ref 5), some (.int (nI d)), some (.int (nI col)), some (.int (nI go)), some (.int (nI i)), some (.long (rgS go (tg (2 * i)) (carF (z_TV S (4 + 2 * i + d)) 0).toInt64 (rg0 i go))), none, some (.int (1))]) rfl ?_
              refine q_goto 31 dX0_fillColumn_76 rfl ?_
              refine q_iload dX0_fillColumn_31 rfl ?_
              refine q_iconst (v := 1) dX0_fillColumn_33 rfl ?_
              refine q_icmp_gt 79 dX0_fillColumn_34 rfl (fun c34 => ?_) (fun c34 => ?_)
              · first | exact absurd (by decide) c34 | exact absurd c34 (by decide)
              · refine q_iload dX0_fillColumn_37 rfl ?_
                refine q_callSNv (ν := mX9_isProduct) dX0_fillColumn_39 (List.mem_of_getElem? (i := 0) rfl) vX9_isProduct (c_X9_isProduct hG (s_EQ S (fcF (z_TV S) d col go tg (z_EQ S) i)) (go) (by omega)) rfl rfl (Nat.le_of_ble_eq_true rfl) (Nat.le_of_ble_eq_true rfl) (Nat.le_of_ble_eq_true rfl) 0 (Nat.le_of_ble_eq_true rfl) ?_
                refine wp_eq (st2 := .int ((pI (go = 8 ∨ go = 9))) :: _) rfl ?_
                refine q_if_eq 73 dX0_fillColumn_42 rfl (fun c42 => ?_) (fun c42 => ?_)
                · refine wp_L (L2 := [some (.ref 15), some (.ref 5), some (.int (nI d)), some (.int (nI col)), some (.int (nI go)), some (.int (nI i)), some (.long (rgS go (tg (2 * i + 1)) (carF (z_TV S (4 + 2 * i + d)) 1).toInt64 (rgS go (tg (2 * i)) (carF (z_TV S (4 + 2 * i + d)) 0).toInt64 (rg0 i go)))), none, some (.int (1))]) (by unfold rgS; rw [if_neg (c := (go = 8 ∨ go = 9) ∧ tg (2 * i + 1) = go) (by first | exact fun z => pI_0 c42 z.1 | exact fun z => n55 z.2)]) ?_
                  refine q_iinc8 (k9 := 1) dX0_fillColumn_73 rfl (Nat.le_of_ble_eq_true rfl) rfl ?_
                  refine wp_L (L2 := [some (.ref 15), some (.ref 5), some (.int (nI d)), some (.int (nI col)), some (.int (nI go)), some (.int (nI i)), some (.long (rgS go (tg (2 * i + 1)) (carF (z_TV S (4 + 2 * i + d)) 1).toInt64 (rgS go (tg (2 * i)) (carF (z_TV S (4 + 2 * i + d)) 0).toInt64 (rg0 i go)))), none, some (.int (2))]) rfl ?_
                  refine q_goto 31 dX0_fillColumn_76 rfl ?_
                  refine q_iload dX0_fillColumn_31 rfl ?_
                  refine q_iconst (v := 1) dX0_fillColumn_33 rfl ?_
                  refine q_icmp_gt 79 dX0_fillColumn_34 rfl (fun c34 => ?_) (fun c34 => ?_)
                  · refine q_aload_n dX0_fillColumn_79 rfl ?_
                    refine q_get (j := 0) (v := .ref 16) dX0_fillColumn_80 (Nat.le_of_ble_eq_true rfl) rfl rfl iuX0 (Nat.le_of_ble_eq_true rfl) uw_144 rfl rfl ?_
                    refine q_bipush (v := 6) dX0_fillColumn_83 rfl ?_
                    refine q_iload dX0_fillColumn_85 rfl ?_
                    refine q_imul dX0_fillColumn_87 ?_
                    refine q_iload_n dX0_fillColumn_88 rfl ?_
                    refine q_iadd dX0_fillColumn_89 ?_
                    refine q_lload dX0_fillColumn_90 rfl ?_
                    refine q_last (f := (fcF (z_TV S) d col go tg (z_EQ S) i)) dX0_fillColumn_92 (Nat.le_of_ble_eq_true rfl) rfl (((6 * i) + col)) (by simp only [fa_lit, pk_mul, nI_add]) (by omega) (Nat.le_of_ble_eq_true rfl) ?_
                    refine wp_w (u_EQ g _ _) ?_
                    rw [ss_EQ]
                    refine q_iinc5 (k9 := 1) dX0_fillColumn_93 rfl (Nat.le_of_ble_eq_true rfl) rfl ?_
                    refine wp_L (L2 := [some (.ref 15), some (.ref 5), some (.int (nI d)), some (.int (nI col)), some (.int (nI go)), some (.int (nI (i + 1))), some (.long (rgS go (tg (2 * i + 1)) (carF (z_TV S (4 + 2 * i + d)) 1).toInt64 (rgS go (tg (2 * i)) (carF (z_TV S (4 + 2 * i + d)) 0).toInt64 (rg0 i go)))), none, some (.int (2))]) (by rw [show nI i + 1 = nI (i + 1) from nI_1 _]) ?_
                    refine q_goto 3 dX0_fillColumn_96 rfl ?_
                    refine wp_fg (L2 := [some (.ref 15), some (.ref 5), some (.int (nI d)), some (.int (nI col)), some (.int (nI go)), some (.int (nI (i + 1))), none, none, none]) ⟨rfl, rfl, rfl, rfl, rfl, rfl, trivial⟩ ?_
                    refine wp_w (w2 := mixW g (s_EQ S (fcF (z_TV S) d col go tg (z_EQ S) (i + 1)))) rfl ?_
                    exact ih (i + 1) (by omega)
                  · first | exact absurd (by decide) c34 | exact absurd c34 (by decide)
                · refine q_aload_n dX0_fillColumn_45 rfl ?_
                  refine q_iload dX0_fillColumn_46 rfl ?_
                  refine q_iload dX0_fillColumn_48 rfl ?_
                  refine q_callVv (ν := mX7_target) dX0_fillColumn_50 uw_343 vX7_target (c_X7_target_5 hG (s_EQ S (fcF (z_TV S) d col go tg (z_EQ S) i)) (i) (1) (by omega)) (Nat.le_of_ble_eq_true rfl) rfl rfl rfl rfl (Nat.le_of_ble_eq_true rfl) (Nat.le_of_ble_eq_true rfl) (Nat.le_of_ble_eq_true rfl) 0 (Nat.le_of_ble_eq_true rfl) ?_
                  refine wp_eq (st2 := .int ((presF ((z_TV S) 0) ((z_TV S) (16 + 2 * i + 1)))) :: _) rfl ?_
                  refine wp_top (y := nI (tg (2 * i + 1))) (t5 (2 * i + 1) (by omega)).1 ?_
                  have tl1 := (t5 (2 * i + 1) (by omega)).2
                  refine q_iload dX0_fillColumn_53 rfl ?_
                  refine q_icmp_ne 73 dX0_fillColumn_55 rfl (fun c55 => ?_) (fun c55 => ?_)
                  · have n55 := mt (nI_eq (a := (tg (2 * i + 1))) (b := go) (by omega) (by omega)).mpr c55
                    refine wp_L (L2 := [some (.ref 15), some (.ref 5), some (.int (nI d)), some (.int (nI col)), some (.int (nI go)), some (.int (nI i)), some (.long (rgS go (tg (2 * i + 1)) (carF (z_TV S (4 + 2 * i + d)) 1).toInt64 (rgS go (tg (2 * i)) (carF (z_TV S (4 + 2 * i + d)) 0).toInt64 (rg0 i go)))), none, some (.int (1))]) (by unfold rgS; rw [if_neg (c := (go = 8 ∨ go = 9) ∧ tg (2 * i + 1) = go) (by first | exact fun z => pI_0 c42 z.1 | exact fun z => n55 z.2)]) ?_
                    refine q_iinc8 (k9 := 1) dX0_fillColumn_73 rfl (Nat.le_of_ble_eq_true rfl) rfl ?_
                    refine wp_L (L2 := [some (.ref 15), some (.ref 5), some (.int (nI d)), some (.int (nI col)), some (.int (nI go)), some (.int (nI i)), some (.long (rgS go (tg (2 * i + 1)) (carF (z_TV S (4 + 2 * i + d)) 1).toInt64 (rgS go (tg (2 * i)) (carF (z_TV S (4 + 2 * i + d)) 0).toInt64 (rg0 i go)))), none, some (.int (2))]) rfl ?_
                    refine q_goto 31 dX0_fillColumn_76 rfl ?_
                    refine q_iload dX0_fillColumn_31 rfl ?_
                    refine q_iconst (v := 1) dX0_fillColumn_33 rfl ?_
                    refine q_icmp_gt 79 dX0_fillColumn_34 rfl (fun c34 => ?_) (fun c34 => ?_)
                    · refine q_aload_n dX0_fillColumn_79 rfl ?_
                      refine q_get (j := 0) (v := .ref 16) dX0_fillColumn_80 (Nat.le_of_ble_eq_true rfl) rfl rfl iuX0 (Nat.le_of_ble_eq_true rfl) uw_144 rfl rfl ?_
                      refine q_bipush (v := 6) dX0_fillColumn_83 rfl ?_
                      refine q_iload dX0_fillColumn_85 rfl ?_
                      refine q_imul dX0_fillColumn_87 ?_
                      refine q_iload_n dX0_fillColumn_88 rfl ?_
                      refine q_iadd dX0_fillColumn_89 ?_
                      refine q_lload dX0_fillColumn_90 rfl ?_
                      refine q_last (f := (fcF (z_TV S) d col go tg (z_EQ S) i)) dX0_fillColumn_92 (Nat.le_of_ble_eq_true rfl) rfl (((6 * i) + col)) (by simp only [fa_lit, pk_mul, nI_add]) (by omega) (Nat.le_of_ble_eq_true rfl) ?_
                      refine wp_w (u_EQ g _ _) ?_
                      rw [ss_EQ]
                      refine q_iinc5 (k9 := 1) dX0_fillColumn_93 rfl (Nat.le_of_ble_eq_true rfl) rfl ?_
                      refine wp_L (L2 := [some (.ref 15), some (.ref 5), some (.int (nI d)), some (.int (nI col)), some (.int (nI go)), some (.int (nI (i + 1))), some (.long (rgS go (tg (2 * i + 1)) (carF (z_TV S (4 + 2 * i + d)) 1).toInt64 (rgS go (tg (2 * i)) (carF (z_TV S (4 + 2 * i + d)) 0).toInt64 (rg0 i go)))), none, some (.int (2))]) (by rw [show nI i + 1 = nI (i + 1) from nI_1 _]) ?_
                      refine q_goto 3 dX0_fillColumn_96 rfl ?_
                      refine wp_fg (L2 := [some (.ref 15), some (.ref 5), some (.int (nI d)), some (.int (nI col)), some (.int (nI go)), some (.int (nI (i + 1))), none, none, none]) ⟨rfl, rfl, rfl, rfl, rfl, rfl, trivial⟩ ?_
                      refine wp_w (w2 := mixW g (s_EQ S (fcF (z_TV S) d col go tg (z_EQ S) (i + 1)))) rfl ?_
                      exact ih (i + 1) (by omega)
                    · first | exact absurd (by decide) c34 | exact absurd c34 (by decide)
                  · have n55 := (nI_eq (a := (tg (2 * i + 1))) (b := go) (by omega) (by omega)).mp c55
                    refine q_lload dX0_fillColumn_58 rfl ?_
                    refine q_aload_n dX0_fillColumn_60 rfl ?_
                    refine q_iload dX0_fillColumn_61 rfl ?_
                    refine q_iload_n dX0_fillColumn_63 rfl ?_
                    refine q_iload dX0_fillColumn_64 rfl ?_
                    refine q_callVv (ν := mX7_carried) dX0_fillColumn_66 uw_359 vX7_carried (c_X7_carried_5 hG (s_EQ S (fcF (z_TV S) d col go tg (z_EQ S) i)) (i) (d) (1) (by omega)) (Nat.le_of_ble_eq_true rfl) rfl rfl rfl rfl (Nat.le_of_ble_eq_true rfl) (Nat.le_of_ble_eq_true rfl) (Nat.le_of_ble_eq_true rfl) 0 (Nat.le_of_ble_eq_true rfl) ?_
                    refine wp_eq (st2 := .int ((carF ((z_TV S) (4 + 2 * i + d)) 1)) :: _) rfl ?_
                    refine q_i2l dX0_fillColumn_69 ?_
                    refine q_ladd dX0_fillColumn_70 ?_
                    refine q_lst6 dX0_fillColumn_71 (Nat.le_of_ble_eq_true rfl) rfl ?_
                    refine wp_L (L2 := [some (.ref 15), some (.ref 5), some (.int (nI d)), some (.int (nI col)), some (.int (nI go)), some (.int (nI i)), some (.long (rgS go (tg (2 * i + 1)) (carF (z_TV S (4 + 2 * i + d)) 1).toInt64 (rgS go (tg (2 * i)) (carF (z_TV S (4 + 2 * i + d)) 0).toInt64 (rg0 i go)))), none, some (.int (1))]) (by unfold rgS; rw [if_pos (c := (go = 8 ∨ go = 9) ∧ tg (2 * i + 1) = go) ⟨pI_1 c42, n55⟩]) ?_
                    refine q_iinc8 (k9 := 1) dX0_fillColumn_73 rfl (Nat.le_of_ble_eq_true rfl) rfl ?_
                    refine wp_L (L2 := [some (.ref 15), some (.ref 5), some (.int (nI d)), some (.int (nI col)), some (.int (nI go)), some (.int (nI i)), some (.long (rgS go (tg (2 * i + 1)) (carF (z_TV S (4 + 2 * i + d)) 1).toInt64 (rgS go (tg (2 * i)) (carF (z_TV S (4 + 2 * i + d)) 0).toInt64 (rg0 i go)))), none, some (.int (2))]) rfl ?_
                    refine q_goto 31 dX0_fillColumn_76 rfl ?_
                    refine q_iload dX0_fillColumn_31 rfl ?_
                    refine q_iconst (v := 1) dX0_fillColumn_33 rfl ?_
                    refine q_icmp_gt 79 dX0_fillColumn_34 rfl (fun c34 => ?_) (fun c34 => ?_)
                    · refine q_aload_n dX0_fillColumn_79 rfl ?_
                      refine q_get (j := 0) (v := .ref 16) dX0_fillColumn_80 (Nat.le_of_ble_eq_true rfl) rfl rfl iuX0 (Nat.le_of_ble_eq_true rfl) uw_144 rfl rfl ?_
                      refine q_bipush (v := 6) dX0_fillColumn_83 rfl ?_
                      refine q_iload dX0_fillColumn_85 rfl ?_
                      refine q_imul dX0_fillColumn_87 ?_
                      refine q_iload_n dX0_fillColumn_88 rfl ?_
                      refine q_iadd dX0_fillColumn_89 ?_
                      refine q_lload dX0_fillColumn_90 rfl ?_
                      refine q_last (f := (fcF (z_TV S) d col go tg (z_EQ S) i)) dX0_fillColumn_92 (Nat.le_of_ble_eq_true rfl) rfl (((6 * i) + col)) (by simp only [fa_lit, pk_mul, nI_add]) (by omega) (Nat.le_of_ble_eq_true rfl) ?_
                      refine wp_w (u_EQ g _ _) ?_
                      rw [ss_EQ]
                      refine q_iinc5 (k9 := 1) dX0_fillColumn_93 rfl (Nat.le_of_ble_eq_true rfl) rfl ?_
                      refine wp_L (L2 := [some (.ref 15), some (.ref 5), some (.int (nI d)), some (.int (nI col)), some (.int (nI go)), some (.int (nI (i + 1))), some (.long (rgS go (tg (2 * i + 1)) (carF (z_TV S (4 + 2 * i + d)) 1).toInt64 (rgS go (tg (2 * i)) (carF (z_TV S (4 + 2 * i + d)) 0).toInt64 (rg0 i go)))), none, some (.int (2))]) (by rw [show nI i + 1 = nI (i + 1) from nI_1 _]) ?_
                      refine q_goto 3 dX0_fillColumn_96 rfl ?_
                      refine wp_fg (L2 := [some (.ref 15), some (.ref 5), some (.int (nI d)), some (.int (nI col)), some (.int (nI go)), some (.int (nI (i + 1))), none, none, none]) ⟨rfl, rfl, rfl, rfl, rfl, rfl, trivial⟩ ?_
                      refine wp_w (w2 := mixW g (s_EQ S (fcF (z_TV S) d col go tg (z_EQ S) (i + 1)))) rfl ?_
                      exact ih (i + 1) (by omega)
                    · first | exact absurd (by decide) c34 | exact absurd c34 (by decide)
      · have n16 := (nI_eq (a := i) (b := go) (by omega) (by omega)).mp c16
        refine q_ldc2 dX0_fillColumn_19 uw_342 ?_
        refine q_goto 26 dX0_fillColumn_22 rfl ?_
        refine wp_topl (y := rg0 i go) (by rw [rg0, if_pos (by omega)]) ?_
        refine q_lst6 dX0_fillColumn_26 (Nat.le_of_ble_eq_true rfl) rfl ?_
        refine q_iconst (v := 0) dX0_fillColumn_28 rfl ?_
        refine q_ist8 dX0_fillColumn_29 (Nat.le_of_ble_eq_true rfl) rfl ?_
        refine q_iload dX0_fillColumn_31 rfl ?_
        refine q_iconst (v := 1) dX0_fillColumn_33 rfl ?_
        refine q_icmp_gt 79 dX0_fillColumn_34 rfl (fun c34 => ?_) (fun c34 => ?_)
        · first | exact absurd (by decide) c34 | exact absurd c34 (by decide)
        · refine q_iload dX0_fillColumn_37 rfl ?_
          refine q_callSNv (ν := mX9_isProduct) dX0_fillColumn_39 (List.mem_of_getElem? (i := 0) rfl) vX9_isProduct (c_X9_isProduct hG (s_EQ S (fcF (z_TV S) d col go tg (z_EQ S) i)) (go) (by omega)) rfl rfl (Nat.le_of_ble_eq_true rfl) (Nat.le_of_ble_eq_true rfl) (Nat.le_of_ble_eq_true rfl) 0 (Nat.le_of_ble_eq_true rfl) ?_
          refine wp_eq (st2 := .int ((pI (go = 8 ∨ go = 9))) :: _) rfl ?_
          refine q_if_eq 73 dX0_fillColumn_42 rfl (fun c42 => ?_) (fun c42 => ?_)
          · refine wp_L (L2 := [some (.ref 15), some (.ref 5), some (.int (nI d)), some (.int (nI col)), some (.int (nI go)), some (.int (nI i)), some (.long (rgS go (tg (2 * i)) (carF (z_TV S (4 + 2 * i + d)) 0).toInt64 (rg0 i go))), none, some (.int (0))]) (by unfold rgS; rw [if_neg (c := (go = 8 ∨ go = 9) ∧ tg (2 * i) = go) (by first | exact fun z => pI_0 c42 z.1 | exact fun z => n55 z.2)]) ?_
            refine q_iinc8 (k9 := 1) dX0_fillColumn_73 rfl (Nat.le_of_ble_eq_true rfl) rfl ?_
            refine wp_L (L2 := [some (.ref 15), some (.ref 5), some (.int (nI d)), some (.int (nI col)), some (.int (nI go)), some (.int (nI i)), some (.long (rgS go (tg (2 * i)) (carF (z_TV S (4 + 2 * i + d)) 0).toInt64 (rg0 i go))), none, some (.int (1))]) rfl ?_
            refine q_goto 31 dX0_fillColumn_76 rfl ?_
            refine q_iload dX0_fillColumn_31 rfl ?_
            refine q_iconst (v := 1) dX0_fillColumn_33 rfl ?_
            refine q_icmp_gt 79 dX0_fillColumn_34 rfl (fun c34 => ?_) (fun c34 => ?_)
            · first | exact absurd (by decide) c34 | exact absurd c34 (by decide)
            · refine q_iload dX0_fillColumn_37 rfl ?_
              refine q_callSNv (ν := mX9_isProduct) dX0_fillColumn_39 (List.mem_of_getElem? (i := 0) rfl) vX9_isProduct (c_X9_isProduct hG (s_EQ S (fcF (z_TV S) d col go tg (z_EQ S) i)) (go) (by omega)) rfl rfl (Nat.le_of_ble_eq_true rfl) (Nat.le_of_ble_eq_true rfl) (Nat.le_of_ble_eq_true rfl) 0 (Nat.le_of_ble_eq_true rfl) ?_
              refine wp_eq (st2 := .int ((pI (go = 8 ∨ go = 9))) :: _) rfl ?_
              refine q_if_eq 73 dX0_fillColumn_42 rfl (fun c42 => ?_) (fun c42 => ?_)
              · refine wp_L (L2 := [some (.ref 15), some (.ref 5), some (.int (nI d)), some (.int (nI col)), some (.int (nI go)), some (.int (nI i)), some (.long (rgS go (tg (2 * i + 1)) (carF (z_TV S (4 + 2 * i + d)) 1).toInt64 (rgS go (tg (2 * i)) (carF (z_TV S (4 + 2 * i + d)) 0).toInt64 (rg0 i go)))), none, some (.int (1))]) (by unfold rgS; rw [if_neg (c := (go = 8 ∨ go = 9) ∧ tg (2 * i + 1) = go) (by first | exact fun z => pI_0 c42 z.1 | exact fun z => n55 z.2)]) ?_
                refine q_iinc8 (k9 := 1) dX0_fillColumn_73 rfl (Nat.le_of_ble_eq_true rfl) rfl ?_
                refine wp_L (L2 := [some (.ref 15), some (.ref 5), some (.int (nI d)), some (.int (nI col)), some (.int (nI go)), some (.int (nI i)), some (.long (rgS go (tg (2 * i + 1)) (carF (z_TV S (4 + 2 * i + d)) 1).toInt64 (rgS go (tg (2 * i)) (carF (z_TV S (4 + 2 * i + d)) 0).toInt64 (rg0 i go)))), none, some (.int (2))]) rfl ?_
                refine q_goto 31 dX0_fillColumn_76 rfl ?_
                refine q_iload dX0_fillColumn_31 rfl ?_
                refine q_iconst (v := 1) dX0_fillColumn_33 rfl ?_
                refine q_icmp_gt 79 dX0_fillColumn_34 rfl (fun c34 => ?_) (fun c34 => ?_)
                · refine q_aload_n dX0_fillColumn_79 rfl ?_
                  refine q_get (j := 0) (v := .ref 16) dX0_fillColumn_80 (Nat.le_of_ble_eq_true rfl) rfl rfl iuX0 (Nat.le_of_ble_eq_true rfl) uw_144 rfl rfl ?_
                  refine q_bipush (v := 6) dX0_fillColumn_83 rfl ?_
                  refine q_iload dX0_fillColumn_85 rfl ?_
                  refine q_imul dX0_fillColumn_87 ?_
                  refine q_iload_n dX0_fillColumn_88 rfl ?_
                  refine q_iadd dX0_fillColumn_89 ?_
                  refine q_lload dX0_fillColumn_90 rfl ?_
                  refine q_last (f := (fcF (z_TV S) d col go tg (z_EQ S) i)) dX0_fillColumn_92 (Nat.le_of_ble_eq_true rfl) rfl (((6 * i) + col)) (by simp only [fa_lit, pk_mul, nI_add]) (by omega) (Nat.le_of_ble_eq_true rfl) ?_
                  refine wp_w (u_EQ g _ _) ?_
                  rw [ss_EQ]
                  refine q_iinc5 (k9 := 1) dX0_fillColumn_93 rfl (Nat.le_of_ble_eq_true rfl) rfl ?_
                  refine wp_L (L2 := [some (.ref 15), some (.ref 5), some (.int (nI d)), some (.int (nI col)), some (.int (nI go)), some (.int (nI (i + 1))), some (.long (rgS go (tg (2 * i + 1)) (carF (z_TV S (4 + 2 * i + d)) 1).toInt64 (rgS go (tg (2 * i)) (carF (z_TV S (4 + 2 * i + d)) 0).toInt64 (rg0 i go)))), none, some (.int (2))]) (by rw [show nI i + 1 = nI (i + 1) from nI_1 _]) ?_
                  refine q_goto 3 dX0_fillColumn_96 rfl ?_
                  refine wp_fg (L2 := [some (.ref 15), some (.ref 5), some (.int (nI d)), some (.int (nI col)), some (.int (nI go)), some (.int (nI (i + 1))), none, none, none]) ⟨rfl, rfl, rfl, rfl, rfl, rfl, trivial⟩ ?_
                  refine wp_w (w2 := mixW g (s_EQ S (fcF (z_TV S) d col go tg (z_EQ S) (i + 1)))) rfl ?_
                  exact ih (i + 1) (by omega)
                · first | exact absurd (by decide) c34 | exact absurd c34 (by decide)
              · refine q_aload_n dX0_fillColumn_45 rfl ?_
                refine q_iload dX0_fillColumn_46 rfl ?_
                refine q_iload dX0_fillColumn_48 rfl ?_
                refine q_callVv (ν := mX7_target) dX0_fillColumn_50 uw_343 vX7_target (c_X7_target_5 hG (s_EQ S (fcF (z_TV S) d col go tg (z_EQ S) i)) (i) (1) (by omega)) (Nat.le_of_ble_eq_true rfl) rfl rfl rfl rfl (Nat.le_of_ble_eq_true rfl) (Nat.le_of_ble_eq_true rfl) (Nat.le_of_ble_eq_true rfl) 0 (Nat.le_of_ble_eq_true rfl) ?_
                refine wp_eq (st2 := .int ((presF ((z_TV S) 0) ((z_TV S) (16 + 2 * i + 1)))) :: _) rfl ?_
                refine wp_top (y := nI (tg (2 * i + 1))) (t5 (2 * i + 1) (by omega)).1 ?_
                have tl1 := (t5 (2 * i + 1) (by omega)).2
                refine q_iload dX0_fillColumn_53 rfl ?_
                refine q_icmp_ne 73 dX0_fillColumn_55 rfl (fun c55 => ?_) (fun c55 => ?_)
                · have n55 := mt (nI_eq (a := (tg (2 * i + 1))) (b := go) (by omega) (by omega)).mpr c55
                  refine wp_L (L2 := [some (.ref 15), some (.ref 5), some (.int (nI d)), some (.int (nI col)), some (.int (nI go)), some (.int (nI i)), some (.long (rgS go (tg (2 * i + 1)) (carF (z_TV S (4 + 2 * i + d)) 1).toInt64 (rgS go (tg (2 * i)) (carF (z_TV S (4 + 2 * i + d)) 0).toInt64 (rg0 i go)))), none, some (.int (1))]) (by unfold rgS; rw [if_neg (c := (go = 8 ∨ go = 9) ∧ tg (2 * i + 1) = go) (by first | exact fun z => pI_0 c42 z.1 | exact fun z => n55 z.2)]) ?_
                  refine q_iinc8 (k9 := 1) dX0_fillColumn_73 rfl (Nat.le_of_ble_eq_true rfl) rfl ?_
                  refine wp_L (L2 := [some (.ref 15), some (.ref 5), some (.int (nI d)), some (.int (nI col)), some (.int (nI go)), some (.int (nI i)), some (.long (rgS go (tg (2 * i + 1)) (carF (z_TV S (4 + 2 * i + d)) 1).toInt64 (rgS go (tg (2 * i)) (carF (z_TV S (4 + 2 * i + d)) 0).toInt64 (rg0 i go)))), none, some (.int (2))]) rfl ?_
                  refine q_goto 31 dX0_fillColumn_76 rfl ?_
                  refine q_iload dX0_fillColumn_31 rfl ?_
                  refine q_iconst (v := 1) dX0_fillColumn_33 rfl ?_
                  refine q_icmp_gt 79 dX0_fillColumn_34 rfl (fun c34 => ?_) (fun c34 => ?_)
                  · refine q_aload_n dX0_fillColumn_79 rfl ?_
                    refine q_get (j := 0) (v := .ref 16) dX0_fillColumn_80 (Nat.le_of_ble_eq_true rfl) rfl rfl iuX0 (Nat.le_of_ble_eq_true rfl) uw_144 rfl rfl ?_
                    refine q_bipush (v := 6) dX0_fillColumn_83 rfl ?_
                    refine q_iload dX0_fillColumn_85 rfl ?_
                    refine q_imul dX0_fillColumn_87 ?_
                    refine q_iload_n dX0_fillColumn_88 rfl ?_
                    refine q_iadd dX0_fillColumn_89 ?_
                    refine q_lload dX0_fillColumn_90 rfl ?_
                    refine q_last (f := (fcF (z_TV S) d col go tg (z_EQ S) i)) dX0_fillColumn_92 (Nat.le_of_ble_eq_true rfl) rfl (((6 * i) + col)) (by simp only [fa_lit, pk_mul, nI_add]) (by omega) (Nat.le_of_ble_eq_true rfl) ?_
                    refine wp_w (u_EQ g _ _) ?_
                    rw [ss_EQ]
                    refine q_iinc5 (k9 := 1) dX0_fillColumn_93 rfl (Nat.le_of_ble_eq_true rfl) rfl ?_
                    refine wp_L (L2 := [some (.ref 15), some (.ref 5), some (.int (nI d)), some (.int (nI col)), some (.int (nI go)), some (.int (nI (i + 1))), some (.long (rgS go (tg (2 * i + 1)) (carF (z_TV S (4 + 2 * i + d)) 1).toInt64 (rgS go (tg (2 * i)) (carF (z_TV S (4 + 2 * i + d)) 0).toInt64 (rg0 i go)))), none, some (.int (2))]) (by rw [show nI i + 1 = nI (i + 1) from nI_1 _]) ?_
                    refine q_goto 3 dX0_fillColumn_96 rfl ?_
                    refine wp_fg (L2 := [some (.ref 15), some (.ref 5), some (.int (nI d)), some (.int (nI col)), some (.int (nI go)), some (.int (nI (i + 1))), none, none, none]) ⟨rfl, rfl, rfl, rfl, rfl, rfl, trivial⟩ ?_
                    refine wp_w (w2 := mixW g (s_EQ S (fcF (z_TV S) d col go tg (z_EQ S) (i + 1)))) rfl ?_
                    exact ih (i + 1) (by omega)
                  · first | exact absurd (by decide) c34 | exact absurd c34 (by decide)
                · have n55 := (nI_eq (a := (tg (2 * i + 1))) (b := go) (by omega) (by omega)).mp c55
                  refine q_lload dX0_fillColumn_58 rfl ?_
                  refine q_aload_n dX0_fillColumn_60 rfl ?_
                  refine q_iload dX0_fillColumn_61 rfl ?_
                  refine q_iload_n dX0_fillColumn_63 rfl ?_
                  refine q_iload dX0_fillColumn_64 rfl ?_
                  refine q_callVv (ν := mX7_carried) dX0_fillColumn_66 uw_359 vX7_carried (c_X7_carried_5 hG (s_EQ S (fcF (z_TV S) d col go tg (z_EQ S) i)) (i) (d) (1) (by omega)) (Nat.le_of_ble_eq_true rfl) rfl rfl rfl rfl (Nat.le_of_ble_eq_true rfl) (Nat.le_of_ble_eq_true rfl) (Nat.le_of_ble_eq_true rfl) 0 (Nat.le_of_ble_eq_true rfl) ?_
                  refine wp_eq (st2 := .int ((carF ((z_TV S) (4 + 2 * i + d)) 1)) :: _) rfl ?_
                  refine q_i2l dX0_fillColumn_69 ?_
                  refine q_ladd dX0_fillColumn_70 ?_
                  refine q_lst6 dX0_fillColumn_71 (Nat.le_of_ble_eq_true rfl) rfl ?_
                  refine wp_L (L2 := [some (.ref 15), some (.ref 5), some (.int (nI d)), some (.int (nI col)), some (.int (nI go)), some (.int (nI i)), some (.long (rgS go (tg (2 * i + 1)) (carF (z_TV S (4 + 2 * i + d)) 1).toInt64 (rgS go (tg (2 * i)) (carF (z_TV S (4 + 2 * i + d)) 0).toInt64 (rg0 i go)))), none, some (.int (1))]) (by unfold rgS; rw [if_pos (c := (go = 8 ∨ go = 9) ∧ tg (2 * i + 1) = go) ⟨pI_1 c42, n55⟩]) ?_
                  refine q_iinc8 (k9 := 1) dX0_fillColumn_73 rfl (Nat.le_of_ble_eq_true rfl) rfl ?_
                  refine wp_L (L2 := [some (.ref 15), some (.ref 5), some (.int (nI d)), some (.int (nI col)), some (.int (nI go)), some (.int (nI i)), some (.long (rgS go (tg (2 * i + 1)) (carF (z_TV S (4 + 2 * i + d)) 1).toInt64 (rgS go (tg (2 * i)) (carF (z_TV S (4 + 2 * i + d)) 0).toInt64 (rg0 i go)))), none, some (.int (2))]) rfl ?_
                  refine q_goto 31 dX0_fillColumn_76 rfl ?_
                  refine q_iload dX0_fillColumn_31 rfl ?_
                  refine q_iconst (v := 1) dX0_fillColumn_33 rfl ?_
                  refine q_icmp_gt 79 dX0_fillColumn_34 rfl (fun c34 => ?_) (fun c34 => ?_)
                  · refine q_aload_n dX0_fillColumn_79 rfl ?_
                    refine q_get (j := 0) (v := .ref 16) dX0_fillColumn_80 (Nat.le_of_ble_eq_true rfl) rfl rfl iuX0 (Nat.le_of_ble_eq_true rfl) uw_144 rfl rfl ?_
                    refine q_bipush (v := 6) dX0_fillColumn_83 rfl ?_
                    refine q_iload dX0_fillColumn_85 rfl ?_
                    refine q_imul dX0_fillColumn_87 ?_
                    refine q_iload_n dX0_fillColumn_88 rfl ?_
                    refine q_iadd dX0_fillColumn_89 ?_
                    refine q_lload dX0_fillColumn_90 rfl ?_
                    refine q_last (f := (fcF (z_TV S) d col go tg (z_EQ S) i)) dX0_fillColumn_92 (Nat.le_of_ble_eq_true rfl) rfl (((6 * i) + col)) (by simp only [fa_lit, pk_mul, nI_add]) (by omega) (Nat.le_of_ble_eq_true rfl) ?_
                    refine wp_w (u_EQ g _ _) ?_
                    rw [ss_EQ]
                    refine q_iinc5 (k9 := 1) dX0_fillColumn_93 rfl (Nat.le_of_ble_eq_true rfl) rfl ?_
                    refine wp_L (L2 := [some (.ref 15), some (.ref 5), some (.int (nI d)), some (.int (nI col)), some (.int (nI go)), some (.int (nI (i + 1))), some (.long (rgS go (tg (2 * i + 1)) (carF (z_TV S (4 + 2 * i + d)) 1).toInt64 (rgS go (tg (2 * i)) (carF (z_TV S (4 + 2 * i + d)) 0).toInt64 (rg0 i go)))), none, some (.int (2))]) (by rw [show nI i + 1 = nI (i + 1) from nI_1 _]) ?_
                    refine q_goto 3 dX0_fillColumn_96 rfl ?_
                    refine wp_fg (L2 := [some (.ref 15), some (.ref 5), some (.int (nI d)), some (.int (nI col)), some (.int (nI go)), some (.int (nI (i + 1))), none, none, none]) ⟨rfl, rfl, rfl, rfl, rfl, rfl, trivial⟩ ?_
                    refine wp_w (w2 := mixW g (s_EQ S (fcF (z_TV S) d col go tg (z_EQ S) (i + 1)))) rfl ?_
                    exact ih (i + 1) (by omega)
                  · first | exact absurd (by decide) c34 | exact absurd c34 (by decide)
          · refine q_aload_n dX0_fillColumn_45 rfl ?_
            refine q_iload dX0_fillColumn_46 rfl ?_
            refine q_iload dX0_fillColumn_48 rfl ?_
            refine q_callVv (ν := mX7_target) dX0_fillColumn_50 uw_343 vX7_target (c_X7_target_5 hG (s_EQ S (fcF (z_TV S) d col go tg (z_EQ S) i)) (i) (0) (by omega)) (Nat.le_of_ble_eq_true rfl) rfl rfl rfl rfl (Nat.le_of_ble_eq_true rfl) (Nat.le_of_ble_eq_true rfl) (Nat.le_of_ble_eq_true rfl) 0 (Nat.le_of_ble_eq_true rfl) ?_
            refine wp_eq (st2 := .int ((presF ((z_TV S) 0) ((z_TV S) (16 + 2 * i + 0)))) :: _) rfl ?_
            refine wp_top (y := nI (tg (2 * i))) (t5 (2 * i) (by omega)).1 ?_
            have tl0 := (t5 (2 * i) (by omega)).2
            refine q_iload dX0_fillColumn_53 rfl ?_
            refine q_icmp_ne 73 dX0_fillColumn_55 rfl (fun c55 => ?_) (fun c55 => ?_)
            · have n55 := mt (nI_eq (a := (tg (2 * i))) (b := go) (by omega) (by omega)).mpr c55
              refine wp_L (L2 := [some (.ref 15), some (.ref 5), some (.int (nI d)), some (.int (nI col)), some (.int (nI go)), some (.int (nI i)), some (.long (rgS go (tg (2 * i)) (carF (z_TV S (4 + 2 * i + d)) 0).toInt64 (rg0 i go))), none, some (.int (0))]) (by unfold rgS; rw [if_neg (c := (go = 8 ∨ go = 9) ∧ tg (2 * i) = go) (by first | exact fun z => pI_0 c42 z.1 | exact fun z => n55 z.2)]) ?_
              refine q_iinc8 (k9 := 1) dX0_fillColumn_73 rfl (Nat.le_of_ble_eq_true rfl) rfl ?_
              refine wp_L (L2 := [some (.ref 15), some (.ref 5), some (.int (nI d)), some (.int (nI col)), some (.int (nI go)), some (.int (nI i)), some (.long (rgS go (tg (2 * i)) (carF (z_TV S (4 + 2 * i + d)) 0).toInt64 (rg0 i go))), none, some (.int (1))]) rfl ?_
              refine q_goto 31 dX0_fillColumn_76 rfl ?_
              refine q_iload dX0_fillColumn_31 rfl ?_
              refine q_iconst (v := 1) dX0_fillColumn_33 rfl ?_
              refine q_icmp_gt 79 dX0_fillColumn_34 rfl (fun c34 => ?_) (fun c34 => ?_)
              · first | exact absurd (by decide) c34 | exact absurd c34 (by decide)
              · refine q_iload dX0_fillColumn_37 rfl ?_
                refine q_callSNv (ν := mX9_isProduct) dX0_fillColumn_39 (List.mem_of_getElem? (i := 0) rfl) vX9_isProduct (c_X9_isProduct hG (s_EQ S (fcF (z_TV S) d col go tg (z_EQ S) i)) (go) (by omega)) rfl rfl (Nat.le_of_ble_eq_true rfl) (Nat.le_of_ble_eq_true rfl) (Nat.le_of_ble_eq_true rfl) 0 (Nat.le_of_ble_eq_true rfl) ?_
                refine wp_eq (st2 := .int ((pI (go = 8 ∨ go = 9))) :: _) rfl ?_
                refine q_if_eq 73 dX0_fillColumn_42 rfl (fun c42 => ?_) (fun c42 => ?_)
                · refine wp_L (L2 := [some (.ref 15), some (.ref 5), some (.int (nI d)), some (.int (nI col)), some (.int (nI go)), some (.int (nI i)), some (.long (rgS go (tg (2 * i + 1)) (carF (z_TV S (4 + 2 * i + d)) 1).toInt64 (rgS go (tg (2 * i)) (carF (z_TV S (4 + 2 * i + d)) 0).toInt64 (rg0 i go)))), none, some (.int (1))]) (by unfold rgS; rw [if_neg (c := (go = 8 ∨ go = 9) ∧ tg (2 * i + 1) = go) (by first | exact fun z => pI_0 c42 z.1 | exact fun z => n55 z.2)]) ?_
                  refine q_iinc8 (k9 := 1) dX0_fillColumn_73 rfl (Nat.le_of_ble_eq_true rfl) rfl ?_
                  refine wp_L (L2 := [some (.ref 15), some (.ref 5), some (.int (nI d)), some (.int (nI col)), some (.int (nI go)), some (.int (nI i)), some (.long (rgS go (tg (2 * i + 1)) (carF (z_TV S (4 + 2 * i + d)) 1).toInt64 (rgS go (tg (2 * i)) (carF (z_TV S (4 + 2 * i + d)) 0).toInt64 (rg0 i go)))), none, some (.int (2))]) rfl ?_
                  refine q_goto 31 dX0_fillColumn_76 rfl ?_
                  refine q_iload dX0_fillColumn_31 rfl ?_
                  refine q_iconst (v := 1) dX0_fillColumn_33 rfl ?_
                  refine q_icmp_gt 79 dX0_fillColumn_34 rfl (fun c34 => ?_) (fun c34 => ?_)
                  · refine q_aload_n dX0_fillColumn_79 rfl ?_
                    refine q_get (j := 0) (v := .ref 16) dX0_fillColumn_80 (Nat.le_of_ble_eq_true rfl) rfl rfl iuX0 (Nat.le_of_ble_eq_true rfl) uw_144 rfl rfl ?_
                    refine q_bipush (v := 6) dX0_fillColumn_83 rfl ?_
                    refine q_iload dX0_fillColumn_85 rfl ?_
                    refine q_imul dX0_fillColumn_87 ?_
                    refine q_iload_n dX0_fillColumn_88 rfl ?_
                    refine q_iadd dX0_fillColumn_89 ?_
                    refine q_lload dX0_fillColumn_90 rfl ?_
                    refine q_last (f := (fcF (z_TV S) d col go tg (z_EQ S) i)) dX0_fillColumn_92 (Nat.le_of_ble_eq_true rfl) rfl (((6 * i) + col)) (by simp only [fa_lit, pk_mul, nI_add]) (by omega) (Nat.le_of_ble_eq_true rfl) ?_
                    refine wp_w (u_EQ g _ _) ?_
                    rw [ss_EQ]
                    refine q_iinc5 (k9 := 1) dX0_fillColumn_93 rfl (Nat.le_of_ble_eq_true rfl) rfl ?_
                    refine wp_L (L2 := [some (.ref 15), some (.ref 5), some (.int (nI d)), some (.int (nI col)), some (.int (nI go)), some (.int (nI (i + 1))), some (.long (rgS go (tg (2 * i + 1)) (carF (z_TV S (4 + 2 * i + d)) 1).toInt64 (rgS go (tg (2 * i)) (carF (z_TV S (4 + 2 * i + d)) 0).toInt64 (rg0 i go)))), none, some (.int (2))]) (by rw [show nI i + 1 = nI (i + 1) from nI_1 _]) ?_
                    refine q_goto 3 dX0_fillColumn_96 rfl ?_
                    refine wp_fg (L2 := [some (.ref 15), some (.ref 5), some (.int (nI d)), some (.int (nI col)), some (.int (nI go)), some (.int (nI (i + 1))), none, none, none]) ⟨rfl, rfl, rfl, rfl, rfl, rfl, trivial⟩ ?_
                    refine wp_w (w2 := mixW g (s_EQ S (fcF (z_TV S) d col go tg (z_EQ S) (i + 1)))) rfl ?_
                    exact ih (i + 1) (by omega)
                  · first | exact absurd (by decide) c34 | exact absurd c34 (by decide)
                · refine q_aload_n dX0_fillColumn_45 rfl ?_
                  refine q_iload dX0_fillColumn_46 rfl ?_
                  refine q_iload dX0_fillColumn_48 rfl ?_
                  refine q_callVv (ν := mX7_target) dX0_fillColumn_50 uw_343 vX7_target (c_X7_target_5 hG (s_EQ S (fcF (z_TV S) d col go tg (z_EQ S) i)) (i) (1) (by omega)) (Nat.le_of_ble_eq_true rfl) rfl rfl rfl rfl (Nat.le_of_ble_eq_true rfl) (Nat.le_of_ble_eq_true rfl) (Nat.le_of_ble_eq_true rfl) 0 (Nat.le_of_ble_eq_true rfl) ?_
                  refine wp_eq (st2 := .int ((presF ((z_TV S) 0) ((z_TV S) (16 + 2 * i + 1)))) :: _) rfl ?_
                  refine wp_top (y := nI (tg (2 * i + 1))) (t5 (2 * i + 1) (by omega)).1 ?_
                  have tl1 := (t5 (2 * i + 1) (by omega)).2
                  refine q_iload dX0_fillColumn_53 rfl ?_
                  refine q_icmp_ne 73 dX0_fillColumn_55 rfl (fun c55 => ?_) (fun c55 => ?_)
                  · have n55 := mt (nI_eq (a := (tg (2 * i + 1))) (b := go) (by omega) (by omega)).mpr c55
                    refine wp_L (L2 := [some (.ref 15), some (.ref 5), some (.int (nI d)), some (.int (nI col)), some (.int (nI go)), some (.int (nI i)), some (.long (rgS go (tg (2 * i + 1)) (carF (z_TV S (4 + 2 * i + d)) 1).toInt64 (rgS go (tg (2 * i)) (carF (z_TV S (4 + 2 * i + d)) 0).toInt64 (rg0 i go)))), none, some (.int (1))]) (by unfold rgS; rw [if_neg (c := (go = 8 ∨ go = 9) ∧ tg (2 * i + 1) = go) (by first | exact fun z => pI_0 c42 z.1 | exact fun z => n55 z.2)]) ?_
                    refine q_iinc8 (k9 := 1) dX0_fillColumn_73 rfl (Nat.le_of_ble_eq_true rfl) rfl ?_
                    refine wp_L (L2 := [some (.ref 15), some (.ref 5), some (.int (nI d)), some (.int (nI col)), some (.int (nI go)), some (.int (nI i)), some (.long (rgS go (tg (2 * i + 1)) (carF (z_TV S (4 + 2 * i + d)) 1).toInt64 (rgS go (tg (2 * i)) (carF (z_TV S (4 + 2 * i + d)) 0).toInt64 (rg0 i go)))), none, some (.int (2))]) rfl ?_
                    refine q_goto 31 dX0_fillColumn_76 rfl ?_
                    refine q_iload dX0_fillColumn_31 rfl ?_
                    refine q_iconst (v := 1) dX0_fillColumn_33 rfl ?_
                    refine q_icmp_gt 79 dX0_fillColumn_34 rfl (fun c34 => ?_) (fun c34 => ?_)
                    · refine q_aload_n dX0_fillColumn_79 rfl ?_
                      refine q_get (j := 0) (v := .ref 16) dX0_fillColumn_80 (Nat.le_of_ble_eq_true rfl) rfl rfl iuX0 (Nat.le_of_ble_eq_true rfl) uw_144 rfl rfl ?_
                      refine q_bipush (v := 6) dX0_fillColumn_83 rfl ?_
                      refine q_iload dX0_fillColumn_85 rfl ?_
                      refine q_imul dX0_fillColumn_87 ?_
                      refine q_iload_n dX0_fillColumn_88 rfl ?_
                      refine q_iadd dX0_fillColumn_89 ?_
                      refine q_lload dX0_fillColumn_90 rfl ?_
                      refine q_last (f := (fcF (z_TV S) d col go tg (z_EQ S) i)) dX0_fillColumn_92 (Nat.le_of_ble_eq_true rfl) rfl (((6 * i) + col)) (by simp only [fa_lit, pk_mul, nI_add]) (by omega) (Nat.le_of_ble_eq_true rfl) ?_
                      refine wp_w (u_EQ g _ _) ?_
                      rw [ss_EQ]
                      refine q_iinc5 (k9 := 1) dX0_fillColumn_93 rfl (Nat.le_of_ble_eq_true rfl) rfl ?_
                      refine wp_L (L2 := [some (.ref 15), some (.ref 5), some (.int (nI d)), some (.int (nI col)), some (.int (nI go)), some (.int (nI (i + 1))), some (.long (rgS go (tg (2 * i + 1)) (carF (z_TV S (4 + 2 * i + d)) 1).toInt64 (rgS go (tg (2 * i)) (carF (z_TV S (4 + 2 * i + d)) 0).toInt64 (rg0 i go)))), none, some (.int (2))]) (by rw [show nI i + 1 = nI (i + 1) from nI_1 _]) ?_
                      refine q_goto 3 dX0_fillColumn_96 rfl ?_
                      refine wp_fg (L2 := [some (.ref 15), some (.ref 5), some (.int (nI d)), some (.int (nI col)), some (.int (nI go)), some (.int (nI (i + 1))), none, none, none]) ⟨rfl, rfl, rfl, rfl, rfl, rfl, trivial⟩ ?_
                      refine wp_w (w2 := mixW g (s_EQ S (fcF (z_TV S) d col go tg (z_EQ S) (i + 1)))) rfl ?_
                      exact ih (i + 1) (by omega)
                    · first | exact absurd (by decide) c34 | exact absurd c34 (by decide)
                  · have n55 := (nI_eq (a := (tg (2 * i + 1))) (b := go) (by omega) (by omega)).mp c55
                    refine q_lload dX0_fillColumn_58 rfl ?_
                    refine q_aload_n dX0_fillColumn_60 rfl ?_
                    refine q_iload dX0_fillColumn_61 rfl ?_
                    refine q_iload_n dX0_fillColumn_63 rfl ?_
                    refine q_iload dX0_fillColumn_64 rfl ?_
                    refine q_callVv (ν := mX7_carried) dX0_fillColumn_66 uw_359 vX7_carried (c_X7_carried_5 hG (s_EQ S (fcF (z_TV S) d col go tg (z_EQ S) i)) (i) (d) (1) (by omega)) (Nat.le_of_ble_eq_true rfl) rfl rfl rfl rfl (Nat.le_of_ble_eq_true rfl) (Nat.le_of_ble_eq_true rfl) (Nat.le_of_ble_eq_true rfl) 0 (Nat.le_of_ble_eq_true rfl) ?_
                    refine wp_eq (st2 := .int ((carF ((z_TV S) (4 + 2 * i + d)) 1)) :: _) rfl ?_
                    refine q_i2l dX0_fillColumn_69 ?_
                    refine q_ladd dX0_fillColumn_70 ?_
                    refine q_lst6 dX0_fillColumn_71 (Nat.le_of_ble_eq_true rfl) rfl ?_
                    refine wp_L (L2 := [some (.ref 15), some (.ref 5), some (.int (nI d)), some (.int (nI col)), some (.int (nI go)), some (.int (nI i)), some (.long (rgS go (tg (2 * i + 1)) (carF (z_TV S (4 + 2 * i + d)) 1).toInt64 (rgS go (tg (2 * i)) (carF (z_TV S (4 + 2 * i + d)) 0).toInt64 (rg0 i go)))), none, some (.int (1))]) (by unfold rgS; rw [if_pos (c := (go = 8 ∨ go = 9) ∧ tg (2 * i + 1) = go) ⟨pI_1 c42, n55⟩]) ?_
                    refine q_iinc8 (k9 := 1) dX0_fillColumn_73 rfl (Nat.le_of_ble_eq_true rfl) rfl ?_
                    refine wp_L (L2 := [some (.ref 15), some (.ref 5), some (.int (nI d)), some (.int (nI col)), some (.int (nI go)), some (.int (nI i)), some (.long (rgS go (tg (2 * i + 1)) (carF (z_TV S (4 + 2 * i + d)) 1).toInt64 (rgS go (tg (2 * i)) (carF (z_TV S (4 + 2 * i + d)) 0).toInt64 (rg0 i go)))), none, some (.int (2))]) rfl ?_
                    refine q_goto 31 dX0_fillColumn_76 rfl ?_
                    refine q_iload dX0_fillColumn_31 rfl ?_
                    refine q_iconst (v := 1) dX0_fillColumn_33 rfl ?_
                    refine q_icmp_gt 79 dX0_fillColumn_34 rfl (fun c34 => ?_) (fun c34 => ?_)
                    · refine q_aload_n dX0_fillColumn_79 rfl ?_
                      refine q_get (j := 0) (v := .ref 16) dX0_fillColumn_80 (Nat.le_of_ble_eq_true rfl) rfl rfl iuX0 (Nat.le_of_ble_eq_true rfl) uw_144 rfl rfl ?_
                      refine q_bipush (v := 6) dX0_fillColumn_83 rfl ?_
                      refine q_iload dX0_fillColumn_85 rfl ?_
                      refine q_imul dX0_fillColumn_87 ?_
                      refine q_iload_n dX0_fillColumn_88 rfl ?_
                      refine q_iadd dX0_fillColumn_89 ?_
                      refine q_lload dX0_fillColumn_90 rfl ?_
                      refine q_last (f := (fcF (z_TV S) d col go tg (z_EQ S) i)) dX0_fillColumn_92 (Nat.le_of_ble_eq_true rfl) rfl (((6 * i) + col)) (by simp only [fa_lit, pk_mul, nI_add]) (by omega) (Nat.le_of_ble_eq_true rfl) ?_
                      refine wp_w (u_EQ g _ _) ?_
                      rw [ss_EQ]
                      refine q_iinc5 (k9 := 1) dX0_fillColumn_93 rfl (Nat.le_of_ble_eq_true rfl) rfl ?_
                      refine wp_L (L2 := [some (.ref 15), some (.ref 5), some (.int (nI d)), some (.int (nI col)), some (.int (nI go)), some (.int (nI (i + 1))), some (.long (rgS go (tg (2 * i + 1)) (carF (z_TV S (4 + 2 * i + d)) 1).toInt64 (rgS go (tg (2 * i)) (carF (z_TV S (4 + 2 * i + d)) 0).toInt64 (rg0 i go)))), none, some (.int (2))]) (by rw [show nI i + 1 = nI (i + 1) from nI_1 _]) ?_
                      refine q_goto 3 dX0_fillColumn_96 rfl ?_
                      refine wp_fg (L2 := [some (.ref 15), some (.ref 5), some (.int (nI d)), some (.int (nI col)), some (.int (nI go)), some (.int (nI (i + 1))), none, none, none]) ⟨rfl, rfl, rfl, rfl, rfl, rfl, trivial⟩ ?_
                      refine wp_w (w2 := mixW g (s_EQ S (fcF (z_TV S) d col go tg (z_EQ S) (i + 1)))) rfl ?_
                      exact ih (i + 1) (by omega)
                    · first | exact absurd (by decide) c34 | exact absurd c34 (by decide)
            · have n55 := (nI_eq (a := (tg (2 * i))) (b := go) (by omega) (by omega)).mp c55
              refine q_lload dX0_fillColumn_58 rfl ?_
              refine q_aload_n dX0_fillColumn_60 rfl ?_
              refine q_iload dX0_fillColumn_61 rfl ?_
              refine q_iload_n dX0_fillColumn_63 rfl ?_
              refine q_iload dX0_fillColumn_64 rfl ?_
              refine q_callVv (ν := mX7_carried) dX0_fillColumn_66 uw_359 vX7_carried (c_X7_carried_5 hG (s_EQ S (fcF (z_TV S) d col go tg (z_EQ S) i)) (i) (d) (0) (by omega)) (Nat.le_of_ble_eq_true rfl) rfl rfl rfl rfl (Nat.le_of_ble_eq_true rfl) (Nat.le_of_ble_eq_true rfl) (Nat.le_of_ble_eq_true rfl) 0 (Nat.le_of_ble_eq_true rfl) ?_
              refine wp_eq (st2 := .int ((carF ((z_TV S) (4 + 2 * i + d)) 0)) :: _) rfl ?_
              refine q_i2l dX0_fillColumn_69 ?_
              refine q_ladd dX0_fillColumn_70 ?_
              refine q_lst6 dX0_fillColumn_71 (Nat.le_of_ble_eq_true rfl) rfl ?_
              refine wp_L (L2 := [some (.ref 15), some (.ref 5), some (.int (nI d)), some (.int (nI col)), some (.int (nI go)), some (.int (nI i)), some (.long (rgS go (tg (2 * i)) (carF (z_TV S (4 + 2 * i + d)) 0).toInt64 (rg0 i go))), none, some (.int (0))]) (by unfold rgS; rw [if_pos (c := (go = 8 ∨ go = 9) ∧ tg (2 * i) = go) ⟨pI_1 c42, n55⟩]) ?_
              refine q_iinc8 (k9 := 1) dX0_fillColumn_73 rfl (Nat.le_of_ble_eq_true rfl) rfl ?_
              refine wp_L (L2 := [some (.ref 15), some (.ref 5), some (.int (nI d)), some (.int (nI col)), some (.int (nI go)), some (.int (nI i)), some (.long (rgS go (tg (2 * i)) (carF (z_TV S (4 + 2 * i + d)) 0).toInt64 (rg0 i go))), none, some (.int (1))]) rfl ?_
              refine q_goto 31 dX0_fillColumn_76 rfl ?_
              refine q_iload dX0_fillColumn_31 rfl ?_
              refine q_iconst (v := 1) dX0_fillColumn_33 rfl ?_
              refine q_icmp_gt 79 dX0_fillColumn_34 rfl (fun c34 => ?_) (fun c34 => ?_)
              · first | exact absurd (by decide) c34 | exact absurd c34 (by decide)
              · refine q_iload dX0_fillColumn_37 rfl ?_
                refine q_callSNv (ν := mX9_isProduct) dX0_fillColumn_39 (List.mem_of_getElem? (i := 0) rfl) vX9_isProduct (c_X9_isProduct hG (s_EQ S (fcF (z_TV S) d col go tg (z_EQ S) i)) (go) (by omega)) rfl rfl (Nat.le_of_ble_eq_true rfl) (Nat.le_of_ble_eq_true rfl) (Nat.le_of_ble_eq_true rfl) 0 (Nat.le_of_ble_eq_true rfl) ?_
                refine wp_eq (st2 := .int ((pI (go = 8 ∨ go = 9))) :: _) rfl ?_
                refine q_if_eq 73 dX0_fillColumn_42 rfl (fun c42 => ?_) (fun c42 => ?_)
                · refine wp_L (L2 := [some (.ref 15), some (.ref 5), some (.int (nI d)), some (.int (nI col)), some (.int (nI go)), some (.int (nI i)), some (.long (rgS go (tg (2 * i + 1)) (carF (z_TV S (4 + 2 * i + d)) 1).toInt64 (rgS go (tg (2 * i)) (carF (z_TV S (4 + 2 * i + d)) 0).toInt64 (rg0 i go)))), none, some (.int (1))]) (by unfold rgS; rw [if_neg (c := (go = 8 ∨ go = 9) ∧ tg (2 * i + 1) = go) (by first | exact fun z => pI_0 c42 z.1 | exact fun z => n55 z.2)]) ?_
                  refine q_iinc8 (k9 := 1) dX0_fillColumn_73 rfl (Nat.le_of_ble_eq_true rfl) rfl ?_
                  refine wp_L (L2 := [some (.ref 15), some (.ref 5), some (.int (nI d)), some (.int (nI col)), some (.int (nI go)), some (.int (nI i)), some (.long (rgS go (tg (2 * i + 1)) (carF (z_TV S (4 + 2 * i + d)) 1).toInt64 (rgS go (tg (2 * i)) (carF (z_TV S (4 + 2 * i + d)) 0).toInt64 (rg0 i go)))), none, some (.int (2))]) rfl ?_
                  refine q_goto 31 dX0_fillColumn_76 rfl ?_
                  refine q_iload dX0_fillColumn_31 rfl ?_
                  refine q_iconst (v := 1) dX0_fillColumn_33 rfl ?_
                  refine q_icmp_gt 79 dX0_fillColumn_34 rfl (fun c34 => ?_) (fun c34 => ?_)
                  · refine q_aload_n dX0_fillColumn_79 rfl ?_
                    refine q_get (j := 0) (v := .ref 16) dX0_fillColumn_80 (Nat.le_of_ble_eq_true rfl) rfl rfl iuX0 (Nat.le_of_ble_eq_true rfl) uw_144 rfl rfl ?_
                    refine q_bipush (v := 6) dX0_fillColumn_83 rfl ?_
                    refine q_iload dX0_fillColumn_85 rfl ?_
                    refine q_imul dX0_fillColumn_87 ?_
                    refine q_iload_n dX0_fillColumn_88 rfl ?_
                    refine q_iadd dX0_fillColumn_89 ?_
                    refine q_lload dX0_fillColumn_90 rfl ?_
                    refine q_last (f := (fcF (z_TV S) d col go tg (z_EQ S) i)) dX0_fillColumn_92 (Nat.le_of_ble_eq_true rfl) rfl (((6 * i) + col)) (by simp only [fa_lit, pk_mul, nI_add]) (by omega) (Nat.le_of_ble_eq_true rfl) ?_
                    refine wp_w (u_EQ g _ _) ?_
                    rw [ss_EQ]
                    refine q_iinc5 (k9 := 1) dX0_fillColumn_93 rfl (Nat.le_of_ble_eq_true rfl) rfl ?_
                    refine wp_L (L2 := [some (.ref 15), some (.ref 5), some (.int (nI d)), some (.int (nI col)), some (.int (nI go)), some (.int (nI (i + 1))), some (.long (rgS go (tg (2 * i + 1)) (carF (z_TV S (4 + 2 * i + d)) 1).toInt64 (rgS go (tg (2 * i)) (carF (z_TV S (4 + 2 * i + d)) 0).toInt64 (rg0 i go)))), none, some (.int (2))]) (by rw [show nI i + 1 = nI (i + 1) from nI_1 _]) ?_
                    refine q_goto 3 dX0_fillColumn_96 rfl ?_
                    refine wp_fg (L2 := [some (.ref 15), some (.ref 5), some (.int (nI d)), some (.int (nI col)), some (.int (nI go)), some (.int (nI (i + 1))), none, none, none]) ⟨rfl, rfl, rfl, rfl, rfl, rfl, trivial⟩ ?_
                    refine wp_w (w2 := mixW g (s_EQ S (fcF (z_TV S) d col go tg (z_EQ S) (i + 1)))) rfl ?_
                    exact ih (i + 1) (by omega)
                  · first | exact absurd (by decide) c34 | exact absurd c34 (by decide)
                · refine q_aload_n dX0_fillColumn_45 rfl ?_
                  refine q_iload dX0_fillColumn_46 rfl ?_
                  refine q_iload dX0_fillColumn_48 rfl ?_
                  refine q_callVv (ν := mX7_target) dX0_fillColumn_50 uw_343 vX7_target (c_X7_target_5 hG (s_EQ S (fcF (z_TV S) d col go tg (z_EQ S) i)) (i) (1) (by omega)) (Nat.le_of_ble_eq_true rfl) rfl rfl rfl rfl (Nat.le_of_ble_eq_true rfl) (Nat.le_of_ble_eq_true rfl) (Nat.le_of_ble_eq_true rfl) 0 (Nat.le_of_ble_eq_true rfl) ?_
                  refine wp_eq (st2 := .int ((presF ((z_TV S) 0) ((z_TV S) (16 + 2 * i + 1)))) :: _) rfl ?_
                  refine wp_top (y := nI (tg (2 * i + 1))) (t5 (2 * i + 1) (by omega)).1 ?_
                  have tl1 := (t5 (2 * i + 1) (by omega)).2
                  refine q_iload dX0_fillColumn_53 rfl ?_
                  refine q_icmp_ne 73 dX0_fillColumn_55 rfl (fun c55 => ?_) (fun c55 => ?_)
                  · have n55 := mt (nI_eq (a := (tg (2 * i + 1))) (b := go) (by omega) (by omega)).mpr c55
                    refine wp_L (L2 := [some (.ref 15), some (.ref 5), some (.int (nI d)), some (.int (nI col)), some (.int (nI go)), some (.int (nI i)), some (.long (rgS go (tg (2 * i + 1)) (carF (z_TV S (4 + 2 * i + d)) 1).toInt64 (rgS go (tg (2 * i)) (carF (z_TV S (4 + 2 * i + d)) 0).toInt64 (rg0 i go)))), none, some (.int (1))]) (by unfold rgS; rw [if_neg (c := (go = 8 ∨ go = 9) ∧ tg (2 * i + 1) = go) (by first | exact fun z => pI_0 c42 z.1 | exact fun z => n55 z.2)]) ?_
                    refine q_iinc8 (k9 := 1) dX0_fillColumn_73 rfl (Nat.le_of_ble_eq_true rfl) rfl ?_
                    refine wp_L (L2 := [some (.ref 15), some (.ref 5), some (.int (nI d)), some (.int (nI col)), some (.int (nI go)), some (.int (nI i)), some (.long (rgS go (tg (2 * i + 1)) (carF (z_TV S (4 + 2 * i + d)) 1).toInt64 (rgS go (tg (2 * i)) (carF (z_TV S (4 + 2 * i + d)) 0).toInt64 (rg0 i go)))), none, some (.int (2))]) rfl ?_
                    refine q_goto 31 dX0_fillColumn_76 rfl ?_
                    refine q_iload dX0_fillColumn_31 rfl ?_
                    refine q_iconst (v := 1) dX0_fillColumn_33 rfl ?_
                    refine q_icmp_gt 79 dX0_fillColumn_34 rfl (fun c34 => ?_) (fun c34 => ?_)
                    · refine q_aload_n dX0_fillColumn_79 rfl ?_
                      refine q_get (j := 0) (v := .ref 16) dX0_fillColumn_80 (Nat.le_of_ble_eq_true rfl) rfl rfl iuX0 (Nat.le_of_ble_eq_true rfl) uw_144 rfl rfl ?_
                      refine q_bipush (v := 6) dX0_fillColumn_83 rfl ?_
                      refine q_iload dX0_fillColumn_85 rfl ?_
                      refine q_imul dX0_fillColumn_87 ?_
                      refine q_iload_n dX0_fillColumn_88 rfl ?_
                      refine q_iadd dX0_fillColumn_89 ?_
                      refine q_lload dX0_fillColumn_90 rfl ?_
                      refine q_last (f := (fcF (z_TV S) d col go tg (z_EQ S) i)) dX0_fillColumn_92 (Nat.le_of_ble_eq_true rfl) rfl (((6 * i) + col)) (by simp only [fa_lit, pk_mul, nI_add]) (by omega) (Nat.le_of_ble_eq_true rfl) ?_
                      refine wp_w (u_EQ g _ _) ?_
                      rw [ss_EQ]
                      refine q_iinc5 (k9 := 1) dX0_fillColumn_93 rfl (Nat.le_of_ble_eq_true rfl) rfl ?_
                      refine wp_L (L2 := [some (.ref 15), some (.ref 5), some (.int (nI d)), some (.int (nI col)), some (.int (nI go)), some (.int (nI (i + 1))), some (.long (rgS go (tg (2 * i + 1)) (carF (z_TV S (4 + 2 * i + d)) 1).toInt64 (rgS go (tg (2 * i)) (carF (z_TV S (4 + 2 * i + d)) 0).toInt64 (rg0 i go)))), none, some (.int (2))]) (by rw [show nI i + 1 = nI (i + 1) from nI_1 _]) ?_
                      refine q_goto 3 dX0_fillColumn_96 rfl ?_
                      refine wp_fg (L2 := [some (.ref 15), some (.ref 5), some (.int (nI d)), some (.int (nI col)), some (.int (nI go)), some (.int (nI (i + 1))), none, none, none]) ⟨rfl, rfl, rfl, rfl, rfl, rfl, trivial⟩ ?_
                      refine wp_w (w2 := mixW g (s_EQ S (fcF (z_TV S) d col go tg (z_EQ S) (i + 1)))) rfl ?_
                      exact ih (i + 1) (by omega)
                    · first | exact absurd (by decide) c34 | exact absurd c34 (by decide)
                  · have n55 := (nI_eq (a := (tg (2 * i + 1))) (b := go) (by omega) (by omega)).mp c55
                    refine q_lload dX0_fillColumn_58 rfl ?_
                    refine q_aload_n dX0_fillColumn_60 rfl ?_
                    refine q_iload dX0_fillColumn_61 rfl ?_
                    refine q_iload_n dX0_fillColumn_63 rfl ?_
                    refine q_iload dX0_fillColumn_64 rfl ?_
                    refine q_callVv (ν := mX7_carried) dX0_fillColumn_66 uw_359 vX7_carried (c_X7_carried_5 hG (s_EQ S (fcF (z_TV S) d col go tg (z_EQ S) i)) (i) (d) (1) (by omega)) (Nat.le_of_ble_eq_true rfl) rfl rfl rfl rfl (Nat.le_of_ble_eq_true rfl) (Nat.le_of_ble_eq_true rfl) (Nat.le_of_ble_eq_true rfl) 0 (Nat.le_of_ble_eq_true rfl) ?_
                    refine wp_eq (st2 := .int ((carF ((z_TV S) (4 + 2 * i + d)) 1)) :: _) rfl ?_
                    refine q_i2l dX0_fillColumn_69 ?_
                    refine q_ladd dX0_fillColumn_70 ?_
                    refine q_lst6 dX0_fillColumn_71 (Nat.le_of_ble_eq_true rfl) rfl ?_
                    refine wp_L (L2 := [some (.ref 15), some (.ref 5), some (.int (nI d)), some (.int (nI col)), some (.int (nI go)), some (.int (nI i)), some (.long (rgS go (tg (2 * i + 1)) (carF (z_TV S (4 + 2 * i + d)) 1).toInt64 (rgS go (tg (2 * i)) (carF (z_TV S (4 + 2 * i + d)) 0).toInt64 (rg0 i go)))), none, some (.int (1))]) (by unfold rgS; rw [if_pos (c := (go = 8 ∨ go = 9) ∧ tg (2 * i + 1) = go) ⟨pI_1 c42, n55⟩]) ?_
                    refine q_iinc8 (k9 := 1) dX0_fillColumn_73 rfl (Nat.le_of_ble_eq_true rfl) rfl ?_
                    refine wp_L (L2 := [some (.ref 15), some (.ref 5), some (.int (nI d)), some (.int (nI col)), some (.int (nI go)), some (.int (nI i)), some (.long (rgS go (tg (2 * i + 1)) (carF (z_TV S (4 + 2 * i + d)) 1).toInt64 (rgS go (tg (2 * i)) (carF (z_TV S (4 + 2 * i + d)) 0).toInt64 (rg0 i go)))), none, some (.int (2))]) rfl ?_
                    refine q_goto 31 dX0_fillColumn_76 rfl ?_
                    refine q_iload dX0_fillColumn_31 rfl ?_
                    refine q_iconst (v := 1) dX0_fillColumn_33 rfl ?_
                    refine q_icmp_gt 79 dX0_fillColumn_34 rfl (fun c34 => ?_) (fun c34 => ?_)
                    · refine q_aload_n dX0_fillColumn_79 rfl ?_
                      refine q_get (j := 0) (v := .ref 16) dX0_fillColumn_80 (Nat.le_of_ble_eq_true rfl) rfl rfl iuX0 (Nat.le_of_ble_eq_true rfl) uw_144 rfl rfl ?_
                      refine q_bipush (v := 6) dX0_fillColumn_83 rfl ?_
                      refine q_iload dX0_fillColumn_85 rfl ?_
                      refine q_imul dX0_fillColumn_87 ?_
                      refine q_iload_n dX0_fillColumn_88 rfl ?_
                      refine q_iadd dX0_fillColumn_89 ?_
                      refine q_lload dX0_fillColumn_90 rfl ?_
                      refine q_last (f := (fcF (z_TV S) d col go tg (z_EQ S) i)) dX0_fillColumn_92 (Nat.le_of_ble_eq_true rfl) rfl (((6 * i) + col)) (by simp only [fa_lit, pk_mul, nI_add]) (by omega) (Nat.le_of_ble_eq_true rfl) ?_
                      refine wp_w (u_EQ g _ _) ?_
                      rw [ss_EQ]
                      refine q_iinc5 (k9 := 1) dX0_fillColumn_93 rfl (Nat.le_of_ble_eq_true rfl) rfl ?_
                      refine wp_L (L2 := [some (.ref 15), some (.ref 5), some (.int (nI d)), some (.int (nI col)), some (.int (nI go)), some (.int (nI (i + 1))), some (.long (rgS go (tg (2 * i + 1)) (carF (z_TV S (4 + 2 * i + d)) 1).toInt64 (rgS go (tg (2 * i)) (carF (z_TV S (4 + 2 * i + d)) 0).toInt64 (rg0 i go)))), none, some (.int (2))]) (by rw [show nI i + 1 = nI (i + 1) from nI_1 _]) ?_
                      refine q_goto 3 dX0_fillColumn_96 rfl ?_
                      refine wp_fg (L2 := [some (.ref 15), some (.ref 5), some (.int (nI d)), some (.int (nI col)), some (.int (nI go)), some (.int (nI (i + 1))), none, none, none]) ⟨rfl, rfl, rfl, rfl, rfl, rfl, trivial⟩ ?_
                      refine wp_w (w2 := mixW g (s_EQ S (fcF (z_TV S) d col go tg (z_EQ S) (i + 1)))) rfl ?_
                      exact ih (i + 1) (by omega)
                    · first | exact absurd (by decide) c34 | exact absurd c34 (by decide)
set_option maxRecDepth 100000 in
set_option maxHeartbeats 4000000 in
theorem c_X0_fillC_5 {g : G0} (hG : Gd g) (S : SS) (d : Nat) (col : Nat) (go : Nat) (ft : Nat) (N : Nat) (tg : Nat → Nat) (h1 : d < 2) (h2 : col < 6) (h3 : go < 10) (h4 : tgts (z_TV S) N ft tg) : ctu g mX0_fillColumn [.ref 15, .ref 5, .int (nI d), .int (nI col), .int (nI go)] (mixW g S) (mixW g (s_EQ S (fcF (z_TV S) d col go tg (z_EQ S) N))) := by
  refine ct_of hG [some (.ref 15), some (.ref 5), some (.int (nI d)), some (.int (nI col)), some (.int (nI go)), none, none, none, none] rfl rfl rfl (Nat.le_of_ble_eq_true rfl) (fun h => ?_) rfl
  refine q_iconst (v := 0) dX0_fillColumn_0 rfl ?_
  refine q_ist5 dX0_fillColumn_1 (Nat.le_of_ble_eq_true rfl) rfl ?_
  refine wp_w (w2 := mixW g (s_EQ S (fcF (z_TV S) d col go tg (z_EQ S) 0))) (by rw [show fcF (z_TV S) d col go tg (z_EQ S) 0 = z_EQ S from rfl, se_EQ]) ?_
  refine l_X0_fillC_5 hG S d col go ft N tg h1 h2 h3 h4 ?_ N 0 (by omega)
  exact q_vret dX0_fillColumn_99 rfl ⟨rfl, rfl⟩
