def gdZ : Nat → Int64 → Int64 → Prop
  | 0, _, b => b = 0
  | n + 1, a, b => b = 0 ∨ gdZ n b (a - a / b * b)
def ctQ (x y : Int64) : Nat → Int64 × Int64
  | 0 => (x / y, x - x / y * y)
  | i + 1 => (10 * (ctQ x y i).1 + (ctQ x y i).2 * 10 / y, (ctQ x y i).2 * 10 - (ctQ x y i).2 * 10 / y * y)
theorem bt_le {k i : Nat} (h : k / 2 ^ i % 2 = 1) : 2 ^ i ≤ k := by
  rcases Nat.lt_or_ge k (2 ^ i) with q | q
  · rw [Nat.div_eq_of_lt q] at h; omega
  · exact q
theorem p2_pos (i : Nat) : 1 ≤ 2 ^ i := Nat.one_le_two_pow
theorem dtS_congr {mx mx2 rt rt2 mo mo2 : Nat → Int64} {N k row : Nat} {col : Int32} (hrow : row < N) (h1 : ∀ a, a < N → ∀ b, b < N → mx (6 * a + b) = mx2 (6 * a + b)) (h2 : ∀ a, a < N → rt a = rt2 a) (h3 : ∀ j, j < k → mo j = mo2 j) : ∀ i, i ≤ N → dtS mx rt mo k row col i = dtS mx2 rt2 mo2 k row col i := by
  intro i
  induction i with
  | zero => intro _; rw [dtS, dtS]
  | succ i ih =>
    intro hi
    rw [dtS, dtS, ih (by omega)]
    have e : enM mx rt row col i = enM mx2 rt2 row col i := by unfold enM; rw [h1 row hrow i (by omega), h2 row hrow]
    by_cases hb : k / 2 ^ i % 2 = 1
    · rw [if_pos hb, if_pos hb, e, h3 (k - 2 ^ i) (by have := bt_le hb; have := p2_pos i; omega)]
    · rw [if_neg hb, if_neg hb]
theorem moM_congr {mx mx2 rt rt2 mo mo2 : Nat → Int64} {N : Nat} {col : Int32} (hN : N ≤ 6) (h1 : ∀ a, a < N → ∀ b, b < N → mx (6 * a + b) = mx2 (6 * a + b)) (h2 : ∀ a, a < N → rt a = rt2 a) : ∀ j, j < 2 ^ N → ∀ k, k ≤ j → moM mx rt N col mo j k = moM mx2 rt2 N col mo2 j k := by
  intro j
  induction j with
  | zero =>
    intro _ k hk
    obtain rfl : k = 0 := by omega
    rw [moM, moM]
    simp only [vp_updL, if_true]
  | succ j ih =>
    intro hj k hk
    have hp := p2_6 N (by omega)
    have hw := pc_6 N (by omega) (j + 1) (by omega) (by omega) hj
    rw [moM_s, moM_s]
    simp only [vp_updL]
    by_cases e : k = j + 1
    · rw [if_pos e, if_pos e]
      exact dtS_congr (by omega) h1 h2 (fun q hq => ih (by omega) q (by omega)) N (Nat.le_refl N)
    · rw [if_neg e, if_neg e]
      exact ih (by omega) k (by omega)
theorem dm_congr {mx mx2 rt rt2 mo mo2 : Nat → Int64} {N : Nat} {col : Int32} (hN : N ≤ 6) (h1 : ∀ a, a < N → ∀ b, b < N → mx (6 * a + b) = mx2 (6 * a + b)) (h2 : ∀ a, a < N → rt a = rt2 a) : dmM mx rt N col mo = dmM mx2 rt2 N col mo2 := by
  have hp := p2_6 N (by omega)
  exact moM_congr hN h1 h2 (2 ^ N - 1) (by omega) _ (Nat.le_refl _)
theorem mxJ_at (f : Nat → Int32) (d i : Nat) (mx : Nat → Int64) : ∀ n, n ≤ 6 → ∀ a b, b < 6 → mxJ f d i mx n (6 * a + b) = if a = i ∧ b < n then lmE f d i b else mx (6 * a + b) := by
  intro n
  induction n with
  | zero => intro _ a b hb; rw [mxJ, if_neg (by omega)]
  | succ n ih =>
    intro hn a b hb
    rw [mxJ]
    simp only [vp_updL]
    by_cases e : 6 * a + b = 6 * i + n
    · rw [if_pos e, if_pos (by omega)]
      congr 1
      omega
    · rw [if_neg e, ih (by omega) a b hb]
      by_cases e2 : a = i ∧ b < n
      · rw [if_pos e2, if_pos (by omega)]
      · rw [if_neg e2, if_neg (by omega)]
theorem mxI_at (f : Nat → Int32) (d N : Nat) (mx : Nat → Int64) (hN : N ≤ 6) : ∀ n, ∀ a b, b < 6 → mxI f d N mx n (6 * a + b) = if a < n ∧ b < N then lmE f d a b else mx (6 * a + b) := by
  intro n
  induction n with
  | zero => intro a b hb; rw [mxI, if_neg (by omega)]
  | succ n ih =>
    intro a b hb
    rw [mxI, mxJ_at f d n _ N hN a b hb, ih a b hb]
    by_cases e : a = n ∧ b < N
    · rw [if_pos e, if_pos (by omega), e.1]
    · rw [if_neg e]
      by_cases e2 : a < n ∧ b < N
      · rw [if_pos e2, if_pos (by omega)]
      · rw [if_neg e2, if_neg (by omega)]
theorem rtI_at (f : Nat → Int32) (d : Nat) (rt : Nat → Int64) : ∀ n a, rtI f d rt n a = if a < n then rtE f d a else rt a := by
  intro n
  induction n with
  | zero => intro a; rw [rtI, if_neg (by omega)]
  | succ n ih =>
    intro a
    rw [rtI]
    simp only [vp_updL]
    by_cases e : a = n
    · rw [if_pos e, if_pos (by omega), e]
    · rw [if_neg e, ih a]
      by_cases e2 : a < n
      · rw [if_pos e2, if_pos (by omega)]
      · rw [if_neg e2, if_neg (by omega)]
noncomputable def dtC (f : Nat → Int32) (d N : Nat) (col : Int32) : Int64 := dmM (mxI f d N (fun _ => 0) N) (rtI f d (fun _ => 0) N) N col (fun _ => 0)
theorem dm_eq {f : Nat → Int32} {d N : Nat} {col : Int32} {mx rt mo : Nat → Int64} (hN : N ≤ 6) : dmM (mxI f d N mx N) (rtI f d rt N) N col mo = dtC f d N col := by
  refine dm_congr hN (fun a ha b hb => ?_) (fun a ha => ?_)
  · rw [mxI_at f d N mx hN N a b (by omega), mxI_at f d N _ hN N a b (by omega), if_pos ⟨ha, hb⟩, if_pos ⟨ha, hb⟩]
  · rw [rtI_at, rtI_at, if_pos ha, if_pos ha]
noncomputable def upS (f : Nat → Int32) (d N : Nat) (q : Nat) : Nat → Int64
  | 0 => if gofI (f 0) (f 25) = nI q then 100 * (f (26 + d)).toInt64 * dtC f d N (-9) else 0
  | i + 1 => upS f d N q i + dtC f d N (nI i) * (prM f i (nI q) d).toInt64
noncomputable def fuM (f : Nat → Int32) (d N q : Nat) : Int64 := if q < 8 then dtC f d N (nI q) else upS f d N q N
noncomputable def flM (f : Nat → Int32) (d N q : Nat) : Int64 := if q < 8 then dtC f d N (-9) else dtC f d N (-9) * 100
noncomputable def fgM (f : Nat → Int32) (d N q : Nat) : Int64 := gdF 200 (fuM f d N q) (flM f d N q)
/-- the flow is a fraction -/
def fOk (f : Nat → Int32) (d N q : Nat) : Prop := gdZ 200 (fuM f d N q) (flM f d N q) ∧ ¬ fgM f d N q = 0
set_option maxRecDepth 100000 in
set_option maxHeartbeats 4000000 in
theorem l_X10_div {g : G0} {h : G1} (S : SS) {post : Option Value → (Nat → va_E) → Prop} {xp : String → (Nat → va_E) → Prop} (x y : Int64) : ∀ (n : Nat) (a b : Int64), gdZ n a b → post (some (.long (gdF n a b))) (mixW g S) → wp g h mX10_divisor (mixW g S) [some (.long (x)), none, some (.long (y)), none, some (.long (a)), none, some (.long (b)), none, none, none] [] 0 (QQ g h mX10_divisor post xp) 6 := by
  intro n
  induction n with
  | zero =>
    intro a b hz hp
    rw [gdZ] at hz
    refine q_lload dX10_divisor_6 rfl ?_
    refine q_lconst (v := 0) dX10_divisor_8 rfl ?_
    refine q_lcmp_eq 31 dX10_divisor_9 dX10_divisor_10 rfl (fun c9 => ?_) (fun c9 => ?_)
    · refine q_lload dX10_divisor_31 rfl ?_
      exact q_lret dX10_divisor_33 rfl hp
    · exact absurd hz c9
  | succ n ih =>
    intro a b hz hp
    rw [gdZ] at hz
    refine q_lload dX10_divisor_6 rfl ?_
    refine q_lconst (v := 0) dX10_divisor_8 rfl ?_
    refine q_lcmp_eq 31 dX10_divisor_9 dX10_divisor_10 rfl (fun c9 => ?_) (fun c9 => ?_)
    · refine q_lload dX10_divisor_31 rfl ?_
      exact q_lret dX10_divisor_33 rfl (by rw [gdF, if_pos c9] at hp; exact hp)
    · refine q_lload dX10_divisor_13 rfl ?_
      refine q_lload dX10_divisor_15 rfl ?_
      refine q_lrem dX10_divisor_17 c9 ?_
      refine q_lst8 dX10_divisor_18 (Nat.le_of_ble_eq_true rfl) rfl ?_
      refine q_lload dX10_divisor_20 rfl ?_
      refine q_lst4 dX10_divisor_22 (Nat.le_of_ble_eq_true rfl) rfl ?_
      refine q_lload dX10_divisor_24 rfl ?_
      refine q_lst6 dX10_divisor_26 (Nat.le_of_ble_eq_true rfl) rfl ?_
      refine q_goto 6 dX10_divisor_28 rfl ?_
      refine wp_fg (L2 := [some (.long (x)), none, some (.long (y)), none, some (.long (b)), none, some (.long ((a - a / b * b))), none, none, none]) ⟨rfl, rfl, rfl, rfl, trivial⟩ ?_
      exact ih b _ (hz.resolve_left c9) (by rw [gdF, if_neg c9] at hp; exact hp)
set_option maxRecDepth 100000 in
set_option maxHeartbeats 4000000 in
theorem c_X10_divisor {g : G0} (hG : Gd g) (S : SS) (x : Int64) (y : Int64)  (h1 : gdZ 200 x y) : ctv g mX10_divisor [.long x, .long y] (mixW g S) (.long (gdF 200 x y)) (mixW g S) := by
  refine ct_of hG [some (.long (x)), none, some (.long (y)), none, none, none, none, none, none, none] rfl rfl rfl (Nat.le_of_ble_eq_true rfl) (fun h => ?_) rfl
  refine q_lload_n dX10_divisor_0 rfl ?_
  refine q_lst4 dX10_divisor_1 (Nat.le_of_ble_eq_true rfl) rfl ?_
  refine q_lload_n dX10_divisor_3 rfl ?_
  refine q_lst6 dX10_divisor_4 (Nat.le_of_ble_eq_true rfl) rfl ?_
  exact l_X10_div S x y 200 x y h1 ⟨rfl, rfl⟩
set_option maxRecDepth 100000 in
set_option maxHeartbeats 4000000 in
theorem l_X10_cut {g : G0} {h : G1} (hG : Gd g) (S : SS) {Q : State → Prop} (x y : Int64) (k : Nat) (hy : ¬ y = 0) (hk : k ≤ 6) (kk : wp g h mX10_cut (mixW g S) [some (.long (x)), none, some (.long (y)), none, some (.int (nI k)), some (.long ((ctQ x y k).1)), none, some (.long ((ctQ x y k).2)), none, some (.int (nI k))] [] 0 Q 53) : ∀ (n i : Nat), i + n = k → wp g h mX10_cut (mixW g S) [some (.long (x)), none, some (.long (y)), none, some (.int (nI k)), some (.long ((ctQ x y i).1)), none, some (.long ((ctQ x y i).2)), none, some (.int (nI i))] [] 0 Q 13 := by
  intro n
  induction n with
  | zero =>
    intro i hq1
    obtain rfl : k = i := by omega
    refine q_iload dX10_cut_13 rfl ?_
    refine q_iload dX10_cut_15 rfl ?_
    refine q_icmp_ge 53 dX10_cut_17 rfl (fun c17 => ?_) (fun c17 => ?_)
    · have n17 := (nI_leI (a := k) (b := k) (by omega) (by omega)).mp c17
      exact kk
    · have n17 := mt (nI_leI (a := k) (b := k) (by omega) (by omega)).mpr c17
      omega
  | succ n ih =>
    intro i hq1
    refine q_iload dX10_cut_13 rfl ?_
    refine q_iload dX10_cut_15 rfl ?_
    refine q_icmp_ge 53 dX10_cut_17 rfl (fun c17 => ?_) (fun c17 => ?_)
    · have n17 := (nI_leI (a := k) (b := i) (by omega) (by omega)).mp c17
      omega
    · have n17 := mt (nI_leI (a := k) (b := i) (by omega) (by omega)).mpr c17
      refine q_lload dX10_cut_20 rfl ?_
      refine q_ldc2 dX10_cut_22 uw_1182 ?_
      refine q_lmul dX10_cut_25 ?_
      refine q_lst7 dX10_cut_26 (Nat.le_of_ble_eq_true rfl) rfl ?_
      refine q_ldc2 dX10_cut_28 uw_1182 ?_
      refine q_lload dX10_cut_31 rfl ?_
      refine q_lmul dX10_cut_33 ?_
      refine q_lload dX10_cut_34 rfl ?_
      refine q_lload_n dX10_cut_36 rfl ?_
      refine q_ldiv dX10_cut_37 hy ?_
      refine q_ladd dX10_cut_38 ?_
      refine q_lst5 dX10_cut_39 (Nat.le_of_ble_eq_true rfl) rfl ?_
      refine q_lload dX10_cut_41 rfl ?_
      refine q_lload_n dX10_cut_43 rfl ?_
      refine q_lrem dX10_cut_44 hy ?_
      refine q_lst7 dX10_cut_45 (Nat.le_of_ble_eq_true rfl) rfl ?_
      refine q_iinc9 (k9 := 1) dX10_cut_47 rfl (Nat.le_of_ble_eq_true rfl) rfl ?_
      refine wp_L (L2 := [some (.long (x)), none, some (.long (y)), none, some (.int (nI k)), some (.long (((10 * (ctQ x y i).1) + (((ctQ x y i).2 * 10) / y)))), none, some (.long ((((ctQ x y i).2 * 10) - ((ctQ x y i).2 * 10) / y * y))), none, some (.int (nI (i + 1)))]) (by rw [show nI i + 1 = nI (i + 1) from nI_1 _]) ?_
      refine q_goto 13 dX10_cut_50 rfl ?_
      refine wp_L (L2 := [some (.long (x)), none, some (.long (y)), none, some (.int (nI k)), some (.long ((ctQ x y (i + 1)).1)), none, some (.long ((ctQ x y (i + 1)).2)), none, some (.int (nI (i + 1)))]) rfl ?_
      exact ih (i + 1) (by omega)
set_option maxRecDepth 100000 in
set_option maxHeartbeats 4000000 in
theorem c_X10_cut {g : G0} (hG : Gd g) (S : SS) (x : Int64) (y : Int64) (k : Nat)  (h1 : ¬ y = 0) (h2 : k ≤ 6) : ctv g mX10_cut [.long x, .long y, .int (nI k)] (mixW g S) (.long ((ctQ x y k).1)) (mixW g S) := by
  refine ct_of hG [some (.long (x)), none, some (.long (y)), none, some (.int (nI k)), none, none, none, none, none] rfl rfl rfl (Nat.le_of_ble_eq_true rfl) (fun h => ?_) rfl
  refine q_lload_n dX10_cut_0 rfl ?_
  refine q_lload_n dX10_cut_1 rfl ?_
  refine q_ldiv dX10_cut_2 h1 ?_
  refine q_lst5 dX10_cut_3 (Nat.le_of_ble_eq_true rfl) rfl ?_
  refine q_lload_n dX10_cut_5 rfl ?_
  refine q_lload_n dX10_cut_6 rfl ?_
  refine q_lrem dX10_cut_7 h1 ?_
  refine q_lst7 dX10_cut_8 (Nat.le_of_ble_eq_true rfl) rfl ?_
  refine q_iconst (v := 0) dX10_cut_10 rfl ?_
  refine q_ist9 dX10_cut_11 (Nat.le_of_ble_eq_true rfl) rfl ?_
  refine wp_L (L2 := [some (.long (x)), none, some (.long (y)), none, some (.int (nI k)), some (.long ((ctQ x y 0).1)), none, some (.long ((ctQ x y 0).2)), none, some (.int (nI 0))]) rfl ?_
  refine l_X10_cut hG S x y k h1 h2 ?_ k 0 (by omega)
  refine q_lload dX10_cut_53 rfl ?_
  exact q_lret dX10_cut_55 rfl ⟨rfl, rfl⟩
set_option maxRecDepth 100000 in
set_option maxHeartbeats 4000000 in
theorem l_X10_ff82_27 {g : G0} {h : G1} (hG : Gd g) (S : SS) {Q : State → Prop} (N d q : Nat) (hN : z_NW S 0 = nI N) (hN6 : N ≤ 6) (hd : d < 2) (hq : q < 10) (kk : ∀ mo, wp g h mX10_findFlow (mixW g (s_UP (s_LO (s_MX (s_RT (s_MO S mo) (rtI (z_NW S) d (z_RT S) N)) (mxI (z_NW S) d N (z_MX S) N)) (dtC (z_NW S) d N (-9))) (upS (z_NW S) d N q N))) [some (.ref 26), some (.ref 27), some (.int (nI q)), some (.int (nI d)), some (.int (nI N)), some (.int (nI N)), none] [] 0 Q 122) : ∀ (n i : Nat) (mo : Nat → Int64), i + n = N → wp g h mX10_findFlow (mixW g (s_UP (s_LO (s_MX (s_RT (s_MO S mo) (rtI (z_NW S) d (z_RT S) N)) (mxI (z_NW S) d N (z_MX S) N)) (dtC (z_NW S) d N (-9))) (upS (z_NW S) d N q i))) [some (.ref 26), some (.ref 27), some (.int (nI q)), some (.int (nI d)), some (.int (nI N)), some (.int (nI i)), none] [] 0 Q 82 := by
  intro n
  induction n with
  | zero =>
    intro i mo hq1
    obtain rfl : N = i := by omega
    refine q_iload dX10_findFlow_82 rfl ?_
    refine q_iload dX10_findFlow_84 rfl ?_
    refine q_icmp_ge 122 dX10_findFlow_86 rfl (fun c86 => ?_) (fun c86 => ?_)
    · have n86 := (nI_leI (a := N) (b := N) (by omega) (by omega)).mp c86
      exact kk _
    · have n86 := mt (nI_leI (a := N) (b := N) (by omega) (by omega)).mpr c86
      omega
  | succ n ih =>
    intro i mo hq1
    refine q_iload dX10_findFlow_82 rfl ?_
    refine q_iload dX10_findFlow_84 rfl ?_
    refine q_icmp_ge 122 dX10_findFlow_86 rfl (fun c86 => ?_) (fun c86 => ?_)
    · have n86 := (nI_leI (a := N) (b := i) (by omega) (by omega)).mp c86
      omega
    · have n86 := mt (nI_leI (a := N) (b := i) (by omega) (by omega)).mpr c86
      refine q_aload_n dX10_findFlow_89 rfl ?_
      refine q_dup dX10_findFlow_90 rfl ?_
      refine q_get (j := 19) (v := .long ((upS (z_NW S) d N q i))) dX10_findFlow_91 (Nat.le_of_ble_eq_true rfl) rfl rfl iuX10 (Nat.le_of_ble_eq_true rfl) uw_943 rfl rfl ?_
      refine q_aload_n dX10_findFlow_94 rfl ?_
      refine q_iload dX10_findFlow_95 rfl ?_
      refine q_iload dX10_findFlow_97 rfl ?_
      refine q_callVv (ν := mX10_determinant) dX10_findFlow_99 uw_1160 vX10_determinant (c_X10_determinant hG (s_UP (s_LO (s_MX (s_RT (s_MO S mo) (rtI (z_NW S) d (z_RT S) N)) (mxI (z_NW S) d N (z_MX S) N)) (dtC (z_NW S) d N (-9))) (upS (z_NW S) d N q i)) (N) ((nI i)) hN6) (Nat.le_of_ble_eq_true rfl) rfl rfl rfl rfl (Nat.le_of_ble_eq_true rfl) (Nat.le_of_ble_eq_true rfl) (Nat.le_of_ble_eq_true rfl) 0 (Nat.le_of_ble_eq_true rfl) ?_
      refine wp_eq (st2 := .long ((dmM (mxI (z_NW S) d N (z_MX S) N) (rtI (z_NW S) d (z_RT S) N) N (nI i) mo)) :: _) rfl ?_
      rw [sc_MO_UP, sc_MO_LO, sc_MO_MX, sc_MO_RT, ss_MO]
      refine wp_w (w2 := mixW g (s_UP (s_LO (s_MX (s_RT (s_MO S (moM (mxI (z_NW S) d N (z_MX S) N) (rtI (z_NW S) d (z_RT S) N) N (nI i) mo (2 ^ N - 1))) (rtI (z_NW S) d (z_RT S) N)) (mxI (z_NW S) d N (z_MX S) N)) (dtC (z_NW S) d N (-9))) (upS (z_NW S) d N q i))) rfl ?_
      refine wp_topl (y := dtC (z_NW S) d N (nI i)) (dm_eq hN6) ?_
      refine q_aload_n dX10_findFlow_102 rfl ?_
      refine q_iload dX10_findFlow_103 rfl ?_
      refine q_iload_n dX10_findFlow_105 rfl ?_
      refine q_iload_n dX10_findFlow_106 rfl ?_
      refine q_callSv (ν := mX10_part) dX10_findFlow_107 uw_1157 vX10_part (c_X10_part_27 hG (s_UP (s_LO (s_MX (s_RT (s_MO S (moM (mxI (z_NW S) d N (z_MX S) N) (rtI (z_NW S) d (z_RT S) N) N (nI i) mo (2 ^ N - 1))) (rtI (z_NW S) d (z_RT S) N)) (mxI (z_NW S) d N (z_MX S) N)) (dtC (z_NW S) d N (-9))) (upS (z_NW S) d N q i)) (i) ((nI q)) (d) (by omega) (by omega)) rfl rfl (Nat.le_of_ble_eq_true rfl) (Nat.le_of_ble_eq_true rfl) (Nat.le_of_ble_eq_true rfl) 0 (Nat.le_of_ble_eq_true rfl) ?_
      refine wp_eq (st2 := .int ((prM (z_NW S) i (nI q) d)) :: _) rfl ?_
      refine q_i2l dX10_findFlow_110 ?_
      refine q_lmul dX10_findFlow_111 ?_
      refine q_ladd dX10_findFlow_112 ?_
      refine q_put (j := 19) (ty := .long) dX10_findFlow_113 (Nat.le_of_ble_eq_true rfl) rfl rfl iuX10 tyX10_ok nmX10 (Nat.le_of_ble_eq_true rfl) uw_943 rfl rfl rfl rfl rfl (Nat.le_of_ble_eq_true rfl) ?_
      refine wp_w (u_UP g _ _) ?_
      rw [ss_UP]
      refine q_iinc5 (k9 := 1) dX10_findFlow_116 rfl (Nat.le_of_ble_eq_true rfl) rfl ?_
      refine wp_L (L2 := [some (.ref 26), some (.ref 27), some (.int (nI q)), some (.int (nI d)), some (.int (nI N)), some (.int (nI (i + 1))), none]) (by rw [show nI i + 1 = nI (i + 1) from nI_1 _]) ?_
      refine q_goto 82 dX10_findFlow_119 rfl ?_
      refine wp_w (w2 := mixW g (s_UP (s_LO (s_MX (s_RT (s_MO S (moM (mxI (z_NW S) d N (z_MX S) N) (rtI (z_NW S) d (z_RT S) N) N (nI i) mo (2 ^ N - 1))) (rtI (z_NW S) d (z_RT S) N)) (mxI (z_NW S) d N (z_MX S) N)) (dtC (z_NW S) d N (-9))) (upS (z_NW S) d N q (i + 1)))) rfl ?_
      exact ih (i + 1) _ (by omega)
set_option maxRecDepth 100000 in
set_option maxHeartbeats 4000000 in
theorem c_X10_findFlow_27 {g : G0} (hG : Gd g) (S : SS) (q : Nat) (d : Nat) (N : Nat) (h1 : (z_NW S) 0 = nI N) (h2 : N ≤ 6) (h3 : d < 2) (h4 : fOk (z_NW S) d N q) (h5 : q < 10) : ct g mX10_findFlow [.ref 26, .ref 27, .int (nI q), .int (nI d)] (mixW g S) (fun v w1 => v = none ∧ ∃ mx rt mo, w1 = mixW g (s_UP (s_LO (s_MX (s_RT (s_MO S mo) rt) mx) (flM (z_NW S) d N q / fgM (z_NW S) d N q)) (fuM (z_NW S) d N q / fgM (z_NW S) d N q))) (fun _ _ => False) := by
  refine ct_of hG [some (.ref 26), some (.ref 27), some (.int (nI q)), some (.int (nI d)), none, none, none] rfl rfl rfl (Nat.le_of_ble_eq_true rfl) (fun h => ?_) rfl
  have hN6 := h2
  refine q_aload_n dX10_findFlow_0 rfl ?_
  refine q_iconst (v := 0) dX10_findFlow_1 rfl ?_
  refine q_iald (f := (z_NW S)) dX10_findFlow_2 (Nat.le_of_ble_eq_true rfl) rfl (0) rfl (Nat.le_of_ble_eq_true rfl) (Nat.le_of_ble_eq_true rfl) ?_
  refine wp_top (y := nI N) h1 ?_
  refine q_ist4 dX10_findFlow_3 (Nat.le_of_ble_eq_true rfl) rfl ?_
  refine q_aload_n dX10_findFlow_5 rfl ?_
  refine q_aload_n dX10_findFlow_6 rfl ?_
  refine q_iload_n dX10_findFlow_7 rfl ?_
  refine q_callVu (ν := mX10_layMatrix) dX10_findFlow_8 uw_1153 vX10_layMatrix (c_X10_layMatrix_27 hG S (d) (N) h1 h2 h3) (Nat.le_of_ble_eq_true rfl) rfl rfl rfl rfl (Nat.le_of_ble_eq_true rfl) (Nat.le_of_ble_eq_true rfl) (Nat.le_of_ble_eq_true rfl) 0 (Nat.le_of_ble_eq_true rfl) ?_
  refine wp_w (w2 := mixW g (s_MX (s_RT S (rtI (z_NW S) d (z_RT S) N)) (mxI (z_NW S) d N (z_MX S) N))) rfl ?_
  refine q_aload_n dX10_findFlow_11 rfl ?_
  refine q_aload_n dX10_findFlow_12 rfl ?_
  refine q_iload dX10_findFlow_13 rfl ?_
  refine q_bipush (v := (-9)) dX10_findFlow_15 rfl ?_
  refine q_callVv (ν := mX10_determinant) dX10_findFlow_17 uw_1160 vX10_determinant (c_X10_determinant hG (s_MX (s_RT S (rtI (z_NW S) d (z_RT S) N)) (mxI (z_NW S) d N (z_MX S) N)) (N) (((-9))) hN6) (Nat.le_of_ble_eq_true rfl) rfl rfl rfl rfl (Nat.le_of_ble_eq_true rfl) (Nat.le_of_ble_eq_true rfl) (Nat.le_of_ble_eq_true rfl) 0 (Nat.le_of_ble_eq_true rfl) ?_
  refine wp_eq (st2 := .long ((dmM (mxI (z_NW S) d N (z_MX S) N) (rtI (z_NW S) d (z_RT S) N) N ((-9)) (z_MO S))) :: _) rfl ?_
  rw [sc_MO_MX, sc_MO_RT]
  refine wp_w (w2 := mixW g (s_MX (s_RT (s_MO S (moM (mxI (z_NW S) d N (z_MX S) N) (rtI (z_NW S) d (z_RT S) N) N ((-9)) (z_MO S) (2 ^ N - 1))) (rtI (z_NW S) d (z_RT S) N)) (mxI (z_NW S) d N (z_MX S) N))) rfl ?_
  refine wp_topl (y := dtC (z_NW S) d N (-9)) (dm_eq hN6) ?_
  refine q_put (j := 20) (ty := .long) dX10_findFlow_20 (Nat.le_of_ble_eq_true rfl) rfl rfl iuX10 tyX10_ok nmX10 (Nat.le_of_ble_eq_true rfl) uw_944 rfl rfl rfl rfl rfl (Nat.le_of_ble_eq_true rfl) ?_
  refine wp_w (u_LO g _ _) ?_
  refine q_iload_n dX10_findFlow_23 rfl ?_
  refine q_bipush (v := 8) dX10_findFlow_24 rfl ?_
  refine q_icmp_ge 43 dX10_findFlow_26 rfl (fun c26 => ?_) (fun c26 => ?_)
  · have n26 := (nI_leI (a := 8) (b := q) (by omega) (by omega)).mp c26
    refine q_aload_n dX10_findFlow_43 rfl ?_
    refine q_aload_n dX10_findFlow_44 rfl ?_
    refine q_aload_n dX10_findFlow_45 rfl ?_
    refine q_bipush (v := 25) dX10_findFlow_46 rfl ?_
    refine q_iald (f := (z_NW S)) dX10_findFlow_48 (Nat.le_of_ble_eq_true rfl) rfl (25) rfl (Nat.le_of_ble_eq_true rfl) (Nat.le_of_ble_eq_true rfl) ?_
    refine q_callSv (ν := mX10_goalOf) dX10_findFlow_49 uw_1106 vX10_goalOf (c_X10_goalOf_27 hG (s_LO (s_MX (s_RT (s_MO S (moM (mxI (z_NW S) d N (z_MX S) N) (rtI (z_NW S) d (z_RT S) N) N ((-9)) (z_MO S) (2 ^ N - 1))) (rtI (z_NW S) d (z_RT S) N)) (mxI (z_NW S) d N (z_MX S) N)) (dtC (z_NW S) d N (-9))) ((((z_NW S) (25))))) rfl rfl (Nat.le_of_ble_eq_true rfl) (Nat.le_of_ble_eq_true rfl) (Nat.le_of_ble_eq_true rfl) 0 (Nat.le_of_ble_eq_true rfl) ?_
    refine wp_eq (st2 := .int ((gofI ((z_NW S) 0) (((z_NW S) (25))))) :: _) rfl ?_
    refine q_iload_n dX10_findFlow_52 rfl ?_
    refine q_icmp_ne 75 dX10_findFlow_53 rfl (fun c53 => ?_) (fun c53 => ?_)
    · refine q_lconst (v := 0) dX10_findFlow_75 rfl ?_
      refine wp_topl (y := upS (z_NW S) d N q 0) (by rw [upS, if_neg c53]) ?_
      refine q_put (j := 19) (ty := .long) dX10_findFlow_76 (Nat.le_of_ble_eq_true rfl) rfl rfl iuX10 tyX10_ok nmX10 (Nat.le_of_ble_eq_true rfl) uw_943 rfl rfl rfl rfl rfl (Nat.le_of_ble_eq_true rfl) ?_
      refine wp_w (u_UP g _ _) ?_
      refine q_iconst (v := 0) dX10_findFlow_79 rfl ?_
      refine q_ist5 dX10_findFlow_80 (Nat.le_of_ble_eq_true rfl) rfl ?_
      refine wp_L (L2 := [some (.ref 26), some (.ref 27), some (.int (nI q)), some (.int (nI d)), some (.int (nI N)), some (.int (nI 0)), none]) rfl ?_
      refine l_X10_ff82_27 hG S N d q h1 hN6 h3 h5 (fun mo => ?_) N 0 _ (by omega)
      refine wp_fg (L2 := [some (.ref 26), some (.ref 27), some (.int (nI q)), some (.int (nI d)), some (.int (nI N)), none, none]) ⟨rfl, rfl, rfl, rfl, rfl, trivial⟩ ?_
      refine q_aload_n dX10_findFlow_122 rfl ?_
      refine q_dup dX10_findFlow_123 rfl ?_
      refine q_get (j := 20) (v := .long ((dtC (z_NW S) d N (-9)))) dX10_findFlow_124 (Nat.le_of_ble_eq_true rfl) rfl rfl iuX10 (Nat.le_of_ble_eq_true rfl) uw_944 rfl rfl ?_
      refine q_ldc2 dX10_findFlow_127 uw_1076 ?_
      refine q_lmul dX10_findFlow_130 ?_
      refine q_put (j := 20) (ty := .long) dX10_findFlow_131 (Nat.le_of_ble_eq_true rfl) rfl rfl iuX10 tyX10_ok nmX10 (Nat.le_of_ble_eq_true rfl) uw_944 rfl rfl rfl rfl rfl (Nat.le_of_ble_eq_true rfl) ?_
      refine wp_w (u_LO g _ _) ?_
      rw [sc_LO_UP, ss_LO]
      refine wp_w (w2 := mixW g (s_UP (s_LO (s_MX (s_RT (s_MO S mo) (rtI (z_NW S) d (z_RT S) N)) (mxI (z_NW S) d N (z_MX S) N)) (flM (z_NW S) d N q)) (fuM (z_NW S) d N q))) (by rw [show (fuM (z_NW S) d N q) = (upS (z_NW S) d N q N) from if_neg (by omega), show (flM (z_NW S) d N q) = (((dtC (z_NW S) d N (-9)) * 100)) from if_neg (by omega)]) ?_
      refine q_aload_n dX10_findFlow_134 rfl ?_
      refine q_get (j := 19) (v := .long ((fuM (z_NW S) d N q))) dX10_findFlow_135 (Nat.le_of_ble_eq_true rfl) rfl rfl iuX10 (Nat.le_of_ble_eq_true rfl) uw_943 rfl rfl ?_
      refine q_aload_n dX10_findFlow_138 rfl ?_
      refine q_get (j := 20) (v := .long ((flM (z_NW S) d N q))) dX10_findFlow_139 (Nat.le_of_ble_eq_true rfl) rfl rfl iuX10 (Nat.le_of_ble_eq_true rfl) uw_944 rfl rfl ?_
      refine q_callSv (ν := mX10_divisor) dX10_findFlow_142 uw_1164 vX10_divisor (c_X10_divisor hG (s_UP (s_LO (s_MX (s_RT (s_MO S mo) (rtI (z_NW S) d (z_RT S) N)) (mxI (z_NW S) d N (z_MX S) N)) (flM (z_NW S) d N q)) (fuM (z_NW S) d N q)) (((fuM (z_NW S) d N q))) (((flM (z_NW S) d N q))) h4.1) rfl rfl (Nat.le_of_ble_eq_true rfl) (Nat.le_of_ble_eq_true rfl) (Nat.le_of_ble_eq_true rfl) 0 (Nat.le_of_ble_eq_true rfl) ?_
      refine wp_eq (st2 := .long ((gdF 200 ((fuM (z_NW S) d N q)) ((flM (z_NW S) d N q)))) :: _) rfl ?_
      refine wp_topl (y := fgM (z_NW S) d N q) rfl ?_
      refine q_lst5 dX10_findFlow_145 (Nat.le_of_ble_eq_true rfl) rfl ?_
      refine q_aload_n dX10_findFlow_147 rfl ?_
      refine q_dup dX10_findFlow_148 rfl ?_
      refine q_get (j := 19) (v := .long ((fuM (z_NW S) d N q))) dX10_findFlow_149 (Nat.le_of_ble_eq_true rfl) rfl rfl iuX10 (Nat.le_of_ble_eq_true rfl) uw_943 rfl rfl ?_
      refine q_lload dX10_findFlow_152 rfl ?_
      refine q_ldiv dX10_findFlow_154 h4.2 ?_
      refine q_put (j := 19) (ty := .long) dX10_findFlow_155 (Nat.le_of_ble_eq_true rfl) rfl rfl iuX10 tyX10_ok nmX10 (Nat.le_of_ble_eq_true rfl) uw_943 rfl rfl rfl rfl rfl (Nat.le_of_ble_eq_true rfl) ?_
      refine wp_w (u_UP g _ _) ?_
      rw [ss_UP]
      refine q_aload_n dX10_findFlow_158 rfl ?_
      refine q_dup dX10_findFlow_159 rfl ?_
      refine q_get (j := 20) (v := .long ((flM (z_NW S) d N q))) dX10_findFlow_160 (Nat.le_of_ble_eq_true rfl) rfl rfl iuX10 (Nat.le_of_ble_eq_true rfl) uw_944 rfl rfl ?_
      refine q_lload dX10_findFlow_163 rfl ?_
      refine q_ldiv dX10_findFlow_165 h4.2 ?_
      refine q_put (j := 20) (ty := .long) dX10_findFlow_166 (Nat.le_of_ble_eq_true rfl) rfl rfl iuX10 tyX10_ok nmX10 (Nat.le_of_ble_eq_true rfl) uw_944 rfl rfl rfl rfl rfl (Nat.le_of_ble_eq_true rfl) ?_
      refine wp_w (u_LO g _ _) ?_
      rw [sc_LO_UP, ss_LO]
      exact q_vret dX10_findFlow_169 rfl ⟨rfl, _, _, _, rfl⟩
    · refine q_ldc2 dX10_findFlow_56 uw_1076 ?_
      refine q_aload_n dX10_findFlow_59 rfl ?_
      refine q_bipush (v := 26) dX10_findFlow_60 rfl ?_
      refine q_iload_n dX10_findFlow_62 rfl ?_
      refine q_iadd dX10_findFlow_63 ?_
      refine q_iald (f := (z_NW S)) dX10_findFlow_64 (Nat.le_of_ble_eq_true rfl) rfl ((26 + d)) (by simp only [fa_lit, pk_mul, nI_add]) (by omega) (Nat.le_of_ble_eq_true rfl) ?_
      refine q_i2l dX10_findFlow_65 ?_
      refine q_lmul dX10_findFlow_66 ?_
      refine q_aload_n dX10_findFlow_67 rfl ?_
      refine q_get (j := 20) (v := .long ((dtC (z_NW S) d N (-9)))) dX10_findFlow_68 (Nat.le_of_ble_eq_true rfl) rfl rfl iuX10 (Nat.le_of_ble_eq_true rfl) uw_944 rfl rfl ?_
      refine q_lmul dX10_findFlow_71 ?_
      refine q_goto 76 dX10_findFlow_72 rfl ?_
      refine wp_topl (y := upS (z_NW S) d N q 0) (by rw [upS, if_pos c53]) ?_
      refine q_put (j := 19) (ty := .long) dX10_findFlow_76 (Nat.le_of_ble_eq_true rfl) rfl rfl iuX10 tyX10_ok nmX10 (Nat.le_of_ble_eq_true rfl) uw_943 rfl rfl rfl rfl rfl (Nat.le_of_ble_eq_true rfl) ?_
      refine wp_w (u_UP g _ _) ?_
      refine q_iconst (v := 0) dX10_findFlow_79 rfl ?_
      refine q_ist5 dX10_findFlow_80 (Nat.le_of_ble_eq_true rfl) rfl ?_
      refine wp_L (L2 := [some (.ref 26), some (.ref 27), some (.int (nI q)), some (.int (nI d)), some (.int (nI N)), some (.int (nI 0)), none]) rfl ?_
      refine l_X10_ff82_27 hG S N d q h1 hN6 h3 h5 (fun mo => ?_) N 0 _ (by omega)
      refine wp_fg (L2 := [some (.ref 26), some (.ref 27), some (.int (nI q)), some (.int (nI d)), some (.int (nI N)), none, none]) ⟨rfl, rfl, rfl, rfl, rfl, trivial⟩ ?_
      refine q_aload_n dX10_findFlow_122 rfl ?_
      refine q_dup dX10_findFlow_123 rfl ?_
      refine q_get (j := 20) (v := .long ((dtC (z_NW S) d N (-9)))) dX10_findFlow_124 (Nat.le_of_ble_eq_true rfl) rfl rfl iuX10 (Nat.le_of_ble_eq_true rfl) uw_944 rfl rfl ?_
      refine q_ldc2 dX10_findFlow_127 uw_1076 ?_
      refine q_lmul dX10_findFlow_130 ?_
      refine q_put (j := 20) (ty := .long) dX10_findFlow_131 (Nat.le_of_ble_eq_true rfl) rfl rfl iuX10 tyX10_ok nmX10 (Nat.le_of_ble_eq_true rfl) uw_944 rfl rfl rfl rfl rfl (Nat.le_of_ble_eq_true rfl) ?_
      refine wp_w (u_LO g _ _) ?_
      rw [sc_LO_UP, ss_LO]
      refine wp_w (w2 := mixW g (s_UP (s_LO (s_MX (s_RT (s_MO S mo) (rtI (z_NW S) d (z_RT S) N)) (mxI (z_NW S) d N (z_MX S) N)) (flM (z_NW S) d N q)) (fuM (z_NW S) d N q))) (by rw [show (fuM (z_NW S) d N q) = (upS (z_NW S) d N q N) from if_neg (by omega), show (flM (z_NW S) d N q) = (((dtC (z_NW S) d N (-9)) * 100)) from if_neg (by omega)]) ?_
      refine q_aload_n dX10_findFlow_134 rfl ?_
      refine q_get (j := 19) (v := .long ((fuM (z_NW S) d N q))) dX10_findFlow_135 (Nat.le_of_ble_eq_true rfl) rfl rfl iuX10 (Nat.le_of_ble_eq_true rfl) uw_943 rfl rfl ?_
      refine q_aload_n dX10_findFlow_138 rfl ?_
      refine q_get (j := 20) (v := .long ((flM (z_NW S) d N q))) dX10_findFlow_139 (Nat.le_of_ble_eq_true rfl) rfl rfl iuX10 (Nat.le_of_ble_eq_true rfl) uw_944 rfl rfl ?_
      refine q_callSv (ν := mX10_divisor) dX10_findFlow_142 uw_1164 vX10_divisor (c_X10_divisor hG (s_UP (s_LO (s_MX (s_RT (s_MO S mo) (rtI (z_NW S) d (z_RT S) N)) (mxI (z_NW S) d N (z_MX S) N)) (flM (z_NW S) d N q)) (fuM (z_NW S) d N q)) (((fuM (z_NW S) d N q))) (((flM (z_NW S) d N q))) h4.1) rfl rfl (Nat.le_of_ble_eq_true rfl) (Nat.le_of_ble_eq_true rfl) (Nat.le_of_ble_eq_true rfl) 0 (Nat.le_of_ble_eq_true rfl) ?_
      refine wp_eq (st2 := .long ((gdF 200 ((fuM (z_NW S) d N q)) ((flM (z_NW S) d N q)))) :: _) rfl ?_
      refine wp_topl (y := fgM (z_NW S) d N q) rfl ?_
      refine q_lst5 dX10_findFlow_145 (Nat.le_of_ble_eq_true rfl) rfl ?_
      refine q_aload_n dX10_findFlow_147 rfl ?_
      refine q_dup dX10_findFlow_148 rfl ?_
      refine q_get (j := 19) (v := .long ((fuM (z_NW S) d N q))) dX10_findFlow_149 (Nat.le_of_ble_eq_true rfl) rfl rfl iuX10 (Nat.le_of_ble_eq_true rfl) uw_943 rfl rfl ?_
      refine q_lload dX10_findFlow_152 rfl ?_
      refine q_ldiv dX10_findFlow_154 h4.2 ?_
      refine q_put (j := 19) (ty := .long) dX10_findFlow_155 (Nat.le_of_ble_eq_true rfl) rfl rfl iuX10 tyX10_ok nmX10 (Nat.le_of_ble_eq_true rfl) uw_943 rfl rfl rfl rfl rfl (Nat.le_of_ble_eq_true rfl) ?_
      refine wp_w (u_UP g _ _) ?_
      rw [ss_UP]
      refine q_aload_n dX10_findFlow_158 rfl ?_
      refine q_dup dX10_findFlow_159 rfl ?_
      refine q_get (j := 20) (v := .long ((flM (z_NW S) d N q))) dX10_findFlow_160 (Nat.le_of_ble_eq_true rfl) rfl rfl iuX10 (Nat.le_of_ble_eq_true rfl) uw_944 rfl rfl ?_
      refine q_lload dX10_findFlow_163 rfl ?_
      refine q_ldiv dX10_findFlow_165 h4.2 ?_
      refine q_put (j := 20) (ty := .long) dX10_findFlow_166 (Nat.le_of_ble_eq_true rfl) rfl rfl iuX10 tyX10_ok nmX10 (Nat.le_of_ble_eq_true rfl) uw_944 rfl rfl rfl rfl rfl (Nat.le_of_ble_eq_true rfl) ?_
      refine wp_w (u_LO g _ _) ?_
      rw [sc_LO_UP, ss_LO]
      exact q_vret dX10_findFlow_169 rfl ⟨rfl, _, _, _, rfl⟩
  · have n26 := mt (nI_leI (a := 8) (b := q) (by omega) (by omega)).mpr c26
    refine q_aload_n dX10_findFlow_29 rfl ?_
    refine q_aload_n dX10_findFlow_30 rfl ?_
    refine q_iload dX10_findFlow_31 rfl ?_
    refine q_iload_n dX10_findFlow_33 rfl ?_
    refine q_callVv (ν := mX10_determinant) dX10_findFlow_34 uw_1160 vX10_determinant (c_X10_determinant hG (s_LO (s_MX (s_RT (s_MO S (moM (mxI (z_NW S) d N (z_MX S) N) (rtI (z_NW S) d (z_RT S) N) N ((-9)) (z_MO S) (2 ^ N - 1))) (rtI (z_NW S) d (z_RT S) N)) (mxI (z_NW S) d N (z_MX S) N)) (dtC (z_NW S) d N (-9))) (N) ((nI q)) hN6) (Nat.le_of_ble_eq_true rfl) rfl rfl rfl rfl (Nat.le_of_ble_eq_true rfl) (Nat.le_of_ble_eq_true rfl) (Nat.le_of_ble_eq_true rfl) 0 (Nat.le_of_ble_eq_true rfl) ?_
    refine wp_eq (st2 := .long ((dmM (mxI (z_NW S) d N (z_MX S) N) (rtI (z_NW S) d (z_RT S) N) N (nI q) (moM (mxI (z_NW S) d N (z_MX S) N) (rtI (z_NW S) d (z_RT S) N) N ((-9)) (z_MO S) (2 ^ N - 1)))) :: _) rfl ?_
    rw [sc_MO_LO, sc_MO_MX, sc_MO_RT, ss_MO]
    refine wp_w (w2 := mixW g (s_LO (s_MX (s_RT (s_MO S (moM (mxI (z_NW S) d N (z_MX S) N) (rtI (z_NW S) d (z_RT S) N) N (nI q) (moM (mxI (z_NW S) d N (z_MX S) N) (rtI (z_NW S) d (z_RT S) N) N ((-9)) (z_MO S) (2 ^ N - 1)) (2 ^ N - 1))) (rtI (z_NW S) d (z_RT S) N)) (mxI (z_NW S) d N (z_MX S) N)) (dtC (z_NW S) d N (-9)))) rfl ?_
    refine wp_topl (y := dtC (z_NW S) d N (nI q)) (dm_eq hN6) ?_
    refine q_put (j := 19) (ty := .long) dX10_findFlow_37 (Nat.le_of_ble_eq_true rfl) rfl rfl iuX10 tyX10_ok nmX10 (Nat.le_of_ble_eq_true rfl) uw_943 rfl rfl rfl rfl rfl (Nat.le_of_ble_eq_true rfl) ?_
    refine wp_w (u_UP g _ _) ?_
    refine q_goto 134 dX10_findFlow_40 rfl ?_
    refine wp_w (w2 := mixW g (s_UP (s_LO (s_MX (s_RT (s_MO S (moM (mxI (z_NW S) d N (z_MX S) N) (rtI (z_NW S) d (z_RT S) N) N (nI q) (moM (mxI (z_NW S) d N (z_MX S) N) (rtI (z_NW S) d (z_RT S) N) N ((-9)) (z_MO S) (2 ^ N - 1)) (2 ^ N - 1))) (rtI (z_NW S) d (z_RT S) N)) (mxI (z_NW S) d N (z_MX S) N)) (flM (z_NW S) d N q)) (fuM (z_NW S) d N q))) (by rw [show (fuM (z_NW S) d N q) = (dtC (z_NW S) d N (nI q)) from if_pos (by omega), show (flM (z_NW S) d N q) = (dtC (z_NW S) d N (-9)) from if_pos (by omega)]) ?_
    refine q_aload_n dX10_findFlow_134 rfl ?_
    refine q_get (j := 19) (v := .long ((fuM (z_NW S) d N q))) dX10_findFlow_135 (Nat.le_of_ble_eq_true rfl) rfl rfl iuX10 (Nat.le_of_ble_eq_true rfl) uw_943 rfl rfl ?_
    refine q_aload_n dX10_findFlow_138 rfl ?_
    refine q_get (j := 20) (v := .long ((flM (z_NW S) d N q))) dX10_findFlow_139 (Nat.le_of_ble_eq_true rfl) rfl rfl iuX10 (Nat.le_of_ble_eq_true rfl) uw_944 rfl rfl ?_
    refine q_callSv (ν := mX10_divisor) dX10_findFlow_142 uw_1164 vX10_divisor (c_X10_divisor hG (s_UP (s_LO (s_MX (s_RT (s_MO S (moM (mxI (z_NW S) d N (z_MX S) N) (rtI (z_NW S) d (z_RT S) N) N (nI q) (moM (mxI (z_NW S) d N (z_MX S) N) (rtI (z_NW S) d (z_RT S) N) N ((-9)) (z_MO S) (2 ^ N - 1)) (2 ^ N - 1))) (rtI (z_NW S) d (z_RT S) N)) (mxI (z_NW S) d N (z_MX S) N)) (flM (z_NW S) d N q)) (fuM (z_NW S) d N q)) (((fuM (z_NW S) d N q))) (((flM (z_NW S) d N q))) h4.1) rfl rfl (Nat.le_of_ble_eq_true rfl) (Nat.le_of_ble_eq_true rfl) (Nat.le_of_ble_eq_true rfl) 0 (Nat.le_of_ble_eq_true rfl) ?_
    refine wp_eq (st2 := .long ((gdF 200 ((fuM (z_NW S) d N q)) ((flM (z_NW S) d N q)))) :: _) rfl ?_
    refine wp_topl (y := fgM (z_NW S) d N q) rfl ?_
    refine q_lst5 dX10_findFlow_145 (Nat.le_of_ble_eq_true rfl) rfl ?_
    refine q_aload_n dX10_findFlow_147 rfl ?_
    refine q_dup dX10_findFlow_148 rfl ?_
    refine q_get (j := 19) (v := .long ((fuM (z_NW S) d N q))) dX10_findFlow_149 (Nat.le_of_ble_eq_true rfl) rfl rfl iuX10 (Nat.le_of_ble_eq_true rfl) uw_943 rfl rfl ?_
    refine q_lload dX10_findFlow_152 rfl ?_
    refine q_ldiv dX10_findFlow_154 h4.2 ?_
    refine q_put (j := 19) (ty := .long) dX10_findFlow_155 (Nat.le_of_ble_eq_true rfl) rfl rfl iuX10 tyX10_ok nmX10 (Nat.le_of_ble_eq_true rfl) uw_943 rfl rfl rfl rfl rfl (Nat.le_of_ble_eq_true rfl) ?_
    refine wp_w (u_UP g _ _) ?_
    rw [ss_UP]
    refine q_aload_n dX10_findFlow_158 rfl ?_
    refine q_dup dX10_findFlow_159 rfl ?_
    refine q_get (j := 20) (v := .long ((flM (z_NW S) d N q))) dX10_findFlow_160 (Nat.le_of_ble_eq_true rfl) rfl rfl iuX10 (Nat.le_of_ble_eq_true rfl) uw_944 rfl rfl ?_
    refine q_lload dX10_findFlow_163 rfl ?_
    refine q_ldiv dX10_findFlow_165 h4.2 ?_
    refine q_put (j := 20) (ty := .long) dX10_findFlow_166 (Nat.le_of_ble_eq_true rfl) rfl rfl iuX10 tyX10_ok nmX10 (Nat.le_of_ble_eq_true rfl) uw_944 rfl rfl rfl rfl rfl (Nat.le_of_ble_eq_true rfl) ?_
    refine wp_w (u_LO g _ _) ?_
    rw [sc_LO_UP, ss_LO]
    exact q_vret dX10_findFlow_169 rfl ⟨rfl, _, _, _, rfl⟩
set_option maxRecDepth 100000 in
set_option maxHeartbeats 4000000 in
theorem l_X10_ff82_28 {g : G0} {h : G1} (hG : Gd g) (S : SS) {Q : State → Prop} (N d q : Nat) (hN : z_TR S 0 = nI N) (hN6 : N ≤ 6) (hd : d < 2) (hq : q < 10) (kk : ∀ mo, wp g h mX10_findFlow (mixW g (s_UP (s_LO (s_MX (s_RT (s_MO S mo) (rtI (z_TR S) d (z_RT S) N)) (mxI (z_TR S) d N (z_MX S) N)) (dtC (z_TR S) d N (-9))) (upS (z_TR S) d N q N))) [some (.ref 26), some (.ref 28), some (.int (nI q)), some (.int (nI d)), some (.int (nI N)), some (.int (nI N)), none] [] 0 Q 122) : ∀ (n i : Nat) (mo : Nat → Int64), i + n = N → wp g h mX10_findFlow (mixW g (s_UP (s_LO (s_MX (s_RT (s_MO S mo) (rtI (z_TR S) d (z_RT S) N)) (mxI (z_TR S) d N (z_MX S) N)) (dtC (z_TR S) d N (-9))) (upS (z_TR S) d N q i))) [some (.ref 26), some (.ref 28), some (.int (nI q)), some (.int (nI d)), some (.int (nI N)), some (.int (nI i)), none] [] 0 Q 82 := by
  intro n
  induction n with
  | zero =>
    intro i mo hq1
    obtain rfl : N = i := by omega
    refine q_iload dX10_findFlow_82 rfl ?_
    refine q_iload dX10_findFlow_84 rfl ?_
    refine q_icmp_ge 122 dX10_findFlow_86 rfl (fun c86 => ?_) (fun c86 => ?_)
    · have n86 := (nI_leI (a := N) (b := N) (by omega) (by omega)).mp c86
      exact kk _
    · have n86 := mt (nI_leI (a := N) (b := N) (by omega) (by omega)).mpr c86
      omega
  | succ n ih =>
    intro i mo hq1
    refine q_iload dX10_findFlow_82 rfl ?_
    refine q_iload dX10_findFlow_84 rfl ?_
    refine q_icmp_ge 122 dX10_findFlow_86 rfl (fun c86 => ?_) (fun c86 => ?_)
    · have n86 := (nI_leI (a := N) (b := i) (by omega) (by omega)).mp c86
      omega
    · have n86 := mt (nI_leI (a := N) (b := i) (by omega) (by omega)).mpr c86
      refine q_aload_n dX10_findFlow_89 rfl ?_
      refine q_dup dX10_findFlow_90 rfl ?_
      refine q_get (j := 19) (v := .long ((upS (z_TR S) d N q i))) dX10_findFlow_91 (Nat.le_of_ble_eq_true rfl) rfl rfl iuX10 (Nat.le_of_ble_eq_true rfl) uw_943 rfl rfl ?_
      refine q_aload_n dX10_findFlow_94 rfl ?_
      refine q_iload dX10_findFlow_95 rfl ?_
      refine q_iload dX10_findFlow_97 rfl ?_
      refine q_callVv (ν := mX10_determinant) dX10_findFlow_99 uw_1160 vX10_determinant (c_X10_determinant hG (s_UP (s_LO (s_MX (s_RT (s_MO S mo) (rtI (z_TR S) d (z_RT S) N)) (mxI (z_TR S) d N (z_MX S) N)) (dtC (z_TR S) d N (-9))) (upS (z_TR S) d N q i)) (N) ((nI i)) hN6) (Nat.le_of_ble_eq_true rfl) rfl rfl rfl rfl (Nat.le_of_ble_eq_true rfl) (Nat.le_of_ble_eq_true rfl) (Nat.le_of_ble_eq_true rfl) 0 (Nat.le_of_ble_eq_true rfl) ?_
      refine wp_eq (st2 := .long ((dmM (mxI (z_TR S) d N (z_MX S) N) (rtI (z_TR S) d (z_RT S) N) N (nI i) mo)) :: _) rfl ?_
      rw [sc_MO_UP, sc_MO_LO, sc_MO_MX, sc_MO_RT, ss_MO]
      refine wp_w (w2 := mixW g (s_UP (s_LO (s_MX (s_RT (s_MO S (moM (mxI (z_TR S) d N (z_MX S) N) (rtI (z_TR S) d (z_RT S) N) N (nI i) mo (2 ^ N - 1))) (rtI (z_TR S) d (z_RT S) N)) (mxI (z_TR S) d N (z_MX S) N)) (dtC (z_TR S) d N (-9))) (upS (z_TR S) d N q i))) rfl ?_
      refine wp_topl (y := dtC (z_TR S) d N (nI i)) (dm_eq hN6) ?_
      refine q_aload_n dX10_findFlow_102 rfl ?_
      refine q_iload dX10_findFlow_103 rfl ?_
      refine q_iload_n dX10_findFlow_105 rfl ?_
      refine q_iload_n dX10_findFlow_106 rfl ?_
      refine q_callSv (ν := mX10_part) dX10_findFlow_107 uw_1157 vX10_part (c_X10_part_28 hG (s_UP (s_LO (s_MX (s_RT (s_MO S (moM (mxI (z_TR S) d N (z_MX S) N) (rtI (z_TR S) d (z_RT S) N) N (nI i) mo (2 ^ N - 1))) (rtI (z_TR S) d (z_RT S) N)) (mxI (z_TR S) d N (z_MX S) N)) (dtC (z_TR S) d N (-9))) (upS (z_TR S) d N q i)) (i) ((nI q)) (d) (by omega) (by omega)) rfl rfl (Nat.le_of_ble_eq_true rfl) (Nat.le_of_ble_eq_true rfl) (Nat.le_of_ble_eq_true rfl) 0 (Nat.le_of_ble_eq_true rfl) ?_
      refine wp_eq (st2 := .int ((prM (z_TR S) i (nI q) d)) :: _) rfl ?_
      refine q_i2l dX10_findFlow_110 ?_
      refine q_lmul dX10_findFlow_111 ?_
      refine q_ladd dX10_findFlow_112 ?_
      refine q_put (j := 19) (ty := .long) dX10_findFlow_113 (Nat.le_of_ble_eq_true rfl) rfl rfl iuX10 tyX10_ok nmX10 (Nat.le_of_ble_eq_true rfl) uw_943 rfl rfl rfl rfl rfl (Nat.le_of_ble_eq_true rfl) ?_
      refine wp_w (u_UP g _ _) ?_
      rw [ss_UP]
      refine q_iinc5 (k9 := 1) dX10_findFlow_116 rfl (Nat.le_of_ble_eq_true rfl) rfl ?_
      refine wp_L (L2 := [some (.ref 26), some (.ref 28), some (.int (nI q)), some (.int (nI d)), some (.int (nI N)), some (.int (nI (i + 1))), none]) (by rw [show nI i + 1 = nI (i + 1) from nI_1 _]) ?_
      refine q_goto 82 dX10_findFlow_119 rfl ?_
      refine wp_w (w2 := mixW g (s_UP (s_LO (s_MX (s_RT (s_MO S (moM (mxI (z_TR S) d N (z_MX S) N) (rtI (z_TR S) d (z_RT S) N) N (nI i) mo (2 ^ N - 1))) (rtI (z_TR S) d (z_RT S) N)) (mxI (z_TR S) d N (z_MX S) N)) (dtC (z_TR S) d N (-9))) (upS (z_TR S) d N q (i + 1)))) rfl ?_
      exact ih (i + 1) _ (by omega)
set_option maxRecDepth 100000 in
set_option maxHeartbeats 4000000 in
theorem c_X10_findFlow_28 {g : G0} (hG : Gd g) (S : SS) (q : Nat) (d : Nat) (N : Nat) (h1 : (z_TR S) 0 = nI N) (h2 : N ≤ 6) (h3 : d < 2) (h4 : fOk (z_TR S) d N q) (h5 : q < 10) : ct g mX10_findFlow [.ref 26, .ref 28, .int (nI q), .int (nI d)] (mixW g S) (fun v w1 => v = none ∧ ∃ mx rt mo, w1 = mixW g (s_UP (s_LO (s_MX (s_RT (s_MO S mo) rt) mx) (flM (z_TR S) d N q / fgM (z_TR S) d N q)) (fuM (z_TR S) d N q / fgM (z_TR S) d N q))) (fun _ _ => False) := by
  refine ct_of hG [some (.ref 26), some (.ref 28), some (.int (nI q)), some (.int (nI d)), none, none, none] rfl rfl rfl (Nat.le_of_ble_eq_true rfl) (fun h => ?_) rfl
  have hN6 := h2
  refine q_aload_n dX10_findFlow_0 rfl ?_
  refine q_iconst (v := 0) dX10_findFlow_1 rfl ?_
  refine q_iald (f := (z_TR S)) dX10_findFlow_2 (Nat.le_of_ble_eq_true rfl) rfl (0) rfl (Nat.le_of_ble_eq_true rfl) (Nat.le_of_ble_eq_true rfl) ?_
  refine wp_top (y := nI N) h1 ?_
  refine q_ist4 dX10_findFlow_3 (Nat.le_of_ble_eq_true rfl) rfl ?_
  refine q_aload_n dX10_findFlow_5 rfl ?_
  refine q_aload_n dX10_findFlow_6 rfl ?_
  refine q_iload_n dX10_findFlow_7 rfl ?_
  refine q_callVu (ν := mX10_layMatrix) dX10_findFlow_8 uw_1153 vX10_layMatrix (c_X10_layMatrix_28 hG S (d) (N) h1 h2 h3) (Nat.le_of_ble_eq_true rfl) rfl rfl rfl rfl (Nat.le_of_ble_eq_true rfl) (Nat.le_of_ble_eq_true rfl) (Nat.le_of_ble_eq_true rfl) 0 (Nat.le_of_ble_eq_true rfl) ?_
  refine wp_w (w2 := mixW g (s_MX (s_RT S (rtI (z_TR S) d (z_RT S) N)) (mxI (z_TR S) d N (z_MX S) N))) rfl ?_
  refine q_aload_n dX10_findFlow_11 rfl ?_
  refine q_aload_n dX10_findFlow_12 rfl ?_
  refine q_iload dX10_findFlow_13 rfl ?_
  refine q_bipush (v := (-9)) dX10_findFlow_15 rfl ?_
  refine q_callVv (ν := mX10_determinant) dX10_findFlow_17 uw_1160 vX10_determinant (c_X10_determinant hG (s_MX (s_RT S (rtI (z_TR S) d (z_RT S) N)) (mxI (z_TR S) d N (z_MX S) N)) (N) (((-9))) hN6) (Nat.le_of_ble_eq_true rfl) rfl rfl rfl rfl (Nat.le_of_ble_eq_true rfl) (Nat.le_of_ble_eq_true rfl) (Nat.le_of_ble_eq_true rfl) 0 (Nat.le_of_ble_eq_true rfl) ?_
  refine wp_eq (st2 := .long ((dmM (mxI (z_TR S) d N (z_MX S) N) (rtI (z_TR S) d (z_RT S) N) N ((-9)) (z_MO S))) :: _) rfl ?_
  rw [sc_MO_MX, sc_MO_RT]
  refine wp_w (w2 := mixW g (s_MX (s_RT (s_MO S (moM (mxI (z_TR S) d N (z_MX S) N) (rtI (z_TR S) d (z_RT S) N) N ((-9)) (z_MO S) (2 ^ N - 1))) (rtI (z_TR S) d (z_RT S) N)) (mxI (z_TR S) d N (z_MX S) N))) rfl ?_
  refine wp_topl (y := dtC (z_TR S) d N (-9)) (dm_eq hN6) ?_
  refine q_put (j := 20) (ty := .long) dX10_findFlow_20 (Nat.le_of_ble_eq_true rfl) rfl rfl iuX10 tyX10_ok nmX10 (Nat.le_of_ble_eq_true rfl) uw_944 rfl rfl rfl rfl rfl (Nat.le_of_ble_eq_true rfl) ?_
  refine wp_w (u_LO g _ _) ?_
  refine q_iload_n dX10_findFlow_23 rfl ?_
  refine q_bipush (v := 8) dX10_findFlow_24 rfl ?_
  refine q_icmp_ge 43 dX10_findFlow_26 rfl (fun c26 => ?_) (fun c26 => ?_)
  · have n26 := (nI_leI (a := 8) (b := q) (by omega) (by omega)).mp c26
    refine q_aload_n dX10_findFlow_43 rfl ?_
    refine q_aload_n dX10_findFlow_44 rfl ?_
    refine q_aload_n dX10_findFlow_45 rfl ?_
    refine q_bipush (v := 25) dX10_findFlow_46 rfl ?_
    refine q_iald (f := (z_TR S)) dX10_findFlow_48 (Nat.le_of_ble_eq_true rfl) rfl (25) rfl (Nat.le_of_ble_eq_true rfl) (Nat.le_of_ble_eq_true rfl) ?_
    refine q_callSv (ν := mX10_goalOf) dX10_findFlow_49 uw_1106 vX10_goalOf (c_X10_goalOf_28 hG (s_LO (s_MX (s_RT (s_MO S (moM (mxI (z_TR S) d N (z_MX S) N) (rtI (z_TR S) d (z_RT S) N) N ((-9)) (z_MO S) (2 ^ N - 1))) (rtI (z_TR S) d (z_RT S) N)) (mxI (z_TR S) d N (z_MX S) N)) (dtC (z_TR S) d N (-9))) ((((z_TR S) (25))))) rfl rfl (Nat.le_of_ble_eq_true rfl) (Nat.le_of_ble_eq_true rfl) (Nat.le_of_ble_eq_true rfl) 0 (Nat.le_of_ble_eq_true rfl) ?_
    refine wp_eq (st2 := .int ((gofI ((z_TR S) 0) (((z_TR S) (25))))) :: _) rfl ?_
    refine q_iload_n dX10_findFlow_52 rfl ?_
    refine q_icmp_ne 75 dX10_findFlow_53 rfl (fun c53 => ?_) (fun c53 => ?_)
    · refine q_lconst (v := 0) dX10_findFlow_75 rfl ?_
      refine wp_topl (y := upS (z_TR S) d N q 0) (by rw [upS, if_neg c53]) ?_
      refine q_put (j := 19) (ty := .long) dX10_findFlow_76 (Nat.le_of_ble_eq_true rfl) rfl rfl iuX10 tyX10_ok nmX10 (Nat.le_of_ble_eq_true rfl) uw_943 rfl rfl rfl rfl rfl (Nat.le_of_ble_eq_true rfl) ?_
      refine wp_w (u_UP g _ _) ?_
      refine q_iconst (v := 0) dX10_findFlow_79 rfl ?_
      refine q_ist5 dX10_findFlow_80 (Nat.le_of_ble_eq_true rfl) rfl ?_
      refine wp_L (L2 := [some (.ref 26), some (.ref 28), some (.int (nI q)), some (.int (nI d)), some (.int (nI N)), some (.int (nI 0)), none]) rfl ?_
      refine l_X10_ff82_28 hG S N d q h1 hN6 h3 h5 (fun mo => ?_) N 0 _ (by omega)
      refine wp_fg (L2 := [some (.ref 26), some (.ref 28), some (.int (nI q)), some (.int (nI d)), some (.int (nI N)), none, none]) ⟨rfl, rfl, rfl, rfl, rfl, trivial⟩ ?_
      refine q_aload_n dX10_findFlow_122 rfl ?_
      refine q_dup dX10_findFlow_123 rfl ?_
      refine q_get (j := 20) (v := .long ((dtC (z_TR S) d N (-9)))) dX10_findFlow_124 (Nat.le_of_ble_eq_true rfl) rfl rfl iuX10 (Nat.le_of_ble_eq_true rfl) uw_944 rfl rfl ?_
      refine q_ldc2 dX10_findFlow_127 uw_1076 ?_
      refine q_lmul dX10_findFlow_130 ?_
      refine q_put (j := 20) (ty := .long) dX10_findFlow_131 (Nat.le_of_ble_eq_true rfl) rfl rfl iuX10 tyX10_ok nmX10 (Nat.le_of_ble_eq_true rfl) uw_944 rfl rfl rfl rfl rfl (Nat.le_of_ble_eq_true rfl) ?_
      refine wp_w (u_LO g _ _) ?_
      rw [sc_LO_UP, ss_LO]
      refine wp_w (w2 := mixW g (s_UP (s_LO (s_MX (s_RT (s_MO S mo) (rtI (z_TR S) d (z_RT S) N)) (mxI (z_TR S) d N (z_MX S) N)) (flM (z_TR S) d N q)) (fuM (z_TR S) d N q))) (by rw [show (fuM (z_TR S) d N q) = (upS (z_TR S) d N q N) from if_neg (by omega), show (flM (z_TR S) d N q) = (((dtC (z_TR S) d N (-9)) * 100)) from if_neg (by omega)]) ?_
      refine q_aload_n dX10_findFlow_134 rfl ?_
      refine q_get (j := 19) (v := .long ((fuM (z_TR S) d N q))) dX10_findFlow_135 (Nat.le_of_ble_eq_true rfl) rfl rfl iuX10 (Nat.le_of_ble_eq_true rfl) uw_943 rfl rfl ?_
      refine q_aload_n dX10_findFlow_138 rfl ?_
      refine q_get (j := 20) (v := .long ((flM (z_TR S) d N q))) dX10_findFlow_139 (Nat.le_of_ble_eq_true rfl) rfl rfl iuX10 (Nat.le_of_ble_eq_true rfl) uw_944 rfl rfl ?_
      refine q_callSv (ν := mX10_divisor) dX10_findFlow_142 uw_1164 vX10_divisor (c_X10_divisor hG (s_UP (s_LO (s_MX (s_RT (s_MO S mo) (rtI (z_TR S) d (z_RT S) N)) (mxI (z_TR S) d N (z_MX S) N)) (flM (z_TR S) d N q)) (fuM (z_TR S) d N q)) (((fuM (z_TR S) d N q))) (((flM (z_TR S) d N q))) h4.1) rfl rfl (Nat.le_of_ble_eq_true rfl) (Nat.le_of_ble_eq_true rfl) (Nat.le_of_ble_eq_true rfl) 0 (Nat.le_of_ble_eq_true rfl) ?_
      refine wp_eq (st2 := .long ((gdF 200 ((fuM (z_TR S) d N q)) ((flM (z_TR S) d N q)))) :: _) rfl ?_
      refine wp_topl (y := fgM (z_TR S) d N q) rfl ?_
      refine q_lst5 dX10_findFlow_145 (Nat.le_of_ble_eq_true rfl) rfl ?_
      refine q_aload_n dX10_findFlow_147 rfl ?_
      refine q_dup dX10_findFlow_148 rfl ?_
      refine q_get (j := 19) (v := .long ((fuM (z_TR S) d N q))) dX10_findFlow_149 (Nat.le_of_ble_eq_true rfl) rfl rfl iuX10 (Nat.le_of_ble_eq_true rfl) uw_943 rfl rfl ?_
      refine q_lload dX10_findFlow_152 rfl ?_
      refine q_ldiv dX10_findFlow_154 h4.2 ?_
      refine q_put (j := 19) (ty := .long) dX10_findFlow_155 (Nat.le_of_ble_eq_true rfl) rfl rfl iuX10 tyX10_ok nmX10 (Nat.le_of_ble_eq_true rfl) uw_943 rfl rfl rfl rfl rfl (Nat.le_of_ble_eq_true rfl) ?_
      refine wp_w (u_UP g _ _) ?_
      rw [ss_UP]
      refine q_aload_n dX10_findFlow_158 rfl ?_
      refine q_dup dX10_findFlow_159 rfl ?_
      refine q_get (j := 20) (v := .long ((flM (z_TR S) d N q))) dX10_findFlow_160 (Nat.le_of_ble_eq_true rfl) rfl rfl iuX10 (Nat.le_of_ble_eq_true rfl) uw_944 rfl rfl ?_
      refine q_lload dX10_findFlow_163 rfl ?_
      refine q_ldiv dX10_findFlow_165 h4.2 ?_
      refine q_put (j := 20) (ty := .long) dX10_findFlow_166 (Nat.le_of_ble_eq_true rfl) rfl rfl iuX10 tyX10_ok nmX10 (Nat.le_of_ble_eq_true rfl) uw_944 rfl rfl rfl rfl rfl (Nat.le_of_ble_eq_true rfl) ?_
      refine wp_w (u_LO g _ _) ?_
      rw [sc_LO_UP, ss_LO]
      exact q_vret dX10_findFlow_169 rfl ⟨rfl, _, _, _, rfl⟩
    · refine q_ldc2 dX10_findFlow_56 uw_1076 ?_
      refine q_aload_n dX10_findFlow_59 rfl ?_
      refine q_bipush (v := 26) dX10_findFlow_60 rfl ?_
      refine q_iload_n dX10_findFlow_62 rfl ?_
      refine q_iadd dX10_findFlow_63 ?_
      refine q_iald (f := (z_TR S)) dX10_findFlow_64 (Nat.le_of_ble_eq_true rfl) rfl ((26 + d)) (by simp only [fa_lit, pk_mul, nI_add]) (by omega) (Nat.le_of_ble_eq_true rfl) ?_
      refine q_i2l dX10_findFlow_65 ?_
      refine q_lmul dX10_findFlow_66 ?_
      refine q_aload_n dX10_findFlow_67 rfl ?_
      refine q_get (j := 20) (v := .long ((dtC (z_TR S) d N (-9)))) dX10_findFlow_68 (Nat.le_of_ble_eq_true rfl) rfl rfl iuX10 (Nat.le_of_ble_eq_true rfl) uw_944 rfl rfl ?_
      refine q_lmul dX10_findFlow_71 ?_
      refine q_goto 76 dX10_findFlow_72 rfl ?_
      refine wp_topl (y := upS (z_TR S) d N q 0) (by rw [upS, if_pos c53]) ?_
      refine q_put (j := 19) (ty := .long) dX10_findFlow_76 (Nat.le_of_ble_eq_true rfl) rfl rfl iuX10 tyX10_ok nmX10 (Nat.le_of_ble_eq_true rfl) uw_943 rfl rfl rfl rfl rfl (Nat.le_of_ble_eq_true rfl) ?_
      refine wp_w (u_UP g _ _) ?_
      refine q_iconst (v := 0) dX10_findFlow_79 rfl ?_
      refine q_ist5 dX10_findFlow_80 (Nat.le_of_ble_eq_true rfl) rfl ?_
      refine wp_L (L2 := [some (.ref 26), some (.ref 28), some (.int (nI q)), some (.int (nI d)), some (.int (nI N)), some (.int (nI 0)), none]) rfl ?_
      refine l_X10_ff82_28 hG S N d q h1 hN6 h3 h5 (fun mo => ?_) N 0 _ (by omega)
      refine wp_fg (L2 := [some (.ref 26), some (.ref 28), some (.int (nI q)), some (.int (nI d)), some (.int (nI N)), none, none]) ⟨rfl, rfl, rfl, rfl, rfl, trivial⟩ ?_
      refine q_aload_n dX10_findFlow_122 rfl ?_
      refine q_dup dX10_findFlow_123 rfl ?_
      refine q_get (j := 20) (v := .long ((dtC (z_TR S) d N (-9)))) dX10_findFlow_124 (Nat.le_of_ble_eq_true rfl) rfl rfl iuX10 (Nat.le_of_ble_eq_true rfl) uw_944 rfl rfl ?_
      refine q_ldc2 dX10_findFlow_127 uw_1076 ?_
      refine q_lmul dX10_findFlow_130 ?_
      refine q_put (j := 20) (ty := .long) dX10_findFlow_131 (Nat.le_of_ble_eq_true rfl) rfl rfl iuX10 tyX10_ok nmX10 (Nat.le_of_ble_eq_true rfl) uw_944 rfl rfl rfl rfl rfl (Nat.le_of_ble_eq_true rfl) ?_
      refine wp_w (u_LO g _ _) ?_
      rw [sc_LO_UP, ss_LO]
      refine wp_w (w2 := mixW g (s_UP (s_LO (s_MX (s_RT (s_MO S mo) (rtI (z_TR S) d (z_RT S) N)) (mxI (z_TR S) d N (z_MX S) N)) (flM (z_TR S) d N q)) (fuM (z_TR S) d N q))) (by rw [show (fuM (z_TR S) d N q) = (upS (z_TR S) d N q N) from if_neg (by omega), show (flM (z_TR S) d N q) = (((dtC (z_TR S) d N (-9)) * 100)) from if_neg (by omega)]) ?_
      refine q_aload_n dX10_findFlow_134 rfl ?_
      refine q_get (j := 19) (v := .long ((fuM (z_TR S) d N q))) dX10_findFlow_135 (Nat.le_of_ble_eq_true rfl) rfl rfl iuX10 (Nat.le_of_ble_eq_true rfl) uw_943 rfl rfl ?_
      refine q_aload_n dX10_findFlow_138 rfl ?_
      refine q_get (j := 20) (v := .long ((flM (z_TR S) d N q))) dX10_findFlow_139 (Nat.le_of_ble_eq_true rfl) rfl rfl iuX10 (Nat.le_of_ble_eq_true rfl) uw_944 rfl rfl ?_
      refine q_callSv (ν := mX10_divisor) dX10_findFlow_142 uw_1164 vX10_divisor (c_X10_divisor hG (s_UP (s_LO (s_MX (s_RT (s_MO S mo) (rtI (z_TR S) d (z_RT S) N)) (mxI (z_TR S) d N (z_MX S) N)) (flM (z_TR S) d N q)) (fuM (z_TR S) d N q)) (((fuM (z_TR S) d N q))) (((flM (z_TR S) d N q))) h4.1) rfl rfl (Nat.le_of_ble_eq_true rfl) (Nat.le_of_ble_eq_true rfl) (Nat.le_of_ble_eq_true rfl) 0 (Nat.le_of_ble_eq_true rfl) ?_
      refine wp_eq (st2 := .long ((gdF 200 ((fuM (z_TR S) d N q)) ((flM (z_TR S) d N q)))) :: _) rfl ?_
      refine wp_topl (y := fgM (z_TR S) d N q) rfl ?_
      refine q_lst5 dX10_findFlow_145 (Nat.le_of_ble_eq_true rfl) rfl ?_
      refine q_aload_n dX10_findFlow_147 rfl ?_
      refine q_dup dX10_findFlow_148 rfl ?_
      refine q_get (j := 19) (v := .long ((fuM (z_TR S) d N q))) dX10_findFlow_149 (Nat.le_of_ble_eq_true rfl) rfl rfl iuX10 (Nat.le_of_ble_eq_true rfl) uw_943 rfl rfl ?_
      refine q_lload dX10_findFlow_152 rfl ?_
      refine q_ldiv dX10_findFlow_154 h4.2 ?_
      refine q_put (j := 19) (ty := .long) dX10_findFlow_155 (Nat.le_of_ble_eq_true rfl) rfl rfl iuX10 tyX10_ok nmX10 (Nat.le_of_ble_eq_true rfl) uw_943 rfl rfl rfl rfl rfl (Nat.le_of_ble_eq_true rfl) ?_
      refine wp_w (u_UP g _ _) ?_
      rw [ss_UP]
      refine q_aload_n dX10_findFlow_158 rfl ?_
      refine q_dup dX10_findFlow_159 rfl ?_
      refine q_get (j := 20) (v := .long ((flM (z_TR S) d N q))) dX10_findFlow_160 (Nat.le_of_ble_eq_true rfl) rfl rfl iuX10 (Nat.le_of_ble_eq_true rfl) uw_944 rfl rfl ?_
      refine q_lload dX10_findFlow_163 rfl ?_
      refine q_ldiv dX10_findFlow_165 h4.2 ?_
      refine q_put (j := 20) (ty := .long) dX10_findFlow_166 (Nat.le_of_ble_eq_true rfl) rfl rfl iuX10 tyX10_ok nmX10 (Nat.le_of_ble_eq_true rfl) uw_944 rfl rfl rfl rfl rfl (Nat.le_of_ble_eq_true rfl) ?_
      refine wp_w (u_LO g _ _) ?_
      rw [sc_LO_UP, ss_LO]
      exact q_vret dX10_findFlow_169 rfl ⟨rfl, _, _, _, rfl⟩
  · have n26 := mt (nI_leI (a := 8) (b := q) (by omega) (by omega)).mpr c26
    refine q_aload_n dX10_findFlow_29 rfl ?_
    refine q_aload_n dX10_findFlow_30 rfl ?_
    refine q_iload dX10_findFlow_31 rfl ?_
    refine q_iload_n dX10_findFlow_33 rfl ?_
    refine q_callVv (ν := mX10_determinant) dX10_findFlow_34 uw_1160 vX10_determinant (c_X10_determinant hG (s_LO (s_MX (s_RT (s_MO S (moM (mxI (z_TR S) d N (z_MX S) N) (rtI (z_TR S) d (z_RT S) N) N ((-9)) (z_MO S) (2 ^ N - 1))) (rtI (z_TR S) d (z_RT S) N)) (mxI (z_TR S) d N (z_MX S) N)) (dtC (z_TR S) d N (-9))) (N) ((nI q)) hN6) (Nat.le_of_ble_eq_true rfl) rfl rfl rfl rfl (Nat.le_of_ble_eq_true rfl) (Nat.le_of_ble_eq_true rfl) (Nat.le_of_ble_eq_true rfl) 0 (Nat.le_of_ble_eq_true rfl) ?_
    refine wp_eq (st2 := .long ((dmM (mxI (z_TR S) d N (z_MX S) N) (rtI (z_TR S) d (z_RT S) N) N (nI q) (moM (mxI (z_TR S) d N (z_MX S) N) (rtI (z_TR S) d (z_RT S) N) N ((-9)) (z_MO S) (2 ^ N - 1)))) :: _) rfl ?_
    rw [sc_MO_LO, sc_MO_MX, sc_MO_RT, ss_MO]
    refine wp_w (w2 := mixW g (s_LO (s_MX (s_RT (s_MO S (moM (mxI (z_TR S) d N (z_MX S) N) (rtI (z_TR S) d (z_RT S) N) N (nI q) (moM (mxI (z_TR S) d N (z_MX S) N) (rtI (z_TR S) d (z_RT S) N) N ((-9)) (z_MO S) (2 ^ N - 1)) (2 ^ N - 1))) (rtI (z_TR S) d (z_RT S) N)) (mxI (z_TR S) d N (z_MX S) N)) (dtC (z_TR S) d N (-9)))) rfl ?_
    refine wp_topl (y := dtC (z_TR S) d N (nI q)) (dm_eq hN6) ?_
    refine q_put (j := 19) (ty := .long) dX10_findFlow_37 (Nat.le_of_ble_eq_true rfl) rfl rfl iuX10 tyX10_ok nmX10 (Nat.le_of_ble_eq_true rfl) uw_943 rfl rfl rfl rfl rfl (Nat.le_of_ble_eq_true rfl) ?_
    refine wp_w (u_UP g _ _) ?_
    refine q_goto 134 dX10_findFlow_40 rfl ?_
    refine wp_w (w2 := mixW g (s_UP (s_LO (s_MX (s_RT (s_MO S (moM (mxI (z_TR S) d N (z_MX S) N) (rtI (z_TR S) d (z_RT S) N) N (nI q) (moM (mxI (z_TR S) d N (z_MX S) N) (rtI (z_TR S) d (z_RT S) N) N ((-9)) (z_MO S) (2 ^ N - 1)) (2 ^ N - 1))) (rtI (z_TR S) d (z_RT S) N)) (mxI (z_TR S) d N (z_MX S) N)) (flM (z_TR S) d N q)) (fuM (z_TR S) d N q))) (by rw [show (fuM (z_TR S) d N q) = (dtC (z_TR S) d N (nI q)) from if_pos (by omega), show (flM (z_TR S) d N q) = (dtC (z_TR S) d N (-9)) from if_pos (by omega)]) ?_
    refine q_aload_n dX10_findFlow_134 rfl ?_
    refine q_get (j := 19) (v := .long ((fuM (z_TR S) d N q))) dX10_findFlow_135 (Nat.le_of_ble_eq_true rfl) rfl rfl iuX10 (Nat.le_of_ble_eq_true rfl) uw_943 rfl rfl ?_
    refine q_aload_n dX10_findFlow_138 rfl ?_
    refine q_get (j := 20) (v := .long ((flM (z_TR S) d N q))) dX10_findFlow_139 (Nat.le_of_ble_eq_true rfl) rfl rfl iuX10 (Nat.le_of_ble_eq_true rfl) uw_944 rfl rfl ?_
    refine q_callSv (ν := mX10_divisor) dX10_findFlow_142 uw_1164 vX10_divisor (c_X10_divisor hG (s_UP (s_LO (s_MX (s_RT (s_MO S (moM (mxI (z_TR S) d N (z_MX S) N) (rtI (z_TR S) d (z_RT S) N) N (nI q) (moM (mxI (z_TR S) d N (z_MX S) N) (rtI (z_TR S) d (z_RT S) N) N ((-9)) (z_MO S) (2 ^ N - 1)) (2 ^ N - 1))) (rtI (z_TR S) d (z_RT S) N)) (mxI (z_TR S) d N (z_MX S) N)) (flM (z_TR S) d N q)) (fuM (z_TR S) d N q)) (((fuM (z_TR S) d N q))) (((flM (z_TR S) d N q))) h4.1) rfl rfl (Nat.le_of_ble_eq_true rfl) (Nat.le_of_ble_eq_true rfl) (Nat.le_of_ble_eq_true rfl) 0 (Nat.le_of_ble_eq_true rfl) ?_
    refine wp_eq (st2 := .long ((gdF 200 ((fuM (z_TR S) d N q)) ((flM (z_TR S) d N q)))) :: _) rfl ?_
    refine wp_topl (y := fgM (z_TR S) d N q) rfl ?_
    refine q_lst5 dX10_findFlow_145 (Nat.le_of_ble_eq_true rfl) rfl ?_
    refine q_aload_n dX10_findFlow_147 rfl ?_
    refine q_dup dX10_findFlow_148 rfl ?_
    refine q_get (j := 19) (v := .long ((fuM (z_TR S) d N q))) dX10_findFlow_149 (Nat.le_of_ble_eq_true rfl) rfl rfl iuX10 (Nat.le_of_ble_eq_true rfl) uw_943 rfl rfl ?_
    refine q_lload dX10_findFlow_152 rfl ?_
    refine q_ldiv dX10_findFlow_154 h4.2 ?_
    refine q_put (j := 19) (ty := .long) dX10_findFlow_155 (Nat.le_of_ble_eq_true rfl) rfl rfl iuX10 tyX10_ok nmX10 (Nat.le_of_ble_eq_true rfl) uw_943 rfl rfl rfl rfl rfl (Nat.le_of_ble_eq_true rfl) ?_
    refine wp_w (u_UP g _ _) ?_
    rw [ss_UP]
    refine q_aload_n dX10_findFlow_158 rfl ?_
    refine q_dup dX10_findFlow_159 rfl ?_
    refine q_get (j := 20) (v := .long ((flM (z_TR S) d N q))) dX10_findFlow_160 (Nat.le_of_ble_eq_true rfl) rfl rfl iuX10 (Nat.le_of_ble_eq_true rfl) uw_944 rfl rfl ?_
    refine q_lload dX10_findFlow_163 rfl ?_
    refine q_ldiv dX10_findFlow_165 h4.2 ?_
    refine q_put (j := 20) (ty := .long) dX10_findFlow_166 (Nat.le_of_ble_eq_true rfl) rfl rfl iuX10 tyX10_ok nmX10 (Nat.le_of_ble_eq_true rfl) uw_944 rfl rfl rfl rfl rfl (Nat.le_of_ble_eq_true rfl) ?_
    refine wp_w (u_LO g _ _) ?_
    rw [sc_LO_UP, ss_LO]
    exact q_vret dX10_findFlow_169 rfl ⟨rfl, _, _, _, rfl⟩
