def gdZ : Nat → Int64 → Int64 → Prop
  | 0, _, b => b = 0
  | n + 1, a, b => b = 0 ∨ gdZ n b (a - a / b * b)
def ctQ (x y : Int64) : Nat → Int64 × Int64
  | 0 => (x / y, x - x / y * y)
  | i + 1 => (10 * (ctQ x y i).1 + (ctQ x y i).2 * 10 / y, (ctQ x y i).2 * 10 - (ctQ x y i).2 * 10 / y * y)
theorem bt_le {k i : Nat} (h : k / 2 ^ i % 2 = 1) : 2 ^ i ≤ k := by
  rcases Nat.lt_or_ge k (2 ^ i) with q | q
  · rw [Nat.div_eq_of_lt q] at h; omega
  · exact q
theorem p2_pos (i : Nat) : 1 ≤ 2 ^ i := Nat.one_le_two_pow
theorem dtS_congr {mx mx2 rt rt2 mo mo2 : Nat → Int64} {N k row : Nat} {col : Int32} (hrow : row < N) (h1 : ∀ a, a < N → ∀ b, b < N → mx (6 * a + b) = mx2 (6 * a + b)) (h2 : ∀ a, a < N → rt a = rt2 a) (h3 : ∀ j, j < k → mo j = mo2 j) : ∀ i, i ≤ N → dtS mx rt mo k row col i = dtS mx2 rt2 mo2 k row col i := by
  intro i
  induction i with
  | zero => intro _; rw [dtS, dtS]
  | succ i ih =>
    intro hi
    rw [dtS, dtS, ih (by omega)]
    have e : enM mx rt row col i = enM mx2 rt2 row col i := by unfold enM; rw [h1 row hrow i (by omega), h2 row hrow]
    by_cases hb : k / 2 ^ i % 2 = 1
    · rw [if_pos hb, if_pos hb, e, h3 (k - 2 ^ i) (by have := bt_le hb; have := p2_pos i; omega)]
    · rw [if_neg hb, if_neg hb]
theorem moM_congr {mx mx2 rt rt2 mo mo2 : Nat → Int64} {N : Nat} {col : Int32} (hN : N ≤ 6) (h1 : ∀ a, a < N → ∀ b, b < N → mx (6 * a + b) = mx2 (6 * a + b)) (h2 : ∀ a, a < N → rt a = rt2 a) : ∀ j, j < 2 ^ N → ∀ k, k ≤ j → moM mx rt N col mo j k = moM mx2 rt2 N col mo2 j k := by
  intro j
  induction j with
  | zero =>
    intro _ k hk
    obtain rfl : k = 0 := by omega
    rw [moM, moM]
    simp only [vp_updL, if_true]
  | succ j ih =>
    intro hj k hk
    have hp := p2_6 N (by omega)
    have hw := pc_6 N (by omega) (j + 1) (by omega) (by omega) hj
    rw [moM_s, moM_s]
    simp only [vp_updL]
    by_cases e : k = j + 1
    · rw [if_pos e, if_pos e]
      exact dtS_congr (by omega) h1 h2 (fun q hq => ih (by omega) q (by omega)) N (Nat.le_refl N)
    · rw [if_neg e, if_neg e]
      exact ih (by omega) k (by omega)
theorem dm_congr {mx mx2 rt rt2 mo mo2 : Nat → Int64} {N : Nat} {col : Int32} (hN : N ≤ 6) (h1 : ∀ a, a < N → ∀ b, b < N → mx (6 * a + b) = mx2 (6 * a + b)) (h2 : ∀ a, a < N → rt a = rt2 a) : dmM mx rt N col mo = dmM mx2 rt2 N col mo2 := by
  have hp := p2_6 N (by omega)
  exact moM_congr hN h1 h2 (2 ^ N - 1) (by omega) _ (Nat.le_refl _)
theorem mxJ_at (f : Nat → Int32) (d i : Nat) (mx : Nat → Int64) : ∀ n, n ≤ 6 → ∀ a b, b < 6 → mxJ f d i mx n (6 * a + b) = if a = i ∧ b < n then lmE f d i b else mx (6 * a + b) := by
  intro n
  induction n with
  | zero => intro _ a b hb; rw [mxJ, if_neg (by omega)]
  | succ n ih =>
    intro hn a b hb
    rw [mxJ]
    simp only [vp_updL]
    by_cases e : 6 * a + b = 6 * i + n
    · rw [if_pos e, if_pos (by omega)]
      congr 1
      omega
    · rw [if_neg e, ih (by omega) a b hb]
      by_cases e2 : a = i ∧ b < n
      · rw [if_pos e2, if_pos (by omega)]
      · rw [if_neg e2, if_neg (by omega)]
theorem mxI_at (f : Nat → Int32) (d N : Nat) (mx : Nat → Int64) (hN : N ≤ 6) : ∀ n, ∀ a b, b < 6 → mxI f d N mx n (6 * a + b) = if a < n ∧ b < N then lmE f d a b else mx (6 * a + b) := by
  intro n
  induction n with
  | zero => intro a b hb; rw [mxI, if_neg (by omega)]
  | succ n ih =>
    intro a b hb
    rw [mxI, mxJ_at f d n _ N hN a b hb, ih a b hb]
    by_cases e : a = n ∧ b < N
    · rw [if_pos e, if_pos (by omega), e.1]
    · rw [if_neg e]
      by_cases e2 : a < n ∧ b < N
      · rw [if_pos e2, if_pos (by omega)]
      · rw [if_neg e2, if_neg (by omega)]
theorem rtI_at (f : Nat → Int32) (d : Nat) (rt : Nat → Int64) : ∀ n a, rtI f d rt n a = if a < n then rtE f d a else rt a := by
  intro n
  induction n with
  | zero => intro a; rw [rtI, if_neg (by omega)]
  | succ n ih =>
    intro a
    rw [rtI]
    simp only [vp_updL]
    by_cases e : a = n
    · rw [if_pos e, if_pos (by omega), e]
    · rw [if_neg e, ih a]
      by_cases e2 : a < n
      · rw [if_pos e2, if_pos (by omega)]
      · rw [if_neg e2, if_neg (by omega)]
noncomputable def dtC (f : Nat → Int32) (d N : Nat) (col : Int32) : Int64 := dmM (mxI f d N (fun _ => 0) N) (rtI f d (fun _ => 0) N) N col (fun _ => 0)
theorem dm_eq {f : Nat → Int32} {d N : Nat} {col : Int32} {mx rt mo : Nat → Int64} (hN : N ≤ 6) : dmM (mxI f d N mx N) (rtI f d rt N) N col mo = dtC f d N col := by
  refine dm_congr hN (fun a ha b hb => ?_) (fun a ha => ?_)
  · rw [mxI_at f d N mx hN N a b (by omega), mxI_at f d N _ hN N a b (by omega), if_pos ⟨ha, hb⟩, if_pos ⟨ha, hb⟩]
  · rw [rtI_at, rtI_at, if_pos ha, if_pos ha]
noncomputable def upS (f : Nat → Int32) (d N : Nat) (q : Nat) : Nat → Int64
  | 0 => if gofI (f 0) (f 25) = nI q then 100 * (f (26 + d)).toInt64 * dtC f d N (-9) else 0
  | i + 1 => upS f d N q i + dtC f d N (nI i) * (prM f i (nI q) d).toInt64
noncomputable def fuM (f : Nat → Int32) (d N q : Nat) : Int64 := if q < 8 then dtC f d N (nI q) else upS f d N q N
noncomputable def flM (f : Nat → Int32) (d N q : Nat) : Int64 := if q < 8 then dtC f d N (-9) else dtC f d N (-9) * 100
noncomputable def fgM (f : Nat → Int32) (d N q : Nat) : Int64 := gdF 200 (fuM f d N q) (flM f d N q)
/-- the flow is a fraction -/
def fOk (f : Nat → Int32) (d N q : Nat) : Prop := gdZ 200 (fuM f d N q) (flM f d N q) ∧ ¬ fgM f d N q = 0
set_option maxRecDepth 100000 in
set_option maxHeartbeats 4000000 in
theorem l_X10_div {g : G0} {h : G1} (S : SS) {post : Option Value → (Nat → va_E) → Prop} {xp : String → (Nat → va_E) → Prop} (x y : Int64) : ∀ (n : Nat) (a b : Int64), gdZ n a b → post (some (.long (gdF n a b))) (mixW g S) → wp g h mX10_divisor (mixW g S) [some (.long (x)), none, some (.long (y)), none, some (.long (a)), none, some (.long (b)), none, none, none] [] 0 (QQ g h mX10_divisor post xp) 6 := by
  intro n
  induction n with
  | zero =>
    intro a b hz hp
    rw [gdZ] at hz
    refine q_lload dX10_divisor_6 rfl ?_
    refine q_lconst (v := 0) dX10_divisor_8 rfl ?_
    refine q_lcmp_eq 31 dX10_divisor_9 dX10_divisor_10 rfl (fun c9 => ?_) (fun c9 => ?_)
    · refine q_lload dX10_divisor_31 rfl ?_
      exact q_lret dX10_divisor_33 rfl hp
    · exact absurd hz c9
  | succ n ih =>
    intro a b hz hp
    rw [gdZ] at hz
    refine q_lload dX10_divisor_6 rfl ?_
    refine q_lconst (v := 0) dX10_divisor_8 rfl ?_
    refine q_lcmp_eq 31 dX10_divisor_9 dX10_divisor_10 rfl (fun c9 => ?_) (fun c9 => ?_)
    · refine q_lload dX10_divisor_31 rfl ?_
      exact q_lret dX10_divisor_33 rfl (by rw [gdF, if_pos c9] at hp; exact hp)
    · refine q_lload dX10_divisor_13 rfl ?_
      refine q_lload dX10_divisor_15 rfl ?_
      refine q_lrem dX10_divisor_17 c9 ?_
      refine q_lst8 dX10_divisor_18 (Nat.le_of_ble_eq_true rfl) rfl ?_
      refine q_lload dX10_divisor_20 rfl ?_
      refine q_lst4 dX10_divisor_22 (Nat.le_of_ble_eq_true rfl) rfl ?_
      refine q_lload dX10_divisor_24 rfl ?_
      refine q_lst6 dX10_divisor_26 (Nat.le_of_ble_eq_true rfl) rfl ?_
      refine q_goto 6 dX10_divisor_28 rfl ?_
      refine wp_fg (L2 := [some (.long (x)), none, some (.long (y)), none, some (.long (b)), none, some (.long ((a - a / b * b))), none, none, none]) ⟨rfl, rfl, rfl, rfl, trivial⟩ ?_
      exact ih b _ (hz.resolve_left c9) (by rw [gdF, if_neg c9] at hp; exact hp)
set_option maxRecDepth 100000 in
set_option maxHeartbeats 4000000 in
theorem c_X10_divisor {g : G0} (hG : Gd g) (S : SS) (x : Int64) (y : Int64)  (h1 : gdZ 200 x y) : ctv g mX10_divisor [.long x, .long y] (mixW g S) (.long (gdF 200 x y)) (mixW g S) := by
  refine ct_of hG [some (.long (x)), none, some (.long (y)), none, none, none, none, none, none, none] rfl rfl rfl (Nat.le_of_ble_eq_true rfl) (fun h => ?_) rfl
  refine q_lload_n dX10_divisor_0 rfl ?_
  refine q_lst4 dX10_divisor_1 (Nat.le_of_ble_eq_true rfl) rfl ?_
  refine q_lload_n dX10_divisor_3 rfl ?_
  refine q_lst6 dX10_divisor_4 (Nat.le_of_ble_eq_true rfl) rfl ?_
  exact l_X10_div S x y 200 x y h1 ⟨rfl, rfl⟩
set_option maxRecDepth 100000 in
set_option maxHeartbeats 4000000 in
theorem l_X10_cut {g : G0} {h : G1} (hG : Gd g) (S : SS) {Q : State → Prop} (x y : Int64) (k : Nat) (hy : ¬ y = 0) (hk : k ≤ 6) (kk : wp g h mX10_cut (mixW g S) [some (.long (x)), none, some (.long (y)), none, some (.int (nI k)), some (.long ((ctQ x y k).1)), none, some (.long ((ctQ x y k).2)), none, some (.int (nI k))] [] 0 Q 53) : ∀ (n i : Nat), i + n = k → wp g h mX10_cut (mixW g S) [some (.long (x)), none, some (.long (y)), none, some (.int (nI k)), some (.long ((ctQ x y i).1)), none, some (.long ((ctQ x y i).2)), none, some (.int (nI i))] [] 0 Q 13 := by
  intro n
  induction n with
  | zero =>
    intro i hq1
    obtain rfl : k = i := by omega
    refine q_iload dX10_cut_13 rfl ?_
    refine q_iload dX10_cut_15 rfl ?_
    refine q_icmp_ge 53 dX10_cut_17 rfl (fun c17 => ?_) (fun c17 => ?_)
    · have n17 := (nI_leI (a := k) (b := k) (by omega) (by omega)).mp c17
      exact kk
    · have n17 := mt (nI_leI (a := k) (b := k) (by omega) (by omega)).mpr c17
      omega
  | succ n ih =>
    intro i hq1
    refine q_iload dX10_cut_13 rfl ?_
    refine q_iload dX10_cut_15 rfl ?_
    refine q_icmp_ge 53 dX10_cut_17 rfl (fun c17 => ?_) (fun c17 => ?_)
    · have n17 := (nI_leI (a := k) (b := i) (by omega) (by omega)).mp c17
      omega
    · have n17 := mt (nI_leI (a := k) (b := i) (by omega) (by omega)).mpr c17
      refine q_lload dX10_cut_20 rfl ?_
      refine q_ldc2 dX10_cut_22 uw_1182 ?_
      refine q_lmul dX10_cut_25 ?_
      refine q_lst7 dX10_cut_26 (Nat.le_of_ble_eq_true rfl) rfl ?_
      refine q_ldc2 dX10_cut_28 uw_1182 ?_
      refine q_lload dX10_cut_31 rfl ?_
      refine q_lmul dX10_cut_33 ?_
      refine q_lload dX10_cut_34 rfl ?_
      refine q_lload_n dX10_cut_36 rfl ?_
      refine q_ldiv dX10_cut_37 hy ?_
      refine q_ladd dX10_cut_38 ?_
      refine q_lst5 dX10_cut_39 (Nat.le_of_ble_eq_true rfl) rfl ?_
      refine q_lload dX10_cut_41 rfl ?_
      refine q_lload_n dX10_cut_43 rfl ?_
      refine q_lrem dX10_cut_44 hy ?_
      refine q_lst7 dX10_cut_45 (Nat.le_of_ble_eq_true rfl) rfl ?_
      refine q_iinc9 (k9 := 1) dX10_cut_47 rfl (Nat.le_of_ble_eq_true rfl) rfl ?_
      refine wp_L (L2 := [some (.long (x)), none, some (.long (y)), none, some (.int (nI k)), some (.long (((10 * (ctQ x y i).1) + (((ctQ x y i).2 * 10) / y)))), none, some (.long ((((ctQ x y i).2 * 10) - ((ctQ x y i).2 * 10) / y * y))), none, some (.int (nI (i + 1)))]) (by rw [show nI i + 1 = nI (i + 1) from nI_1 _]) ?_
      refine q_goto 13 dX10_cut_50 rfl ?_
      refine wp_L (L2 := [some (.long (x)), none, some (.long (y)), none, some (.int (nI k)), some (.long ((ctQ x y (i + 1)).1)), none, some (.long ((ctQ x y (i + 1)).2)), none, some (.int (nI (i + 1)))]) rfl ?_
      exact ih (i + 1) (by omega)
set_option maxRecDepth 100000 in
set_option maxHeartbeats 4000000 in
theorem c_X10_cut {g : G0} (hG : Gd g) (S : SS) (x : Int64) (y : Int64) (k : Nat)  (h1 : ¬ y = 0) (h2 : k ≤ 6) : ctv g mX10_cut [.long x, .long y, .int (nI k)] (mixW g S) (.long ((ctQ x y k).1)) (mixW g S) := by
  refine ct_of hG [some (.long (x)), none, some (.long (y)), none, some (.int (nI k)), none, none, none, none, none] rfl rfl rfl (Nat.le_of_ble_eq_true rfl) (fun h => ?_) rfl
  refine q_lload_n dX10_cut_0 rfl ?_
  refine q_lload_n dX10_cut_1 rfl ?_
  refine q_ldiv dX10_cut_2 h1 ?_
  refine q_lst5 dX10_cut_3 (Nat.le_of_ble_eq_true rfl) rfl ?_
  refine q_lload_n dX10_cut_5 rfl ?_
  refine q_lload_n dX10_cut_6 rfl ?_
  refine q_lrem dX10_cut_7 h1 ?_
  refine q_lst7 dX10_cut_8 (Nat.le_of_ble_eq_true rfl) rfl ?_
  refine q_iconst (v := 0) dX10_cut_10 rfl ?_
  refine q_ist9 dX10_cut_11 (Nat.le_of_ble_eq_true rfl) rfl ?_
  refine wp_L (L2 := [some (.long (x)), none, some (.long (y)), none, some (.int (nI k)), some (.long ((ctQ x y 0).1)), none, some (.long ((ctQ x y 0).2)), none, some (.int (nI 0))]) rfl ?_
  refine l_X10_cut hG S x y k h1 h2 ?_ k 0 (by omega)
  refine q_lload dX10_cut_53 rfl ?_
  exact q_lret dX10_cut_55 rfl ⟨rfl, rfl⟩
