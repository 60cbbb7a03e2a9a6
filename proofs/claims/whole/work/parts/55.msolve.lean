def shM (f : Nat → Int32) (c s d : Nat) : Int32 := if s = 0 then f (1 + 2 * c + d) else 100 - f (1 + 2 * c + d)
def goM (f : Nat → Int32) (k : Nat) : Int32 := gofI (f 0) (f (13 + k))
def prM (f : Nat → Int32) (c : Nat) (q : Int32) (d : Nat) : Int32 := 0 + (if goM f (2 * c) = q then shM f c 0 d else 0) + (if goM f (2 * c + 1) = q then shM f c 1 d else 0)
/-- one outlet: what is known to drain -/
def stB (f : Nat → Int32) (d c s : Nat) (m : Int32) : Int32 := m ||| (if 0 < shM f c s d ∧ (7 < goM f (2 * c + s) ∨ (m >>> (goM f (2 * c + s) &&& 31)) &&& 1 = 1) then 1 <<< (nI c &&& 31) else 0)
def stS (f : Nat → Int32) (d c : Nat) (m : Int32) : Nat → Int32
  | 0 => m
  | s + 1 => stB f d c s (stS f d c m s)
def stC (f : Nat → Int32) (d : Nat) (m : Int32) : Nat → Int32
  | 0 => m
  | c + 1 => stS f d c (stC f d m c) 2
def stR (f : Nat → Int32) (d N : Nat) : Nat → Int32
  | 0 => 0
  | r + 1 => stC f d (stR f d N r) N
def SM (f : Nat → Int32) (N d : Nat) : Prop := stR f d N 6 = (1 <<< (nI N &&& 31)) - 1
set_option maxRecDepth 100000 in
set_option maxHeartbeats 4000000 in
theorem c_X10_share_27 {g : G0} (hG : Gd g) (S : SS) (c : Nat) (s : Nat) (d : Nat)  (h1 : c < 6) (h2 : s < 2) (h3 : d < 2) : ctv g mX10_share [.ref 27, .int (nI c), .int (nI s), .int (nI d)] (mixW g S) (.int (shM (z_NW S) c s d)) (mixW g S) := by
  refine ct_of hG [some (.ref 27), some (.int (nI c)), some (.int (nI s)), some (.int (nI d)), none] rfl rfl rfl (Nat.le_of_ble_eq_true rfl) (fun h => ?_) rfl
  refine q_aload_n dX10_share_0 rfl ?_
  refine q_iconst (v := 1) dX10_share_1 rfl ?_
  refine q_iconst (v := 2) dX10_share_2 rfl ?_
  refine q_iload_n dX10_share_3 rfl ?_
  refine q_imul dX10_share_4 ?_
  refine q_iadd dX10_share_5 ?_
  refine q_iload_n dX10_share_6 rfl ?_
  refine q_iadd dX10_share_7 ?_
  refine q_iald (f := (z_NW S)) dX10_share_8 (Nat.le_of_ble_eq_true rfl) rfl (((1 + (2 * c)) + d)) (by simp only [fa_lit, pk_mul, nI_add]) (by omega) (Nat.le_of_ble_eq_true rfl) ?_
  refine q_ist4 dX10_share_9 (Nat.le_of_ble_eq_true rfl) rfl ?_
  refine q_iload_n dX10_share_11 rfl ?_
  refine q_if_ne 20 dX10_share_12 rfl (fun c12 => ?_) (fun c12 => ?_)
  · have n12 := mt (nI_eq (a := s) (b := 0) (by omega) (by omega)).mpr c12
    refine q_bipush (v := 100) dX10_share_20 rfl ?_
    refine q_iload dX10_share_22 rfl ?_
    refine q_isub dX10_share_24 ?_
    exact q_iret dX10_share_25 rfl ⟨by rw [shM, if_neg (by omega)], rfl⟩
  · have n12 := (nI_eq (a := s) (b := 0) (by omega) (by omega)).mp c12
    refine q_iload dX10_share_15 rfl ?_
    refine q_goto 25 dX10_share_17 rfl ?_
    exact q_iret dX10_share_25 rfl ⟨by rw [shM, if_pos (by omega)], rfl⟩
set_option maxRecDepth 100000 in
set_option maxHeartbeats 4000000 in
theorem c_X10_part_27 {g : G0} (hG : Gd g) (S : SS) (c : Nat) (q : Int32) (d : Nat)  (h1 : c < 6) (h2 : d < 2) : ctv g mX10_part [.ref 27, .int (nI c), .int q, .int (nI d)] (mixW g S) (.int (prM (z_NW S) c q d)) (mixW g S) := by
  refine ct_of hG [some (.ref 27), some (.int (nI c)), some (.int (q)), some (.int (nI d)), none, none] rfl rfl rfl (Nat.le_of_ble_eq_true rfl) (fun h => ?_) rfl
  refine q_iconst (v := 0) dX10_part_0 rfl ?_
  refine q_ist4 dX10_part_1 (Nat.le_of_ble_eq_true rfl) rfl ?_
  refine q_iconst (v := 0) dX10_part_3 rfl ?_
  refine q_ist5 dX10_part_4 (Nat.le_of_ble_eq_true rfl) rfl ?_
  refine q_iload dX10_part_6 rfl ?_
  refine q_iconst (v := 2) dX10_part_8 rfl ?_
  refine q_icmp_ge 54 dX10_part_9 rfl (fun c9 => ?_) (fun c9 => ?_)
  · first | exact absurd (by decide) c9 | exact absurd c9 (by decide)
  · refine q_iload dX10_part_12 rfl ?_
    refine q_aload_n dX10_part_14 rfl ?_
    refine q_aload_n dX10_part_15 rfl ?_
    refine q_bipush (v := 13) dX10_part_16 rfl ?_
    refine q_iconst (v := 2) dX10_part_18 rfl ?_
    refine q_iload_n dX10_part_19 rfl ?_
    refine q_imul dX10_part_20 ?_
    refine q_iadd dX10_part_21 ?_
    refine q_iload dX10_part_22 rfl ?_
    refine q_iadd dX10_part_24 ?_
    refine q_iald (f := (z_NW S)) dX10_part_25 (Nat.le_of_ble_eq_true rfl) rfl (13 + (2 * c)) (by simp only [fa_lit, pk_mul, nI_add]; exact congrArg nI (by omega)) (by omega) (Nat.le_of_ble_eq_true rfl) ?_
    refine q_callSv (ν := mX10_goalOf) dX10_part_26 uw_1106 vX10_goalOf (c_X10_goalOf_27 hG S ((((z_NW S) (13 + (2 * c)))))) rfl rfl (Nat.le_of_ble_eq_true rfl) (Nat.le_of_ble_eq_true rfl) (Nat.le_of_ble_eq_true rfl) 0 (Nat.le_of_ble_eq_true rfl) ?_
    refine wp_top (y := goM (z_NW S) (2 * c)) rfl ?_
    refine q_iload_n dX10_part_29 rfl ?_
    refine q_icmp_ne 44 dX10_part_30 rfl (fun c30 => ?_) (fun c30 => ?_)
    · have e0 := c30
      refine q_iconst (v := 0) dX10_part_44 rfl ?_
      refine q_iadd dX10_part_45 ?_
      refine q_ist4 dX10_part_46 (Nat.le_of_ble_eq_true rfl) rfl ?_
      refine q_iinc5 (k9 := 1) dX10_part_48 rfl (Nat.le_of_ble_eq_true rfl) rfl ?_
      refine wp_L (L2 := [some (.ref 27), some (.int (nI c)), some (.int (q)), some (.int (nI d)), some (.int ((0 + 0))), some (.int (1))]) rfl ?_
      refine q_goto 6 dX10_part_51 rfl ?_
      refine q_iload dX10_part_6 rfl ?_
      refine q_iconst (v := 2) dX10_part_8 rfl ?_
      refine q_icmp_ge 54 dX10_part_9 rfl (fun c9 => ?_) (fun c9 => ?_)
      · first | exact absurd (by decide) c9 | exact absurd c9 (by decide)
      · refine q_iload dX10_part_12 rfl ?_
        refine q_aload_n dX10_part_14 rfl ?_
        refine q_aload_n dX10_part_15 rfl ?_
        refine q_bipush (v := 13) dX10_part_16 rfl ?_
        refine q_iconst (v := 2) dX10_part_18 rfl ?_
        refine q_iload_n dX10_part_19 rfl ?_
        refine q_imul dX10_part_20 ?_
        refine q_iadd dX10_part_21 ?_
        refine q_iload dX10_part_22 rfl ?_
        refine q_iadd dX10_part_24 ?_
        refine q_iald (f := (z_NW S)) dX10_part_25 (Nat.le_of_ble_eq_true rfl) rfl (13 + (2 * c + 1)) (by simp only [fa_lit, pk_mul, nI_add]; exact congrArg nI (by omega)) (by omega) (Nat.le_of_ble_eq_true rfl) ?_
        refine q_callSv (ν := mX10_goalOf) dX10_part_26 uw_1106 vX10_goalOf (c_X10_goalOf_27 hG S ((((z_NW S) (13 + (2 * c + 1)))))) rfl rfl (Nat.le_of_ble_eq_true rfl) (Nat.le_of_ble_eq_true rfl) (Nat.le_of_ble_eq_true rfl) 0 (Nat.le_of_ble_eq_true rfl) ?_
        refine wp_top (y := goM (z_NW S) (2 * c + 1)) rfl ?_
        refine q_iload_n dX10_part_29 rfl ?_
        refine q_icmp_ne 44 dX10_part_30 rfl (fun c30 => ?_) (fun c30 => ?_)
        · have e1 := c30
          refine q_iconst (v := 0) dX10_part_44 rfl ?_
          refine q_iadd dX10_part_45 ?_
          refine q_ist4 dX10_part_46 (Nat.le_of_ble_eq_true rfl) rfl ?_
          refine q_iinc5 (k9 := 1) dX10_part_48 rfl (Nat.le_of_ble_eq_true rfl) rfl ?_
          refine wp_L (L2 := [some (.ref 27), some (.int (nI c)), some (.int (q)), some (.int (nI d)), some (.int (((0 + 0) + 0))), some (.int (2))]) rfl ?_
          refine q_goto 6 dX10_part_51 rfl ?_
          refine q_iload dX10_part_6 rfl ?_
          refine q_iconst (v := 2) dX10_part_8 rfl ?_
          refine q_icmp_ge 54 dX10_part_9 rfl (fun c9 => ?_) (fun c9 => ?_)
          · refine q_iload dX10_part_54 rfl ?_
            exact q_iret dX10_part_56 rfl ⟨by unfold prM; first | rw [if_pos e0, if_pos e1] | rw [if_pos e0, if_neg e1] | rw [if_neg e0, if_pos e1] | rw [if_neg e0, if_neg e1] | rw [if_pos (Classical.not_not.mp e0), if_pos (Classical.not_not.mp e1)] , rfl⟩
          · first | exact absurd (by decide) c9 | exact absurd c9 (by decide)
        · have e1 := c30
          refine q_aload_n dX10_part_33 rfl ?_
          refine q_iload_n dX10_part_34 rfl ?_
          refine q_iload dX10_part_35 rfl ?_
          refine q_iload_n dX10_part_37 rfl ?_
          refine q_callSv (ν := mX10_share) dX10_part_38 uw_1138 vX10_share (c_X10_share_27 hG S (c) (1) (d) (by omega) (by decide) (by omega)) rfl rfl (Nat.le_of_ble_eq_true rfl) (Nat.le_of_ble_eq_true rfl) (Nat.le_of_ble_eq_true rfl) 0 (Nat.le_of_ble_eq_true rfl) ?_
          refine q_goto 45 dX10_part_41 rfl ?_
          refine q_iadd dX10_part_45 ?_
          refine q_ist4 dX10_part_46 (Nat.le_of_ble_eq_true rfl) rfl ?_
          refine q_iinc5 (k9 := 1) dX10_part_48 rfl (Nat.le_of_ble_eq_true rfl) rfl ?_
          refine wp_L (L2 := [some (.ref 27), some (.int (nI c)), some (.int (q)), some (.int (nI d)), some (.int (((0 + 0) + (shM (z_NW S) c 1 d)))), some (.int (2))]) rfl ?_
          refine q_goto 6 dX10_part_51 rfl ?_
          refine q_iload dX10_part_6 rfl ?_
          refine q_iconst (v := 2) dX10_part_8 rfl ?_
          refine q_icmp_ge 54 dX10_part_9 rfl (fun c9 => ?_) (fun c9 => ?_)
          · refine q_iload dX10_part_54 rfl ?_
            exact q_iret dX10_part_56 rfl ⟨by unfold prM; first | rw [if_pos e0, if_pos e1] | rw [if_pos e0, if_neg e1] | rw [if_neg e0, if_pos e1] | rw [if_neg e0, if_neg e1] | rw [if_pos (Classical.not_not.mp e0), if_pos (Classical.not_not.mp e1)] , rfl⟩
          · first | exact absurd (by decide) c9 | exact absurd c9 (by decide)
    · have e0 := c30
      refine q_aload_n dX10_part_33 rfl ?_
      refine q_iload_n dX10_part_34 rfl ?_
      refine q_iload dX10_part_35 rfl ?_
      refine q_iload_n dX10_part_37 rfl ?_
      refine q_callSv (ν := mX10_share) dX10_part_38 uw_1138 vX10_share (c_X10_share_27 hG S (c) (0) (d) (by omega) (by decide) (by omega)) rfl rfl (Nat.le_of_ble_eq_true rfl) (Nat.le_of_ble_eq_true rfl) (Nat.le_of_ble_eq_true rfl) 0 (Nat.le_of_ble_eq_true rfl) ?_
      refine q_goto 45 dX10_part_41 rfl ?_
      refine q_iadd dX10_part_45 ?_
      refine q_ist4 dX10_part_46 (Nat.le_of_ble_eq_true rfl) rfl ?_
      refine q_iinc5 (k9 := 1) dX10_part_48 rfl (Nat.le_of_ble_eq_true rfl) rfl ?_
      refine wp_L (L2 := [some (.ref 27), some (.int (nI c)), some (.int (q)), some (.int (nI d)), some (.int ((0 + (shM (z_NW S) c 0 d)))), some (.int (1))]) rfl ?_
      refine q_goto 6 dX10_part_51 rfl ?_
      refine q_iload dX10_part_6 rfl ?_
      refine q_iconst (v := 2) dX10_part_8 rfl ?_
      refine q_icmp_ge 54 dX10_part_9 rfl (fun c9 => ?_) (fun c9 => ?_)
      · first | exact absurd (by decide) c9 | exact absurd c9 (by decide)
      · refine q_iload dX10_part_12 rfl ?_
        refine q_aload_n dX10_part_14 rfl ?_
        refine q_aload_n dX10_part_15 rfl ?_
        refine q_bipush (v := 13) dX10_part_16 rfl ?_
        refine q_iconst (v := 2) dX10_part_18 rfl ?_
        refine q_iload_n dX10_part_19 rfl ?_
        refine q_imul dX10_part_20 ?_
        refine q_iadd dX10_part_21 ?_
        refine q_iload dX10_part_22 rfl ?_
        refine q_iadd dX10_part_24 ?_
        refine q_iald (f := (z_NW S)) dX10_part_25 (Nat.le_of_ble_eq_true rfl) rfl (13 + (2 * c + 1)) (by simp only [fa_lit, pk_mul, nI_add]; exact congrArg nI (by omega)) (by omega) (Nat.le_of_ble_eq_true rfl) ?_
        refine q_callSv (ν := mX10_goalOf) dX10_part_26 uw_1106 vX10_goalOf (c_X10_goalOf_27 hG S ((((z_NW S) (13 + (2 * c + 1)))))) rfl rfl (Nat.le_of_ble_eq_true rfl) (Nat.le_of_ble_eq_true rfl) (Nat.le_of_ble_eq_true rfl) 0 (Nat.le_of_ble_eq_true rfl) ?_
        refine wp_top (y := goM (z_NW S) (2 * c + 1)) rfl ?_
        refine q_iload_n dX10_part_29 rfl ?_
        refine q_icmp_ne 44 dX10_part_30 rfl (fun c30 => ?_) (fun c30 => ?_)
        · have e1 := c30
          refine q_iconst (v := 0) dX10_part_44 rfl ?_
          refine q_iadd dX10_part_45 ?_
          refine q_ist4 dX10_part_46 (Nat.le_of_ble_eq_true rfl) rfl ?_
          refine q_iinc5 (k9 := 1) dX10_part_48 rfl (Nat.le_of_ble_eq_true rfl) rfl ?_
          refine wp_L (L2 := [some (.ref 27), some (.int (nI c)), some (.int (q)), some (.int (nI d)), some (.int (((0 + (shM (z_NW S) c 0 d)) + 0))), some (.int (2))]) rfl ?_
          refine q_goto 6 dX10_part_51 rfl ?_
          refine q_iload dX10_part_6 rfl ?_
          refine q_iconst (v := 2) dX10_part_8 rfl ?_
          refine q_icmp_ge 54 dX10_part_9 rfl (fun c9 => ?_) (fun c9 => ?_)
          · refine q_iload dX10_part_54 rfl ?_
            exact q_iret dX10_part_56 rfl ⟨by unfold prM; first | rw [if_pos e0, if_pos e1] | rw [if_pos e0, if_neg e1] | rw [if_neg e0, if_pos e1] | rw [if_neg e0, if_neg e1] | rw [if_pos (Classical.not_not.mp e0), if_pos (Classical.not_not.mp e1)] , rfl⟩
          · first | exact absurd (by decide) c9 | exact absurd c9 (by decide)
        · have e1 := c30
          refine q_aload_n dX10_part_33 rfl ?_
          refine q_iload_n dX10_part_34 rfl ?_
          refine q_iload dX10_part_35 rfl ?_
          refine q_iload_n dX10_part_37 rfl ?_
          refine q_callSv (ν := mX10_share) dX10_part_38 uw_1138 vX10_share (c_X10_share_27 hG S (c) (1) (d) (by omega) (by decide) (by omega)) rfl rfl (Nat.le_of_ble_eq_true rfl) (Nat.le_of_ble_eq_true rfl) (Nat.le_of_ble_eq_true rfl) 0 (Nat.le_of_ble_eq_true rfl) ?_
          refine q_goto 45 dX10_part_41 rfl ?_
          refine q_iadd dX10_part_45 ?_
          refine q_ist4 dX10_part_46 (Nat.le_of_ble_eq_true rfl) rfl ?_
          refine q_iinc5 (k9 := 1) dX10_part_48 rfl (Nat.le_of_ble_eq_true rfl) rfl ?_
          refine wp_L (L2 := [some (.ref 27), some (.int (nI c)), some (.int (q)), some (.int (nI d)), some (.int (((0 + (shM (z_NW S) c 0 d)) + (shM (z_NW S) c 1 d)))), some (.int (2))]) rfl ?_
          refine q_goto 6 dX10_part_51 rfl ?_
          refine q_iload dX10_part_6 rfl ?_
          refine q_iconst (v := 2) dX10_part_8 rfl ?_
          refine q_icmp_ge 54 dX10_part_9 rfl (fun c9 => ?_) (fun c9 => ?_)
          · refine q_iload dX10_part_54 rfl ?_
            exact q_iret dX10_part_56 rfl ⟨by unfold prM; first | rw [if_pos e0, if_pos e1] | rw [if_pos e0, if_neg e1] | rw [if_neg e0, if_pos e1] | rw [if_neg e0, if_neg e1] | rw [if_pos (Classical.not_not.mp e0), if_pos (Classical.not_not.mp e1)] , rfl⟩
          · first | exact absurd (by decide) c9 | exact absurd c9 (by decide)
set_option maxRecDepth 100000 in
set_option maxHeartbeats 4000000 in
theorem l_X10_st24_27 {g : G0} {h : G1} (hG : Gd g) (S : SS) {Q : State → Prop} (N d : Nat) (hN : z_NW S 0 = nI N) (hN6 : N ≤ 6) (hd : d < 2) (c q : Nat) (m : Int32) (hc : c < N) (k : wp g h mX10_isSteady (mixW g S) [some (.ref 27), some (.int (nI d)), some (.int (stS (z_NW S) d c m 2)), some (.int (nI q)), some (.int (nI c)), some (.int (nI 2)), none, none] [] 0 Q 106) : ∀ (n i : Nat), i + n = 2 → wp g h mX10_isSteady (mixW g S) [some (.ref 27), some (.int (nI d)), some (.int (stS (z_NW S) d c m i)), some (.int (nI q)), some (.int (nI c)), some (.int (nI i)), none, none] [] 0 Q 24 := by
  intro n
  induction n with
  | zero =>
    intro i hq1
    obtain rfl : 2 = i := by omega
    refine q_iload dX10_isSteady_24 rfl ?_
    refine q_iconst (v := 2) dX10_isSteady_26 rfl ?_
    refine q_icmp_ge 106 dX10_isSteady_27 rfl (fun c27 => ?_) (fun c27 => ?_)
    · have n27 := (nI_leI (a := 2) (b := 2) (by omega) (by omega)).mp c27
      exact k
    · have n27 := mt (nI_leI (a := 2) (b := 2) (by omega) (by omega)).mpr c27
      exact absurd (by decide) c27
  | succ n ih =>
    intro i hq1
    refine q_iload dX10_isSteady_24 rfl ?_
    refine q_iconst (v := 2) dX10_isSteady_26 rfl ?_
    refine q_icmp_ge 106 dX10_isSteady_27 rfl (fun c27 => ?_) (fun c27 => ?_)
    · have n27 := (nI_leI (a := 2) (b := i) (by omega) (by omega)).mp c27
      omega
    · have n27 := mt (nI_leI (a := 2) (b := i) (by omega) (by omega)).mpr c27
      refine q_aload_n dX10_isSteady_30 rfl ?_
      refine q_aload_n dX10_isSteady_31 rfl ?_
      refine q_bipush (v := 13) dX10_isSteady_32 rfl ?_
      refine q_iconst (v := 2) dX10_isSteady_34 rfl ?_
      refine q_iload dX10_isSteady_35 rfl ?_
      refine q_imul dX10_isSteady_37 ?_
      refine q_iadd dX10_isSteady_38 ?_
      refine q_iload dX10_isSteady_39 rfl ?_
      refine q_iadd dX10_isSteady_41 ?_
      refine q_iald (f := (z_NW S)) dX10_isSteady_42 (Nat.le_of_ble_eq_true rfl) rfl (13 + (2 * c + i)) (by simp only [fa_lit, pk_mul, nI_add]; exact congrArg nI (by omega)) (by omega) (Nat.le_of_ble_eq_true rfl) ?_
      refine q_callSv (ν := mX10_goalOf) dX10_isSteady_43 uw_1106 vX10_goalOf (c_X10_goalOf_27 hG S ((((z_NW S) (13 + (2 * c + i)))))) rfl rfl (Nat.le_of_ble_eq_true rfl) (Nat.le_of_ble_eq_true rfl) (Nat.le_of_ble_eq_true rfl) 0 (Nat.le_of_ble_eq_true rfl) ?_
      refine wp_top (y := goM (z_NW S) (2 * c + i)) rfl ?_
      refine q_ist6 dX10_isSteady_46 (Nat.le_of_ble_eq_true rfl) rfl ?_
      refine q_aload_n dX10_isSteady_48 rfl ?_
      refine q_iload dX10_isSteady_49 rfl ?_
      refine q_iload dX10_isSteady_51 rfl ?_
      refine q_iload_n dX10_isSteady_53 rfl ?_
      refine q_callSv (ν := mX10_share) dX10_isSteady_54 uw_1138 vX10_share (c_X10_share_27 hG S (c) (i) (d) (by omega) (by omega) (by omega)) rfl rfl (Nat.le_of_ble_eq_true rfl) (Nat.le_of_ble_eq_true rfl) (Nat.le_of_ble_eq_true rfl) 0 (Nat.le_of_ble_eq_true rfl) ?_
      refine q_if_le 81 dX10_isSteady_57 rfl (fun c57 => ?_) (fun c57 => ?_)
      · refine q_iconst (v := 0) dX10_isSteady_81 rfl ?_
        refine q_ist7 dX10_isSteady_82 (Nat.le_of_ble_eq_true rfl) rfl ?_
        refine q_iload_n dX10_isSteady_84 rfl ?_
        refine q_iload dX10_isSteady_85 rfl ?_
        refine q_if_eq 97 dX10_isSteady_87 rfl (fun c87 => ?_) (fun c87 => ?_)
        · refine q_iconst (v := 0) dX10_isSteady_97 rfl ?_
          refine q_ior dX10_isSteady_98 ?_
          refine q_ist2 dX10_isSteady_99 (Nat.le_of_ble_eq_true rfl) rfl ?_
          refine q_iinc5 (k9 := 1) dX10_isSteady_100 rfl (Nat.le_of_ble_eq_true rfl) rfl ?_
          refine wp_L (L2 := [some (.ref 27), some (.int (nI d)), some (.int ((stS (z_NW S) d c m i ||| 0))), some (.int (nI q)), some (.int (nI c)), some (.int (nI (i + 1))), some (.int (goM (z_NW S) (2 * c + i))), some (.int (0))]) (by rw [show nI i + 1 = nI (i + 1) from nI_1 _]) ?_
          refine q_goto 24 dX10_isSteady_103 rfl ?_
          refine wp_fg (L2 := [some (.ref 27), some (.int (nI d)), some (.int ((stS (z_NW S) d c m i ||| 0))), some (.int (nI q)), some (.int (nI c)), some (.int (nI (i + 1))), none, none]) ⟨rfl, rfl, rfl, rfl, rfl, rfl, trivial⟩ ?_
          have est : stS (z_NW S) d c m (i + 1) = (stS (z_NW S) d c m i ||| 0) := by
            show stB _ _ _ _ _ = _
            unfold stB
            refine congrArg (HOr.hOr _) ?_
            refine if_neg ?_
            first | exact fun z => absurd z.1 (Int32.not_lt.mpr c57) | exact fun z => z.2.elim c64 c74
          refine wp_L (L2 := [some (.ref 27), some (.int (nI d)), some (.int (stS (z_NW S) d c m (i + 1))), some (.int (nI q)), some (.int (nI c)), some (.int (nI (i + 1))), none, none]) (by rw [est]) ?_
          exact ih (i + 1) (by omega)
        · first | exact absurd (by decide) c87 | exact absurd c87 (by decide)
      · refine q_iload dX10_isSteady_60 rfl ?_
        refine q_bipush (v := 7) dX10_isSteady_62 rfl ?_
        refine q_icmp_gt 77 dX10_isSteady_64 rfl (fun c64 => ?_) (fun c64 => ?_)
        · refine q_iconst (v := 1) dX10_isSteady_77 rfl ?_
          refine q_goto 82 dX10_isSteady_78 rfl ?_
          refine q_ist7 dX10_isSteady_82 (Nat.le_of_ble_eq_true rfl) rfl ?_
          refine q_iload_n dX10_isSteady_84 rfl ?_
          refine q_iload dX10_isSteady_85 rfl ?_
          refine q_if_eq 97 dX10_isSteady_87 rfl (fun c87 => ?_) (fun c87 => ?_)
          · first | exact absurd (by decide) c87 | exact absurd c87 (by decide)
          · refine q_iconst (v := 1) dX10_isSteady_90 rfl ?_
            refine q_iload dX10_isSteady_91 rfl ?_
            refine q_ishl dX10_isSteady_93 ?_
            refine q_goto 98 dX10_isSteady_94 rfl ?_
            refine q_ior dX10_isSteady_98 ?_
            refine q_ist2 dX10_isSteady_99 (Nat.le_of_ble_eq_true rfl) rfl ?_
            refine q_iinc5 (k9 := 1) dX10_isSteady_100 rfl (Nat.le_of_ble_eq_true rfl) rfl ?_
            refine wp_L (L2 := [some (.ref 27), some (.int (nI d)), some (.int ((stS (z_NW S) d c m i ||| (1 <<< (nI c &&& 31))))), some (.int (nI q)), some (.int (nI c)), some (.int (nI (i + 1))), some (.int (goM (z_NW S) (2 * c + i))), some (.int (1))]) (by rw [show nI i + 1 = nI (i + 1) from nI_1 _]) ?_
            refine q_goto 24 dX10_isSteady_103 rfl ?_
            refine wp_fg (L2 := [some (.ref 27), some (.int (nI d)), some (.int ((stS (z_NW S) d c m i ||| (1 <<< (nI c &&& 31))))), some (.int (nI q)), some (.int (nI c)), some (.int (nI (i + 1))), none, none]) ⟨rfl, rfl, rfl, rfl, rfl, rfl, trivial⟩ ?_
            have est : stS (z_NW S) d c m (i + 1) = (stS (z_NW S) d c m i ||| (1 <<< (nI c &&& 31))) := by
              show stB _ _ _ _ _ = _
              unfold stB
              refine congrArg (HOr.hOr _) ?_
              by_cases z : 7 < goM (z_NW S) (2 * c + i)
              · exact if_pos ⟨Int32.not_le.mp c57, Or.inl z⟩
              · refine if_pos ⟨Int32.not_le.mp c57, Or.inr ?_⟩
                first | exact absurd c64 z | exact c74
            refine wp_L (L2 := [some (.ref 27), some (.int (nI d)), some (.int (stS (z_NW S) d c m (i + 1))), some (.int (nI q)), some (.int (nI c)), some (.int (nI (i + 1))), none, none]) (by rw [est]) ?_
            exact ih (i + 1) (by omega)
        · refine q_iload_n dX10_isSteady_67 rfl ?_
          refine q_iload dX10_isSteady_68 rfl ?_
          refine q_ishr dX10_isSteady_70 ?_
          refine q_iconst (v := 1) dX10_isSteady_71 rfl ?_
          refine q_iand dX10_isSteady_72 ?_
          refine q_iconst (v := 1) dX10_isSteady_73 rfl ?_
          refine q_icmp_ne 81 dX10_isSteady_74 rfl (fun c74 => ?_) (fun c74 => ?_)
          · refine q_iconst (v := 0) dX10_isSteady_81 rfl ?_
            refine q_ist7 dX10_isSteady_82 (Nat.le_of_ble_eq_true rfl) rfl ?_
            refine q_iload_n dX10_isSteady_84 rfl ?_
            refine q_iload dX10_isSteady_85 rfl ?_
            refine q_if_eq 97 dX10_isSteady_87 rfl (fun c87 => ?_) (fun c87 => ?_)
            · refine q_iconst (v := 0) dX10_isSteady_97 rfl ?_
              refine q_ior dX10_isSteady_98 ?_
              refine q_ist2 dX10_isSteady_99 (Nat.le_of_ble_eq_true rfl) rfl ?_
              refine q_iinc5 (k9 := 1) dX10_isSteady_100 rfl (Nat.le_of_ble_eq_true rfl) rfl ?_
              refine wp_L (L2 := [some (.ref 27), some (.int (nI d)), some (.int ((stS (z_NW S) d c m i ||| 0))), some (.int (nI q)), some (.int (nI c)), some (.int (nI (i + 1))), some (.int (goM (z_NW S) (2 * c + i))), some (.int (0))]) (by rw [show nI i + 1 = nI (i + 1) from nI_1 _]) ?_
              refine q_goto 24 dX10_isSteady_103 rfl ?_
              refine wp_fg (L2 := [some (.ref 27), some (.int (nI d)), some (.int ((stS (z_NW S) d c m i ||| 0))), some (.int (nI q)), some (.int (nI c)), some (.int (nI (i + 1))), none, none]) ⟨rfl, rfl, rfl, rfl, rfl, rfl, trivial⟩ ?_
              have est : stS (z_NW S) d c m (i + 1) = (stS (z_NW S) d c m i ||| 0) := by
                show stB _ _ _ _ _ = _
                unfold stB
                refine congrArg (HOr.hOr _) ?_
                refine if_neg ?_
                first | exact fun z => absurd z.1 (Int32.not_lt.mpr c57) | exact fun z => z.2.elim c64 c74
              refine wp_L (L2 := [some (.ref 27), some (.int (nI d)), some (.int (stS (z_NW S) d c m (i + 1))), some (.int (nI q)), some (.int (nI c)), some (.int (nI (i + 1))), none, none]) (by rw [est]) ?_
              exact ih (i + 1) (by omega)
            · first | exact absurd (by decide) c87 | exact absurd c87 (by decide)
          · refine q_iconst (v := 1) dX10_isSteady_77 rfl ?_
            refine q_goto 82 dX10_isSteady_78 rfl ?_
            refine q_ist7 dX10_isSteady_82 (Nat.le_of_ble_eq_true rfl) rfl ?_
            refine q_iload_n dX10_isSteady_84 rfl ?_
            refine q_iload dX10_isSteady_85 rfl ?_
            refine q_if_eq 97 dX10_isSteady_87 rfl (fun c87 => ?_) (fun c87 => ?_)
            · first | exact absurd (by decide) c87 | exact absurd c87 (by decide)
            · refine q_iconst (v := 1) dX10_isSteady_90 rfl ?_
              refine q_iload dX10_isSteady_91 rfl ?_
              refine q_ishl dX10_isSteady_93 ?_
              refine q_goto 98 dX10_isSteady_94 rfl ?_
              refine q_ior dX10_isSteady_98 ?_
              refine q_ist2 dX10_isSteady_99 (Nat.le_of_ble_eq_true rfl) rfl ?_
              refine q_iinc5 (k9 := 1) dX10_isSteady_100 rfl (Nat.le_of_ble_eq_true rfl) rfl ?_
              refine wp_L (L2 := [some (.ref 27), some (.int (nI d)), some (.int ((stS (z_NW S) d c m i ||| (1 <<< (nI c &&& 31))))), some (.int (nI q)), some (.int (nI c)), some (.int (nI (i + 1))), some (.int (goM (z_NW S) (2 * c + i))), some (.int (1))]) (by rw [show nI i + 1 = nI (i + 1) from nI_1 _]) ?_
              refine q_goto 24 dX10_isSteady_103 rfl ?_
              refine wp_fg (L2 := [some (.ref 27), some (.int (nI d)), some (.int ((stS (z_NW S) d c m i ||| (1 <<< (nI c &&& 31))))), some (.int (nI q)), some (.int (nI c)), some (.int (nI (i + 1))), none, none]) ⟨rfl, rfl, rfl, rfl, rfl, rfl, trivial⟩ ?_
              have est : stS (z_NW S) d c m (i + 1) = (stS (z_NW S) d c m i ||| (1 <<< (nI c &&& 31))) := by
                show stB _ _ _ _ _ = _
                unfold stB
                refine congrArg (HOr.hOr _) ?_
                by_cases z : 7 < goM (z_NW S) (2 * c + i)
                · exact if_pos ⟨Int32.not_le.mp c57, Or.inl z⟩
                · refine if_pos ⟨Int32.not_le.mp c57, Or.inr ?_⟩
                  first | exact absurd c64 z | exact c74
              refine wp_L (L2 := [some (.ref 27), some (.int (nI d)), some (.int (stS (z_NW S) d c m (i + 1))), some (.int (nI q)), some (.int (nI c)), some (.int (nI (i + 1))), none, none]) (by rw [est]) ?_
              exact ih (i + 1) (by omega)
set_option maxRecDepth 100000 in
set_option maxHeartbeats 4000000 in
theorem l_X10_st13_27 {g : G0} {h : G1} (hG : Gd g) (S : SS) {Q : State → Prop} (N d : Nat) (hN : z_NW S 0 = nI N) (hN6 : N ≤ 6) (hd : d < 2) (q : Nat) (m : Int32) (k : wp g h mX10_isSteady (mixW g S) [some (.ref 27), some (.int (nI d)), some (.int (stC (z_NW S) d m N)), some (.int (nI q)), some (.int (nI N)), none, none, none] [] 0 Q 112) : ∀ (n i : Nat), i + n = N → wp g h mX10_isSteady (mixW g S) [some (.ref 27), some (.int (nI d)), some (.int (stC (z_NW S) d m i)), some (.int (nI q)), some (.int (nI i)), none, none, none] [] 0 Q 13 := by
  intro n
  induction n with
  | zero =>
    intro i hq1
    obtain rfl : N = i := by omega
    refine q_iload dX10_isSteady_13 rfl ?_
    refine q_aload_n dX10_isSteady_15 rfl ?_
    refine q_iconst (v := 0) dX10_isSteady_16 rfl ?_
    refine q_iald (f := (z_NW S)) dX10_isSteady_17 (Nat.le_of_ble_eq_true rfl) rfl (0) rfl (Nat.le_of_ble_eq_true rfl) (Nat.le_of_ble_eq_true rfl) ?_
    refine wp_top (y := nI N) hN ?_
    refine q_icmp_ge 112 dX10_isSteady_18 rfl (fun c18 => ?_) (fun c18 => ?_)
    · have n18 := (nI_leI (a := N) (b := N) (by omega) (by omega)).mp c18
      exact k
    · have n18 := mt (nI_leI (a := N) (b := N) (by omega) (by omega)).mpr c18
      omega
  | succ n ih =>
    intro i hq1
    refine q_iload dX10_isSteady_13 rfl ?_
    refine q_aload_n dX10_isSteady_15 rfl ?_
    refine q_iconst (v := 0) dX10_isSteady_16 rfl ?_
    refine q_iald (f := (z_NW S)) dX10_isSteady_17 (Nat.le_of_ble_eq_true rfl) rfl (0) rfl (Nat.le_of_ble_eq_true rfl) (Nat.le_of_ble_eq_true rfl) ?_
    refine wp_top (y := nI N) hN ?_
    refine q_icmp_ge 112 dX10_isSteady_18 rfl (fun c18 => ?_) (fun c18 => ?_)
    · have n18 := (nI_leI (a := N) (b := i) (by omega) (by omega)).mp c18
      omega
    · have n18 := mt (nI_leI (a := N) (b := i) (by omega) (by omega)).mpr c18
      refine q_iconst (v := 0) dX10_isSteady_21 rfl ?_
      refine q_ist5 dX10_isSteady_22 (Nat.le_of_ble_eq_true rfl) rfl ?_
      refine wp_L (L2 := [some (.ref 27), some (.int (nI d)), some (.int (stS (z_NW S) d i (stC (z_NW S) d m i) 0)), some (.int (nI q)), some (.int (nI i)), some (.int (nI 0)), none, none]) rfl ?_
      refine l_X10_st24_27 hG S N d hN hN6 hd i q _ (by omega) ?_ 2 0 rfl
      refine q_iinc4 (k9 := 1) dX10_isSteady_106 rfl (Nat.le_of_ble_eq_true rfl) rfl ?_
      refine wp_L (L2 := [some (.ref 27), some (.int (nI d)), some (.int (stS (z_NW S) d i (stC (z_NW S) d m i) 2)), some (.int (nI q)), some (.int (nI (i + 1))), some (.int (nI 2)), none, none]) (by rw [show nI i + 1 = nI (i + 1) from nI_1 _]) ?_
      refine q_goto 13 dX10_isSteady_109 rfl ?_
      refine wp_fg (L2 := [some (.ref 27), some (.int (nI d)), some (.int (stS (z_NW S) d i (stC (z_NW S) d m i) 2)), some (.int (nI q)), some (.int (nI (i + 1))), none, none, none]) ⟨rfl, rfl, rfl, rfl, rfl, trivial⟩ ?_
      refine wp_L (L2 := [some (.ref 27), some (.int (nI d)), some (.int (stC (z_NW S) d m (i + 1))), some (.int (nI q)), some (.int (nI (i + 1))), none, none, none]) rfl ?_
      exact ih (i + 1) (by omega)
set_option maxRecDepth 100000 in
set_option maxHeartbeats 4000000 in
theorem l_X10_st4_27 {g : G0} {h : G1} (hG : Gd g) (S : SS) {Q : State → Prop} (N d : Nat) (hN : z_NW S 0 = nI N) (hN6 : N ≤ 6) (hd : d < 2) (k : wp g h mX10_isSteady (mixW g S) [some (.ref 27), some (.int (nI d)), some (.int (stR (z_NW S) d N 6)), some (.int (nI 6)), none, none, none, none] [] 0 Q 118) : ∀ (n i : Nat), i + n = 6 → wp g h mX10_isSteady (mixW g S) [some (.ref 27), some (.int (nI d)), some (.int (stR (z_NW S) d N i)), some (.int (nI i)), none, none, none, none] [] 0 Q 4 := by
  intro n
  induction n with
  | zero =>
    intro i hq1
    obtain rfl : 6 = i := by omega
    refine q_iload_n dX10_isSteady_4 rfl ?_
    refine q_bipush (v := 6) dX10_isSteady_5 rfl ?_
    refine q_icmp_ge 118 dX10_isSteady_7 rfl (fun c7 => ?_) (fun c7 => ?_)
    · have n7 := (nI_leI (a := 6) (b := 6) (by omega) (by omega)).mp c7
      exact k
    · have n7 := mt (nI_leI (a := 6) (b := 6) (by omega) (by omega)).mpr c7
      exact absurd (by decide) c7
  | succ n ih =>
    intro i hq1
    refine q_iload_n dX10_isSteady_4 rfl ?_
    refine q_bipush (v := 6) dX10_isSteady_5 rfl ?_
    refine q_icmp_ge 118 dX10_isSteady_7 rfl (fun c7 => ?_) (fun c7 => ?_)
    · have n7 := (nI_leI (a := 6) (b := i) (by omega) (by omega)).mp c7
      omega
    · have n7 := mt (nI_leI (a := 6) (b := i) (by omega) (by omega)).mpr c7
      refine q_iconst (v := 0) dX10_isSteady_10 rfl ?_
      refine q_ist4 dX10_isSteady_11 (Nat.le_of_ble_eq_true rfl) rfl ?_
      refine wp_L (L2 := [some (.ref 27), some (.int (nI d)), some (.int (stC (z_NW S) d (stR (z_NW S) d N i) 0)), some (.int (nI i)), some (.int (nI 0)), none, none, none]) rfl ?_
      refine l_X10_st13_27 hG S N d hN hN6 hd i _ ?_ N 0 (by omega)
      refine q_iinc3 (k9 := 1) dX10_isSteady_112 rfl (Nat.le_of_ble_eq_true rfl) rfl ?_
      refine wp_L (L2 := [some (.ref 27), some (.int (nI d)), some (.int (stC (z_NW S) d (stR (z_NW S) d N i) N)), some (.int (nI (i + 1))), some (.int (nI N)), none, none, none]) (by rw [show nI i + 1 = nI (i + 1) from nI_1 _]) ?_
      refine q_goto 4 dX10_isSteady_115 rfl ?_
      refine wp_fg (L2 := [some (.ref 27), some (.int (nI d)), some (.int (stC (z_NW S) d (stR (z_NW S) d N i) N)), some (.int (nI (i + 1))), none, none, none, none]) ⟨rfl, rfl, rfl, rfl, trivial⟩ ?_
      refine wp_L (L2 := [some (.ref 27), some (.int (nI d)), some (.int (stR (z_NW S) d N (i + 1))), some (.int (nI (i + 1))), none, none, none, none]) rfl ?_
      exact ih (i + 1) (by omega)
set_option maxRecDepth 100000 in
set_option maxHeartbeats 4000000 in
theorem c_X10_isSteady_27 {g : G0} (hG : Gd g) (S : SS) (d : Nat) (N : Nat) (h1 : (z_NW S) 0 = nI N) (h2 : N ≤ 6) (h3 : d < 2) : ctv g mX10_isSteady [.ref 27, .int (nI d)] (mixW g S) (.int (pI (SM (z_NW S) N d))) (mixW g S) := by
  refine ct_of hG [some (.ref 27), some (.int (nI d)), none, none, none, none, none, none] rfl rfl rfl (Nat.le_of_ble_eq_true rfl) (fun h => ?_) rfl
  refine q_iconst (v := 0) dX10_isSteady_0 rfl ?_
  refine q_ist2 dX10_isSteady_1 (Nat.le_of_ble_eq_true rfl) rfl ?_
  refine q_iconst (v := 0) dX10_isSteady_2 rfl ?_
  refine q_ist3 dX10_isSteady_3 (Nat.le_of_ble_eq_true rfl) rfl ?_
  refine wp_L (L2 := [some (.ref 27), some (.int (nI d)), some (.int (stR (z_NW S) d N 0)), some (.int (nI 0)), none, none, none, none]) rfl ?_
  refine l_X10_st4_27 hG S N d h1 h2 h3 ?_ 6 0 (by omega)
  refine q_iload_n dX10_isSteady_118 rfl ?_
  refine q_iconst (v := 1) dX10_isSteady_119 rfl ?_
  refine q_aload_n dX10_isSteady_120 rfl ?_
  refine q_iconst (v := 0) dX10_isSteady_121 rfl ?_
  refine q_iald (f := (z_NW S)) dX10_isSteady_122 (Nat.le_of_ble_eq_true rfl) rfl (0) rfl (Nat.le_of_ble_eq_true rfl) (Nat.le_of_ble_eq_true rfl) ?_
  refine wp_top (y := nI N) h1 ?_
  refine q_ishl dX10_isSteady_123 ?_
  refine q_iconst (v := 1) dX10_isSteady_124 rfl ?_
  refine q_isub dX10_isSteady_125 ?_
  refine q_icmp_ne 133 dX10_isSteady_126 rfl (fun c126 => ?_) (fun c126 => ?_)
  · refine q_iconst (v := 0) dX10_isSteady_133 rfl ?_
    exact q_zret dX10_isSteady_134 rfl rfl ⟨by rw [pI_f (p := SM _ _ _) c126], rfl⟩
  · refine q_iconst (v := 1) dX10_isSteady_129 rfl ?_
    refine q_goto 134 dX10_isSteady_130 rfl ?_
    exact q_zret dX10_isSteady_134 rfl rfl ⟨by rw [pI_t (by first | exact c126 | exact Classical.not_not.mp c126)], rfl⟩
set_option maxRecDepth 100000 in
set_option maxHeartbeats 4000000 in
theorem c_X10_isSteadyAll_27 {g : G0} (hG : Gd g) (S : SS)  (N : Nat) (h1 : (z_NW S) 0 = nI N) (h2 : N ≤ 6) : ctv g mX10_isSteadyAll [.ref 27] (mixW g S) (.int (pI (SM (z_NW S) N 0 ∧ SM (z_NW S) N 1))) (mixW g S) := by
  refine ct_of hG [some (.ref 27)] rfl rfl rfl (Nat.le_of_ble_eq_true rfl) (fun h => ?_) rfl
  refine q_aload_n dX10_isSteadyAll_0 rfl ?_
  refine q_iconst (v := 0) dX10_isSteadyAll_1 rfl ?_
  refine q_callSv (ν := mX10_isSteady) dX10_isSteadyAll_2 uw_1135 vX10_isSteady (c_X10_isSteady_27 hG S (0) (N) h1 h2 (by decide)) rfl rfl (Nat.le_of_ble_eq_true rfl) (Nat.le_of_ble_eq_true rfl) (Nat.le_of_ble_eq_true rfl) 0 (Nat.le_of_ble_eq_true rfl) ?_
  refine q_if_eq 20 dX10_isSteadyAll_5 rfl (fun c5 => ?_) (fun c5 => ?_)
  · refine q_iconst (v := 0) dX10_isSteadyAll_20 rfl ?_
    exact q_zret dX10_isSteadyAll_21 rfl rfl ⟨by rw [pI_f (by first | exact fun z => pI_0 c5 z.1 | exact fun z => pI_0 c13 z.2)], rfl⟩
  · refine q_aload_n dX10_isSteadyAll_8 rfl ?_
    refine q_iconst (v := 1) dX10_isSteadyAll_9 rfl ?_
    refine q_callSv (ν := mX10_isSteady) dX10_isSteadyAll_10 uw_1135 vX10_isSteady (c_X10_isSteady_27 hG S (1) (N) h1 h2 (by decide)) rfl rfl (Nat.le_of_ble_eq_true rfl) (Nat.le_of_ble_eq_true rfl) (Nat.le_of_ble_eq_true rfl) 0 (Nat.le_of_ble_eq_true rfl) ?_
    refine q_if_eq 20 dX10_isSteadyAll_13 rfl (fun c13 => ?_) (fun c13 => ?_)
    · refine q_iconst (v := 0) dX10_isSteadyAll_20 rfl ?_
      exact q_zret dX10_isSteadyAll_21 rfl rfl ⟨by rw [pI_f (by first | exact fun z => pI_0 c5 z.1 | exact fun z => pI_0 c13 z.2)], rfl⟩
    · refine q_iconst (v := 1) dX10_isSteadyAll_16 rfl ?_
      refine q_goto 21 dX10_isSteadyAll_17 rfl ?_
      exact q_zret dX10_isSteadyAll_21 rfl rfl ⟨by rw [pI_t ⟨pI_1 c5, pI_1 c13⟩], rfl⟩
set_option maxRecDepth 100000 in
set_option maxHeartbeats 4000000 in
theorem c_X10_share_28 {g : G0} (hG : Gd g) (S : SS) (c : Nat) (s : Nat) (d : Nat)  (h1 : c < 6) (h2 : s < 2) (h3 : d < 2) : ctv g mX10_share [.ref 28, .int (nI c), .int (nI s), .int (nI d)] (mixW g S) (.int (shM (z_TR S) c s d)) (mixW g S) := by
  refine ct_of hG [some (.ref 28), some (.int (nI c)), some (.int (nI s)), some (.int (nI d)), none] rfl rfl rfl (Nat.le_of_ble_eq_true rfl) (fun h => ?_) rfl
  refine q_aload_n dX10_share_0 rfl ?_
  refine q_iconst (v := 1) dX10_share_1 rfl ?_
  refine q_iconst (v := 2) dX10_share_2 rfl ?_
  refine q_iload_n dX10_share_3 rfl ?_
  refine q_imul dX10_share_4 ?_
  refine q_iadd dX10_share_5 ?_
  refine q_iload_n dX10_share_6 rfl ?_
  refine q_iadd dX10_share_7 ?_
  refine q_iald (f := (z_TR S)) dX10_share_8 (Nat.le_of_ble_eq_true rfl) rfl (((1 + (2 * c)) + d)) (by simp only [fa_lit, pk_mul, nI_add]) (by omega) (Nat.le_of_ble_eq_true rfl) ?_
  refine q_ist4 dX10_share_9 (Nat.le_of_ble_eq_true rfl) rfl ?_
  refine q_iload_n dX10_share_11 rfl ?_
  refine q_if_ne 20 dX10_share_12 rfl (fun c12 => ?_) (fun c12 => ?_)
  · have n12 := mt (nI_eq (a := s) (b := 0) (by omega) (by omega)).mpr c12
    refine q_bipush (v := 100) dX10_share_20 rfl ?_
    refine q_iload dX10_share_22 rfl ?_
    refine q_isub dX10_share_24 ?_
    exact q_iret dX10_share_25 rfl ⟨by rw [shM, if_neg (by omega)], rfl⟩
  · have n12 := (nI_eq (a := s) (b := 0) (by omega) (by omega)).mp c12
    refine q_iload dX10_share_15 rfl ?_
    refine q_goto 25 dX10_share_17 rfl ?_
    exact q_iret dX10_share_25 rfl ⟨by rw [shM, if_pos (by omega)], rfl⟩
set_option maxRecDepth 100000 in
set_option maxHeartbeats 4000000 in
theorem c_X10_part_28 {g : G0} (hG : Gd g) (S : SS) (c : Nat) (q : Int32) (d : Nat)  (h1 : c < 6) (h2 : d < 2) : ctv g mX10_part [.ref 28, .int (nI c), .int q, .int (nI d)] (mixW g S) (.int (prM (z_TR S) c q d)) (mixW g S) := by
  refine ct_of hG [some (.ref 28), some (.int (nI c)), some (.int (q)), some (.int (nI d)), none, none] rfl rfl rfl (Nat.le_of_ble_eq_true rfl) (fun h => ?_) rfl
  refine q_iconst (v := 0) dX10_part_0 rfl ?_
  refine q_ist4 dX10_part_1 (Nat.le_of_ble_eq_true rfl) rfl ?_
  refine q_iconst (v := 0) dX10_part_3 rfl ?_
  refine q_ist5 dX10_part_4 (Nat.le_of_ble_eq_true rfl) rfl ?_
  refine q_iload dX10_part_6 rfl ?_
  refine q_iconst (v := 2) dX10_part_8 rfl ?_
  refine q_icmp_ge 54 dX10_part_9 rfl (fun c9 => ?_) (fun c9 => ?_)
  · first | exact absurd (by decide) c9 | exact absurd c9 (by decide)
  · refine q_iload dX10_part_12 rfl ?_
    refine q_aload_n dX10_part_14 rfl ?_
    refine q_aload_n dX10_part_15 rfl ?_
    refine q_bipush (v := 13) dX10_part_16 rfl ?_
    refine q_iconst (v := 2) dX10_part_18 rfl ?_
    refine q_iload_n dX10_part_19 rfl ?_
    refine q_imul dX10_part_20 ?_
    refine q_iadd dX10_part_21 ?_
    refine q_iload dX10_part_22 rfl ?_
    refine q_iadd dX10_part_24 ?_
    refine q_iald (f := (z_TR S)) dX10_part_25 (Nat.le_of_ble_eq_true rfl) rfl (13 + (2 * c)) (by simp only [fa_lit, pk_mul, nI_add]; exact congrArg nI (by omega)) (by omega) (Nat.le_of_ble_eq_true rfl) ?_
    refine q_callSv (ν := mX10_goalOf) dX10_part_26 uw_1106 vX10_goalOf (c_X10_goalOf_28 hG S ((((z_TR S) (13 + (2 * c)))))) rfl rfl (Nat.le_of_ble_eq_true rfl) (Nat.le_of_ble_eq_true rfl) (Nat.le_of_ble_eq_true rfl) 0 (Nat.le_of_ble_eq_true rfl) ?_
    refine wp_top (y := goM (z_TR S) (2 * c)) rfl ?_
    refine q_iload_n dX10_part_29 rfl ?_
    refine q_icmp_ne 44 dX10_part_30 rfl (fun c30 => ?_) (fun c30 => ?_)
    · have e0 := c30
      refine q_iconst (v := 0) dX10_part_44 rfl ?_
      refine q_iadd dX10_part_45 ?_
      refine q_ist4 dX10_part_46 (Nat.le_of_ble_eq_true rfl) rfl ?_
      refine q_iinc5 (k9 := 1) dX10_part_48 rfl (Nat.le_of_ble_eq_true rfl) rfl ?_
      refine wp_L (L2 := [some (.ref 28), some (.int (nI c)), some (.int (q)), some (.int (nI d)), some (.int ((0 + 0))), some (.int (1))]) rfl ?_
      refine q_goto 6 dX10_part_51 rfl ?_
      refine q_iload dX10_part_6 rfl ?_
      refine q_iconst (v := 2) dX10_part_8 rfl ?_
      refine q_icmp_ge 54 dX10_part_9 rfl (fun c9 => ?_) (fun c9 => ?_)
      · first | exact absurd (by decide) c9 | exact absurd c9 (by decide)
      · refine q_iload dX10_part_12 rfl ?_
        refine q_aload_n dX10_part_14 rfl ?_
        refine q_aload_n dX10_part_15 rfl ?_
        refine q_bipush (v := 13) dX10_part_16 rfl ?_
        refine q_iconst (v := 2) dX10_part_18 rfl ?_
        refine q_iload_n dX10_part_19 rfl ?_
        refine q_imul dX10_part_20 ?_
        refine q_iadd dX10_part_21 ?_
        refine q_iload dX10_part_22 rfl ?_
        refine q_iadd dX10_part_24 ?_
        refine q_iald (f := (z_TR S)) dX10_part_25 (Nat.le_of_ble_eq_true rfl) rfl (13 + (2 * c + 1)) (by simp only [fa_lit, pk_mul, nI_add]; exact congrArg nI (by omega)) (by omega) (Nat.le_of_ble_eq_true rfl) ?_
        refine q_callSv (ν := mX10_goalOf) dX10_part_26 uw_1106 vX10_goalOf (c_X10_goalOf_28 hG S ((((z_TR S) (13 + (2 * c + 1)))))) rfl rfl (Nat.le_of_ble_eq_true rfl) (Nat.le_of_ble_eq_true rfl) (Nat.le_of_ble_eq_true rfl) 0 (Nat.le_of_ble_eq_true rfl) ?_
        refine wp_top (y := goM (z_TR S) (2 * c + 1)) rfl ?_
        refine q_iload_n dX10_part_29 rfl ?_
        refine q_icmp_ne 44 dX10_part_30 rfl (fun c30 => ?_) (fun c30 => ?_)
        · have e1 := c30
          refine q_iconst (v := 0) dX10_part_44 rfl ?_
          refine q_iadd dX10_part_45 ?_
          refine q_ist4 dX10_part_46 (Nat.le_of_ble_eq_true rfl) rfl ?_
          refine q_iinc5 (k9 := 1) dX10_part_48 rfl (Nat.le_of_ble_eq_true rfl) rfl ?_
          refine wp_L (L2 := [some (.ref 28), some (.int (nI c)), some (.int (q)), some (.int (nI d)), some (.int (((0 + 0) + 0))), some (.int (2))]) rfl ?_
          refine q_goto 6 dX10_part_51 rfl ?_
          refine q_iload dX10_part_6 rfl ?_
          refine q_iconst (v := 2) dX10_part_8 rfl ?_
          refine q_icmp_ge 54 dX10_part_9 rfl (fun c9 => ?_) (fun c9 => ?_)
          · refine q_iload dX10_part_54 rfl ?_
            exact q_iret dX10_part_56 rfl ⟨by unfold prM; first | rw [if_pos e0, if_pos e1] | rw [if_pos e0, if_neg e1] | rw [if_neg e0, if_pos e1] | rw [if_neg e0, if_neg e1] | rw [if_pos (Classical.not_not.mp e0), if_pos (Classical.not_not.mp e1)] , rfl⟩
          · first | exact absurd (by decide) c9 | exact absurd c9 (by decide)
        · have e1 := c30
          refine q_aload_n dX10_part_33 rfl ?_
          refine q_iload_n dX10_part_34 rfl ?_
          refine q_iload dX10_part_35 rfl ?_
          refine q_iload_n dX10_part_37 rfl ?_
          refine q_callSv (ν := mX10_share) dX10_part_38 uw_1138 vX10_share (c_X10_share_28 hG S (c) (1) (d) (by omega) (by decide) (by omega)) rfl rfl (Nat.le_of_ble_eq_true rfl) (Nat.le_of_ble_eq_true rfl) (Nat.le_of_ble_eq_true rfl) 0 (Nat.le_of_ble_eq_true rfl) ?_
          refine q_goto 45 dX10_part_41 rfl ?_
          refine q_iadd dX10_part_45 ?_
          refine q_ist4 dX10_part_46 (Nat.le_of_ble_eq_true rfl) rfl ?_
          refine q_iinc5 (k9 := 1) dX10_part_48 rfl (Nat.le_of_ble_eq_true rfl) rfl ?_
          refine wp_L (L2 := [some (.ref 28), some (.int (nI c)), some (.int (q)), some (.int (nI d)), some (.int (((0 + 0) + (shM (z_TR S) c 1 d)))), some (.int (2))]) rfl ?_
          refine q_goto 6 dX10_part_51 rfl ?_
          refine q_iload dX10_part_6 rfl ?_
          refine q_iconst (v := 2) dX10_part_8 rfl ?_
          refine q_icmp_ge 54 dX10_part_9 rfl (fun c9 => ?_) (fun c9 => ?_)
          · refine q_iload dX10_part_54 rfl ?_
            exact q_iret dX10_part_56 rfl ⟨by unfold prM; first | rw [if_pos e0, if_pos e1] | rw [if_pos e0, if_neg e1] | rw [if_neg e0, if_pos e1] | rw [if_neg e0, if_neg e1] | rw [if_pos (Classical.not_not.mp e0), if_pos (Classical.not_not.mp e1)] , rfl⟩
          · first | exact absurd (by decide) c9 | exact absurd c9 (by decide)
    · have e0 := c30
      refine q_aload_n dX10_part_33 rfl ?_
      refine q_iload_n dX10_part_34 rfl ?_
      refine q_iload dX10_part_35 rfl ?_
      refine q_iload_n dX10_part_37 rfl ?_
      refine q_callSv (ν := mX10_share) dX10_part_38 uw_1138 vX10_share (c_X10_share_28 hG S (c) (0) (d) (by omega) (by decide) (by omega)) rfl rfl (Nat.le_of_ble_eq_true rfl) (Nat.le_of_ble_eq_true rfl) (Nat.le_of_ble_eq_true rfl) 0 (Nat.le_of_ble_eq_true rfl) ?_
      refine q_goto 45 dX10_part_41 rfl ?_
      refine q_iadd dX10_part_45 ?_
      refine q_ist4 dX10_part_46 (Nat.le_of_ble_eq_true rfl) rfl ?_
      refine q_iinc5 (k9 := 1) dX10_part_48 rfl (Nat.le_of_ble_eq_true rfl) rfl ?_
      refine wp_L (L2 := [some (.ref 28), some (.int (nI c)), some (.int (q)), some (.int (nI d)), some (.int ((0 + (shM (z_TR S) c 0 d)))), some (.int (1))]) rfl ?_
      refine q_goto 6 dX10_part_51 rfl ?_
      refine q_iload dX10_part_6 rfl ?_
      refine q_iconst (v := 2) dX10_part_8 rfl ?_
      refine q_icmp_ge 54 dX10_part_9 rfl (fun c9 => ?_) (fun c9 => ?_)
      · first | exact absurd (by decide) c9 | exact absurd c9 (by decide)
      · refine q_iload dX10_part_12 rfl ?_
        refine q_aload_n dX10_part_14 rfl ?_
        refine q_aload_n dX10_part_15 rfl ?_
        refine q_bipush (v := 13) dX10_part_16 rfl ?_
        refine q_iconst (v := 2) dX10_part_18 rfl ?_
        refine q_iload_n dX10_part_19 rfl ?_
        refine q_imul dX10_part_20 ?_
        refine q_iadd dX10_part_21 ?_
        refine q_iload dX10_part_22 rfl ?_
        refine q_iadd dX10_part_24 ?_
        refine q_iald (f := (z_TR S)) dX10_part_25 (Nat.le_of_ble_eq_true rfl) rfl (13 + (2 * c + 1)) (by simp only [fa_lit, pk_mul, nI_add]; exact congrArg nI (by omega)) (by omega) (Nat.le_of_ble_eq_true rfl) ?_
        refine q_callSv (ν := mX10_goalOf) dX10_part_26 uw_1106 vX10_goalOf (c_X10_goalOf_28 hG S ((((z_TR S) (13 + (2 * c + 1)))))) rfl rfl (Nat.le_of_ble_eq_true rfl) (Nat.le_of_ble_eq_true rfl) (Nat.le_of_ble_eq_true rfl) 0 (Nat.le_of_ble_eq_true rfl) ?_
        refine wp_top (y := goM (z_TR S) (2 * c + 1)) rfl ?_
        refine q_iload_n dX10_part_29 rfl ?_
        refine q_icmp_ne 44 dX10_part_30 rfl (fun c30 => ?_) (fun c30 => ?_)
        · have e1 := c30
          refine q_iconst (v := 0) dX10_part_44 rfl ?_
          refine q_iadd dX10_part_45 ?_
          refine q_ist4 dX10_part_46 (Nat.le_of_ble_eq_true rfl) rfl ?_
          refine q_iinc5 (k9 := 1) dX10_part_48 rfl (Nat.le_of_ble_eq_true rfl) rfl ?_
          refine wp_L (L2 := [some (.ref 28), some (.int (nI c)), some (.int (q)), some (.int (nI d)), some (.int (((0 + (shM (z_TR S) c 0 d)) + 0))), some (.int (2))]) rfl ?_
          refine q_goto 6 dX10_part_51 rfl ?_
          refine q_iload dX10_part_6 rfl ?_
          refine q_iconst (v := 2) dX10_part_8 rfl ?_
          refine q_icmp_ge 54 dX10_part_9 rfl (fun c9 => ?_) (fun c9 => ?_)
          · refine q_iload dX10_part_54 rfl ?_
            exact q_iret dX10_part_56 rfl ⟨by unfold prM; first | rw [if_pos e0, if_pos e1] | rw [if_pos e0, if_neg e1] | rw [if_neg e0, if_pos e1] | rw [if_neg e0, if_neg e1] | rw [if_pos (Classical.not_not.mp e0), if_pos (Classical.not_not.mp e1)] , rfl⟩
          · first | exact absurd (by decide) c9 | exact absurd c9 (by decide)
        · have e1 := c30
          refine q_aload_n dX10_part_33 rfl ?_
          refine q_iload_n dX10_part_34 rfl ?_
          refine q_iload dX10_part_35 rfl ?_
          refine q_iload_n dX10_part_37 rfl ?_
          refine q_callSv (ν := mX10_share) dX10_part_38 uw_1138 vX10_share (c_X10_share_28 hG S (c) (1) (d) (by omega) (by decide) (by omega)) rfl rfl (Nat.le_of_ble_eq_true rfl) (Nat.le_of_ble_eq_true rfl) (Nat.le_of_ble_eq_true rfl) 0 (Nat.le_of_ble_eq_true rfl) ?_
          refine q_goto 45 dX10_part_41 rfl ?_
          refine q_iadd dX10_part_45 ?_
          refine q_ist4 dX10_part_46 (Nat.le_of_ble_eq_true rfl) rfl ?_
          refine q_iinc5 (k9 := 1) dX10_part_48 rfl (Nat.le_of_ble_eq_true rfl) rfl ?_
          refine wp_L (L2 := [some (.ref 28), some (.int (nI c)), some (.int (q)), some (.int (nI d)), some (.int (((0 + (shM (z_TR S) c 0 d)) + (shM (z_TR S) c 1 d)))), some (.int (2))]) rfl ?_
          refine q_goto 6 dX10_part_51 rfl ?_
          refine q_iload dX10_part_6 rfl ?_
          refine q_iconst (v := 2) dX10_part_8 rfl ?_
          refine q_icmp_ge 54 dX10_part_9 rfl (fun c9 => ?_) (fun c9 => ?_)
          · refine q_iload dX10_part_54 rfl ?_
            exact q_iret dX10_part_56 rfl ⟨by unfold prM; first | rw [if_pos e0, if_pos e1] | rw [if_pos e0, if_neg e1] | rw [if_neg e0, if_pos e1] | rw [if_neg e0, if_neg e1] | rw [if_pos (Classical.not_not.mp e0), if_pos (Classical.not_not.mp e1)] , rfl⟩
          · first | exact absurd (by decide) c9 | exact absurd c9 (by decide)
set_option maxRecDepth 100000 in
set_option maxHeartbeats 4000000 in
theorem l_X10_st24_28 {g : G0} {h : G1} (hG : Gd g) (S : SS) {Q : State → Prop} (N d : Nat) (hN : z_TR S 0 = nI N) (hN6 : N ≤ 6) (hd : d < 2) (c q : Nat) (m : Int32) (hc : c < N) (k : wp g h mX10_isSteady (mixW g S) [some (.ref 28), some (.int (nI d)), some (.int (stS (z_TR S) d c m 2)), some (.int (nI q)), some (.int (nI c)), some (.int (nI 2)), none, none] [] 0 Q 106) : ∀ (n i : Nat), i + n = 2 → wp g h mX10_isSteady (mixW g S) [some (.ref 28), some (.int (nI d)), some (.int (stS (z_TR S) d c m i)), some (.int (nI q)), some (.int (nI c)), some (.int (nI i)), none, none] [] 0 Q 24 := by
  intro n
  induction n with
  | zero =>
    intro i hq1
    obtain rfl : 2 = i := by omega
    refine q_iload dX10_isSteady_24 rfl ?_
    refine q_iconst (v := 2) dX10_isSteady_26 rfl ?_
    refine q_icmp_ge 106 dX10_isSteady_27 rfl (fun c27 => ?_) (fun c27 => ?_)
    · have n27 := (nI_leI (a := 2) (b := 2) (by omega) (by omega)).mp c27
      exact k
    · have n27 := mt (nI_leI (a := 2) (b := 2) (by omega) (by omega)).mpr c27
      exact absurd (by decide) c27
  | succ n ih =>
    intro i hq1
    refine q_iload dX10_isSteady_24 rfl ?_
    refine q_iconst (v := 2) dX10_isSteady_26 rfl ?_
    refine q_icmp_ge 106 dX10_isSteady_27 rfl (fun c27 => ?_) (fun c27 => ?_)
    · have n27 := (nI_leI (a := 2) (b := i) (by omega) (by omega)).mp c27
      omega
    · have n27 := mt (nI_leI (a := 2) (b := i) (by omega) (by omega)).mpr c27
      refine q_aload_n dX10_isSteady_30 rfl ?_
      refine q_aload_n dX10_isSteady_31 rfl ?_
      refine q_bipush (v := 13) dX10_isSteady_32 rfl ?_
      refine q_iconst (v := 2) dX10_isSteady_34 rfl ?_
      refine q_iload dX10_isSteady_35 rfl ?_
      refine q_imul dX10_isSteady_37 ?_
      refine q_iadd dX10_isSteady_38 ?_
      refine q_iload dX10_isSteady_39 rfl ?_
      refine q_iadd dX10_isSteady_41 ?_
      refine q_iald (f := (z_TR S)) dX10_isSteady_42 (Nat.le_of_ble_eq_true rfl) rfl (13 + (2 * c + i)) (by simp only [fa_lit, pk_mul, nI_add]; exact congrArg nI (by omega)) (by omega) (Nat.le_of_ble_eq_true rfl) ?_
      refine q_callSv (ν := mX10_goalOf) dX10_isSteady_43 uw_1106 vX10_goalOf (c_X10_goalOf_28 hG S ((((z_TR S) (13 + (2 * c + i)))))) rfl rfl (Nat.le_of_ble_eq_true rfl) (Nat.le_of_ble_eq_true rfl) (Nat.le_of_ble_eq_true rfl) 0 (Nat.le_of_ble_eq_true rfl) ?_
      refine wp_top (y := goM (z_TR S) (2 * c + i)) rfl ?_
      refine q_ist6 dX10_isSteady_46 (Nat.le_of_ble_eq_true rfl) rfl ?_
      refine q_aload_n dX10_isSteady_48 rfl ?_
      refine q_iload dX10_isSteady_49 rfl ?_
      refine q_iload dX10_isSteady_51 rfl ?_
      refine q_iload_n dX10_isSteady_53 rfl ?_
      refine q_callSv (ν := mX10_share) dX10_isSteady_54 uw_1138 vX10_share (c_X10_share_28 hG S (c) (i) (d) (by omega) (by omega) (by omega)) rfl rfl (Nat.le_of_ble_eq_true rfl) (Nat.le_of_ble_eq_true rfl) (Nat.le_of_ble_eq_true rfl) 0 (Nat.le_of_ble_eq_true rfl) ?_
      refine q_if_le 81 dX10_isSteady_57 rfl (fun c57 => ?_) (fun c57 => ?_)
      · refine q_iconst (v := 0) dX10_isSteady_81 rfl ?_
        refine q_ist7 dX10_isSteady_82 (Nat.le_of_ble_eq_true rfl) rfl ?_
        refine q_iload_n dX10_isSteady_84 rfl ?_
        refine q_iload dX10_isSteady_85 rfl ?_
        refine q_if_eq 97 dX10_isSteady_87 rfl (fun c87 => ?_) (fun c87 => ?_)
        · refine q_iconst (v := 0) dX10_isSteady_97 rfl ?_
          refine q_ior dX10_isSteady_98 ?_
          refine q_ist2 dX10_isSteady_99 (Nat.le_of_ble_eq_true rfl) rfl ?_
          refine q_iinc5 (k9 := 1) dX10_isSteady_100 rfl (Nat.le_of_ble_eq_true rfl) rfl ?_
          refine wp_L (L2 := [some (.ref 28), some (.int (nI d)), some (.int ((stS (z_TR S) d c m i ||| 0))), some (.int (nI q)), some (.int (nI c)), some (.int (nI (i + 1))), some (.int (goM (z_TR S) (2 * c + i))), some (.int (0))]) (by rw [show nI i + 1 = nI (i + 1) from nI_1 _]) ?_
          refine q_goto 24 dX10_isSteady_103 rfl ?_
          refine wp_fg (L2 := [some (.ref 28), some (.int (nI d)), some (.int ((stS (z_TR S) d c m i ||| 0))), some (.int (nI q)), some (.int (nI c)), some (.int (nI (i + 1))), none, none]) ⟨rfl, rfl, rfl, rfl, rfl, rfl, trivial⟩ ?_
          have est : stS (z_TR S) d c m (i + 1) = (stS (z_TR S) d c m i ||| 0) := by
            show stB _ _ _ _ _ = _
            unfold stB
            refine congrArg (HOr.hOr _) ?_
            refine if_neg ?_
            first | exact fun z => absurd z.1 (Int32.not_lt.mpr c57) | exact fun z => z.2.elim c64 c74
          refine wp_L (L2 := [some (.ref 28), some (.int (nI d)), some (.int (stS (z_TR S) d c m (i + 1))), some (.int (nI q)), some (.int (nI c)), some (.int (nI (i + 1))), none, none]) (by rw [est]) ?_
          exact ih (i + 1) (by omega)
        · first | exact absurd (by decide) c87 | exact absurd c87 (by decide)
      · refine q_iload dX10_isSteady_60 rfl ?_
        refine q_bipush (v := 7) dX10_isSteady_62 rfl ?_
        refine q_icmp_gt 77 dX10_isSteady_64 rfl (fun c64 => ?_) (fun c64 => ?_)
        · refine q_iconst (v := 1) dX10_isSteady_77 rfl ?_
          refine q_goto 82 dX10_isSteady_78 rfl ?_
          refine q_ist7 dX10_isSteady_82 (Nat.le_of_ble_eq_true rfl) rfl ?_
          refine q_iload_n dX10_isSteady_84 rfl ?_
          refine q_iload dX10_isSteady_85 rfl ?_
          refine q_if_eq 97 dX10_isSteady_87 rfl (fun c87 => ?_) (fun c87 => ?_)
          · first | exact absurd (by decide) c87 | exact absurd c87 (by decide)
          · refine q_iconst (v := 1) dX10_isSteady_90 rfl ?_
            refine q_iload dX10_isSteady_91 rfl ?_
            refine q_ishl dX10_isSteady_93 ?_
            refine q_goto 98 dX10_isSteady_94 rfl ?_
            refine q_ior dX10_isSteady_98 ?_
            refine q_ist2 dX10_isSteady_99 (Nat.le_of_ble_eq_true rfl) rfl ?_
            refine q_iinc5 (k9 := 1) dX10_isSteady_100 rfl (Nat.le_of_ble_eq_true rfl) rfl ?_
            refine wp_L (L2 := [some (.ref 28), some (.int (nI d)), some (.int ((stS (z_TR S) d c m i ||| (1 <<< (nI c &&& 31))))), some (.int (nI q)), some (.int (nI c)), some (.int (nI (i + 1))), some (.int (goM (z_TR S) (2 * c + i))), some (.int (1))]) (by rw [show nI i + 1 = nI (i + 1) from nI_1 _]) ?_
            refine q_goto 24 dX10_isSteady_103 rfl ?_
            refine wp_fg (L2 := [some (.ref 28), some (.int (nI d)), some (.int ((stS (z_TR S) d c m i ||| (1 <<< (nI c &&& 31))))), some (.int (nI q)), some (.int (nI c)), some (.int (nI (i + 1))), none, none]) ⟨rfl, rfl, rfl, rfl, rfl, rfl, trivial⟩ ?_
            have est : stS (z_TR S) d c m (i + 1) = (stS (z_TR S) d c m i ||| (1 <<< (nI c &&& 31))) := by
              show stB _ _ _ _ _ = _
              unfold stB
              refine congrArg (HOr.hOr _) ?_
              by_cases z : 7 < goM (z_TR S) (2 * c + i)
              · exact if_pos ⟨Int32.not_le.mp c57, Or.inl z⟩
              · refine if_pos ⟨Int32.not_le.mp c57, Or.inr ?_⟩
                first | exact absurd c64 z | exact c74
            refine wp_L (L2 := [some (.ref 28), some (.int (nI d)), some (.int (stS (z_TR S) d c m (i + 1))), some (.int (nI q)), some (.int (nI c)), some (.int (nI (i + 1))), none, none]) (by rw [est]) ?_
            exact ih (i + 1) (by omega)
        · refine q_iload_n dX10_isSteady_67 rfl ?_
          refine q_iload dX10_isSteady_68 rfl ?_
          refine q_ishr dX10_isSteady_70 ?_
          refine q_iconst (v := 1) dX10_isSteady_71 rfl ?_
          refine q_iand dX10_isSteady_72 ?_
          refine q_iconst (v := 1) dX10_isSteady_73 rfl ?_
          refine q_icmp_ne 81 dX10_isSteady_74 rfl (fun c74 => ?_) (fun c74 => ?_)
          · refine q_iconst (v := 0) dX10_isSteady_81 rfl ?_
            refine q_ist7 dX10_isSteady_82 (Nat.le_of_ble_eq_true rfl) rfl ?_
            refine q_iload_n dX10_isSteady_84 rfl ?_
            refine q_iload dX10_isSteady_85 rfl ?_
            refine q_if_eq 97 dX10_isSteady_87 rfl (fun c87 => ?_) (fun c87 => ?_)
            · refine q_iconst (v := 0) dX10_isSteady_97 rfl ?_
              refine q_ior dX10_isSteady_98 ?_
              refine q_ist2 dX10_isSteady_99 (Nat.le_of_ble_eq_true rfl) rfl ?_
              refine q_iinc5 (k9 := 1) dX10_isSteady_100 rfl (Nat.le_of_ble_eq_true rfl) rfl ?_
              refine wp_L (L2 := [some (.ref 28), some (.int (nI d)), some (.int ((stS (z_TR S) d c m i ||| 0))), some (.int (nI q)), some (.int (nI c)), some (.int (nI (i + 1))), some (.int (goM (z_TR S) (2 * c + i))), some (.int (0))]) (by rw [show nI i + 1 = nI (i + 1) from nI_1 _]) ?_
              refine q_goto 24 dX10_isSteady_103 rfl ?_
              refine wp_fg (L2 := [some (.ref 28), some (.int (nI d)), some (.int ((stS (z_TR S) d c m i ||| 0))), some (.int (nI q)), some (.int (nI c)), some (.int (nI (i + 1))), none, none]) ⟨rfl, rfl, rfl, rfl, rfl, rfl, trivial⟩ ?_
              have est : stS (z_TR S) d c m (i + 1) = (stS (z_TR S) d c m i ||| 0) := by
                show stB _ _ _ _ _ = _
                unfold stB
                refine congrArg (HOr.hOr _) ?_
                refine if_neg ?_
                first | exact fun z => absurd z.1 (Int32.not_lt.mpr c57) | exact fun z => z.2.elim c64 c74
              refine wp_L (L2 := [some (.ref 28), some (.int (nI d)), some (.int (stS (z_TR S) d c m (i + 1))), some (.int (nI q)), some (.int (nI c)), some (.int (nI (i + 1))), none, none]) (by rw [est]) ?_
              exact ih (i + 1) (by omega)
            · first | exact absurd (by decide) c87 | exact absurd c87 (by decide)
          · refine q_iconst (v := 1) dX10_isSteady_77 rfl ?_
            refine q_goto 82 dX10_isSteady_78 rfl ?_
            refine q_ist7 dX10_isSteady_82 (Nat.le_of_ble_eq_true rfl) rfl ?_
            refine q_iload_n dX10_isSteady_84 rfl ?_
            refine q_iload dX10_isSteady_85 rfl ?_
            refine q_if_eq 97 dX10_isSteady_87 rfl (fun c87 => ?_) (fun c87 => ?_)
            · first | exact absurd (by decide) c87 | exact absurd c87 (by decide)
            · refine q_iconst (v := 1) dX10_isSteady_90 rfl ?_
              refine q_iload dX10_isSteady_91 rfl ?_
              refine q_ishl dX10_isSteady_93 ?_
              refine q_goto 98 dX10_isSteady_94 rfl ?_
              refine q_ior dX10_isSteady_98 ?_
              refine q_ist2 dX10_isSteady_99 (Nat.le_of_ble_eq_true rfl) rfl ?_
              refine q_iinc5 (k9 := 1) dX10_isSteady_100 rfl (Nat.le_of_ble_eq_true rfl) rfl ?_
              refine wp_L (L2 := [some (.ref 28), some (.int (nI d)), some (.int ((stS (z_TR S) d c m i ||| (1 <<< (nI c &&& 31))))), some (.int (nI q)), some (.int (nI c)), some (.int (nI (i + 1))), some (.int (goM (z_TR S) (2 * c + i))), some (.int (1))]) (by rw [show nI i + 1 = nI (i + 1) from nI_1 _]) ?_
              refine q_goto 24 dX10_isSteady_103 rfl ?_
              refine wp_fg (L2 := [some (.ref 28), some (.int (nI d)), some (.int ((stS (z_TR S) d c m i ||| (1 <<< (nI c &&& 31))))), some (.int (nI q)), some (.int (nI c)), some (.int (nI (i + 1))), none, none]) ⟨rfl, rfl, rfl, rfl, rfl, rfl, trivial⟩ ?_
              have est : stS (z_TR S) d c m (i + 1) = (stS (z_TR S) d c m i ||| (1 <<< (nI c &&& 31))) := by
                show stB _ _ _ _ _ = _
                unfold stB
                refine congrArg (HOr.hOr _) ?_
                by_cases z : 7 < goM (z_TR S) (2 * c + i)
                · exact if_pos ⟨Int32.not_le.mp c57, Or.inl z⟩
                · refine if_pos ⟨Int32.not_le.mp c57, Or.inr ?_⟩
                  first | exact absurd c64 z | exact c74
              refine wp_L (L2 := [some (.ref 28), some (.int (nI d)), some (.int (stS (z_TR S) d c m (i + 1))), some (.int (nI q)), some (.int (nI c)), some (.int (nI (i + 1))), none, none]) (by rw [est]) ?_
              exact ih (i + 1) (by omega)
set_option maxRecDepth 100000 in
set_option maxHeartbeats 4000000 in
theorem l_X10_st13_28 {g : G0} {h : G1} (hG : Gd g) (S : SS) {Q : State → Prop} (N d : Nat) (hN : z_TR S 0 = nI N) (hN6 : N ≤ 6) (hd : d < 2) (q : Nat) (m : Int32) (k : wp g h mX10_isSteady (mixW g S) [some (.ref 28), some (.int (nI d)), some (.int (stC (z_TR S) d m N)), some (.int (nI q)), some (.int (nI N)), none, none, none] [] 0 Q 112) : ∀ (n i : Nat), i + n = N → wp g h mX10_isSteady (mixW g S) [some (.ref 28), some (.int (nI d)), some (.int (stC (z_TR S) d m i)), some (.int (nI q)), some (.int (nI i)), none, none, none] [] 0 Q 13 := by
  intro n
  induction n with
  | zero =>
    intro i hq1
    obtain rfl : N = i := by omega
    refine q_iload dX10_isSteady_13 rfl ?_
    refine q_aload_n dX10_isSteady_15 rfl ?_
    refine q_iconst (v := 0) dX10_isSteady_16 rfl ?_
    refine q_iald (f := (z_TR S)) dX10_isSteady_17 (Nat.le_of_ble_eq_true rfl) rfl (0) rfl (Nat.le_of_ble_eq_true rfl) (Nat.le_of_ble_eq_true rfl) ?_
    refine wp_top (y := nI N) hN ?_
    refine q_icmp_ge 112 dX10_isSteady_18 rfl (fun c18 => ?_) (fun c18 => ?_)
    · have n18 := (nI_leI (a := N) (b := N) (by omega) (by omega)).mp c18
      exact k
    · have n18 := mt (nI_leI (a := N) (b := N) (by omega) (by omega)).mpr c18
      omega
  | succ n ih =>
    intro i hq1
    refine q_iload dX10_isSteady_13 rfl ?_
    refine q_aload_n dX10_isSteady_15 rfl ?_
    refine q_iconst (v := 0) dX10_isSteady_16 rfl ?_
    refine q_iald (f := (z_TR S)) dX10_isSteady_17 (Nat.le_of_ble_eq_true rfl) rfl (0) rfl (Nat.le_of_ble_eq_true rfl) (Nat.le_of_ble_eq_true rfl) ?_
    refine wp_top (y := nI N) hN ?_
    refine q_icmp_ge 112 dX10_isSteady_18 rfl (fun c18 => ?_) (fun c18 => ?_)
    · have n18 := (nI_leI (a := N) (b := i) (by omega) (by omega)).mp c18
      omega
    · have n18 := mt (nI_leI (a := N) (b := i) (by omega) (by omega)).mpr c18
      refine q_iconst (v := 0) dX10_isSteady_21 rfl ?_
      refine q_ist5 dX10_isSteady_22 (Nat.le_of_ble_eq_true rfl) rfl ?_
      refine wp_L (L2 := [some (.ref 28), some (.int (nI d)), some (.int (stS (z_TR S) d i (stC (z_TR S) d m i) 0)), some (.int (nI q)), some (.int (nI i)), some (.int (nI 0)), none, none]) rfl ?_
      refine l_X10_st24_28 hG S N d hN hN6 hd i q _ (by omega) ?_ 2 0 rfl
      refine q_iinc4 (k9 := 1) dX10_isSteady_106 rfl (Nat.le_of_ble_eq_true rfl) rfl ?_
      refine wp_L (L2 := [some (.ref 28), some (.int (nI d)), some (.int (stS (z_TR S) d i (stC (z_TR S) d m i) 2)), some (.int (nI q)), some (.int (nI (i + 1))), some (.int (nI 2)), none, none]) (by rw [show nI i + 1 = nI (i + 1) from nI_1 _]) ?_
      refine q_goto 13 dX10_isSteady_109 rfl ?_
      refine wp_fg (L2 := [some (.ref 28), some (.int (nI d)), some (.int (stS (z_TR S) d i (stC (z_TR S) d m i) 2)), some (.int (nI q)), some (.int (nI (i + 1))), none, none, none]) ⟨rfl, rfl, rfl, rfl, rfl, trivial⟩ ?_
      refine wp_L (L2 := [some (.ref 28), some (.int (nI d)), some (.int (stC (z_TR S) d m (i + 1))), some (.int (nI q)), some (.int (nI (i + 1))), none, none, none]) rfl ?_
      exact ih (i + 1) (by omega)
set_option maxRecDepth 100000 in
set_option maxHeartbeats 4000000 in
theorem l_X10_st4_28 {g : G0} {h : G1} (hG : Gd g) (S : SS) {Q : State → Prop} (N d : Nat) (hN : z_TR S 0 = nI N) (hN6 : N ≤ 6) (hd : d < 2) (k : wp g h mX10_isSteady (mixW g S) [some (.ref 28), some (.int (nI d)), some (.int (stR (z_TR S) d N 6)), some (.int (nI 6)), none, none, none, none] [] 0 Q 118) : ∀ (n i : Nat), i + n = 6 → wp g h mX10_isSteady (mixW g S) [some (.ref 28), some (.int (nI d)), some (.int (stR (z_TR S) d N i)), some (.int (nI i)), none, none, none, none] [] 0 Q 4 := by
  intro n
  induction n with
  | zero =>
    intro i hq1
    obtain rfl : 6 = i := by omega
    refine q_iload_n dX10_isSteady_4 rfl ?_
    refine q_bipush (v := 6) dX10_isSteady_5 rfl ?_
    refine q_icmp_ge 118 dX10_isSteady_7 rfl (fun c7 => ?_) (fun c7 => ?_)
    · have n7 := (nI_leI (a := 6) (b := 6) (by omega) (by omega)).mp c7
      exact k
    · have n7 := mt (nI_leI (a := 6) (b := 6) (by omega) (by omega)).mpr c7
      exact absurd (by decide) c7
  | succ n ih =>
    intro i hq1
    refine q_iload_n dX10_isSteady_4 rfl ?_
    refine q_bipush (v := 6) dX10_isSteady_5 rfl ?_
    refine q_icmp_ge 118 dX10_isSteady_7 rfl (fun c7 => ?_) (fun c7 => ?_)
    · have n7 := (nI_leI (a := 6) (b := i) (by omega) (by omega)).mp c7
      omega
    · have n7 := mt (nI_leI (a := 6) (b := i) (by omega) (by omega)).mpr c7
      refine q_iconst (v := 0) dX10_isSteady_10 rfl ?_
      refine q_ist4 dX10_isSteady_11 (Nat.le_of_ble_eq_true rfl) rfl ?_
      refine wp_L (L2 := [some (.ref 28), some (.int (nI d)), some (.int (stC (z_TR S) d (stR (z_TR S) d N i) 0)), some (.int (nI i)), some (.int (nI 0)), none, none, none]) rfl ?_
      refine l_X10_st13_28 hG S N d hN hN6 hd i _ ?_ N 0 (by omega)
      refine q_iinc3 (k9 := 1) dX10_isSteady_112 rfl (Nat.le_of_ble_eq_true rfl) rfl ?_
      refine wp_L (L2 := [some (.ref 28), some (.int (nI d)), some (.int (stC (z_TR S) d (stR (z_TR S) d N i) N)), some (.int (nI (i + 1))), some (.int (nI N)), none, none, none]) (by rw [show nI i + 1 = nI (i + 1) from nI_1 _]) ?_
      refine q_goto 4 dX10_isSteady_115 rfl ?_
      refine wp_fg (L2 := [some (.ref 28), some (.int (nI d)), some (.int (stC (z_TR S) d (stR (z_TR S) d N i) N)), some (.int (nI (i + 1))), none, none, none, none]) ⟨rfl, rfl, rfl, rfl, trivial⟩ ?_
      refine wp_L (L2 := [some (.ref 28), some (.int (nI d)), some (.int (stR (z_TR S) d N (i + 1))), some (.int (nI (i + 1))), none, none, none, none]) rfl ?_
      exact ih (i + 1) (by omega)
set_option maxRecDepth 100000 in
set_option maxHeartbeats 4000000 in
theorem c_X10_isSteady_28 {g : G0} (hG : Gd g) (S : SS) (d : Nat) (N : Nat) (h1 : (z_TR S) 0 = nI N) (h2 : N ≤ 6) (h3 : d < 2) : ctv g mX10_isSteady [.ref 28, .int (nI d)] (mixW g S) (.int (pI (SM (z_TR S) N d))) (mixW g S) := by
  refine ct_of hG [some (.ref 28), some (.int (nI d)), none, none, none, none, none, none] rfl rfl rfl (Nat.le_of_ble_eq_true rfl) (fun h => ?_) rfl
  refine q_iconst (v := 0) dX10_isSteady_0 rfl ?_
  refine q_ist2 dX10_isSteady_1 (Nat.le_of_ble_eq_true rfl) rfl ?_
  refine q_iconst (v := 0) dX10_isSteady_2 rfl ?_
  refine q_ist3 dX10_isSteady_3 (Nat.le_of_ble_eq_true rfl) rfl ?_
  refine wp_L (L2 := [some (.ref 28), some (.int (nI d)), some (.int (stR (z_TR S) d N 0)), some (.int (nI 0)), none, none, none, none]) rfl ?_
  refine l_X10_st4_28 hG S N d h1 h2 h3 ?_ 6 0 (by omega)
  refine q_iload_n dX10_isSteady_118 rfl ?_
  refine q_iconst (v := 1) dX10_isSteady_119 rfl ?_
  refine q_aload_n dX10_isSteady_120 rfl ?_
  refine q_iconst (v := 0) dX10_isSteady_121 rfl ?_
  refine q_iald (f := (z_TR S)) dX10_isSteady_122 (Nat.le_of_ble_eq_true rfl) rfl (0) rfl (Nat.le_of_ble_eq_true rfl) (Nat.le_of_ble_eq_true rfl) ?_
  refine wp_top (y := nI N) h1 ?_
  refine q_ishl dX10_isSteady_123 ?_
  refine q_iconst (v := 1) dX10_isSteady_124 rfl ?_
  refine q_isub dX10_isSteady_125 ?_
  refine q_icmp_ne 133 dX10_isSteady_126 rfl (fun c126 => ?_) (fun c126 => ?_)
  · refine q_iconst (v := 0) dX10_isSteady_133 rfl ?_
    exact q_zret dX10_isSteady_134 rfl rfl ⟨by rw [pI_f (p := SM _ _ _) c126], rfl⟩
  · refine q_iconst (v := 1) dX10_isSteady_129 rfl ?_
    refine q_goto 134 dX10_isSteady_130 rfl ?_
    exact q_zret dX10_isSteady_134 rfl rfl ⟨by rw [pI_t (by first | exact c126 | exact Classical.not_not.mp c126)], rfl⟩
set_option maxRecDepth 100000 in
set_option maxHeartbeats 4000000 in
theorem c_X10_isSteadyAll_28 {g : G0} (hG : Gd g) (S : SS)  (N : Nat) (h1 : (z_TR S) 0 = nI N) (h2 : N ≤ 6) : ctv g mX10_isSteadyAll [.ref 28] (mixW g S) (.int (pI (SM (z_TR S) N 0 ∧ SM (z_TR S) N 1))) (mixW g S) := by
  refine ct_of hG [some (.ref 28)] rfl rfl rfl (Nat.le_of_ble_eq_true rfl) (fun h => ?_) rfl
  refine q_aload_n dX10_isSteadyAll_0 rfl ?_
  refine q_iconst (v := 0) dX10_isSteadyAll_1 rfl ?_
  refine q_callSv (ν := mX10_isSteady) dX10_isSteadyAll_2 uw_1135 vX10_isSteady (c_X10_isSteady_28 hG S (0) (N) h1 h2 (by decide)) rfl rfl (Nat.le_of_ble_eq_true rfl) (Nat.le_of_ble_eq_true rfl) (Nat.le_of_ble_eq_true rfl) 0 (Nat.le_of_ble_eq_true rfl) ?_
  refine q_if_eq 20 dX10_isSteadyAll_5 rfl (fun c5 => ?_) (fun c5 => ?_)
  · refine q_iconst (v := 0) dX10_isSteadyAll_20 rfl ?_
    exact q_zret dX10_isSteadyAll_21 rfl rfl ⟨by rw [pI_f (by first | exact fun z => pI_0 c5 z.1 | exact fun z => pI_0 c13 z.2)], rfl⟩
  · refine q_aload_n dX10_isSteadyAll_8 rfl ?_
    refine q_iconst (v := 1) dX10_isSteadyAll_9 rfl ?_
    refine q_callSv (ν := mX10_isSteady) dX10_isSteadyAll_10 uw_1135 vX10_isSteady (c_X10_isSteady_28 hG S (1) (N) h1 h2 (by decide)) rfl rfl (Nat.le_of_ble_eq_true rfl) (Nat.le_of_ble_eq_true rfl) (Nat.le_of_ble_eq_true rfl) 0 (Nat.le_of_ble_eq_true rfl) ?_
    refine q_if_eq 20 dX10_isSteadyAll_13 rfl (fun c13 => ?_) (fun c13 => ?_)
    · refine q_iconst (v := 0) dX10_isSteadyAll_20 rfl ?_
      exact q_zret dX10_isSteadyAll_21 rfl rfl ⟨by rw [pI_f (by first | exact fun z => pI_0 c5 z.1 | exact fun z => pI_0 c13 z.2)], rfl⟩
    · refine q_iconst (v := 1) dX10_isSteadyAll_16 rfl ?_
      refine q_goto 21 dX10_isSteadyAll_17 rfl ?_
      exact q_zret dX10_isSteadyAll_21 rfl rfl ⟨by rw [pI_t ⟨pI_1 c5, pI_1 c13⟩], rfl⟩
