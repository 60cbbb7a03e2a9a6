def rhB (f : Nat → Int32) (cur : Int32) (i s : Nat) (m : Int32) : Int32 := m ||| (if (cur >>> (nI i &&& 31)) &&& 1 = 1 ∧ goM f (2 * i + s) < 8 then 1 <<< (goM f (2 * i + s) &&& 31) else 0)
def rhS (f : Nat → Int32) (cur : Int32) (i : Nat) (m : Int32) : Nat → Int32
  | 0 => m
  | s + 1 => rhB f cur i s (rhS f cur i m s)
def rhC (f : Nat → Int32) (cur : Int32) : Nat → Int32
  | 0 => 0
  | i + 1 => rhS f cur i (rhC f cur i) 2
def rhK (c : Nat) (a : Int32) (r : Nat) : Int32 := if r = 0 then 1 <<< (nI c &&& 31) else a
def rhA (f : Nat → Int32) (c N : Nat) : Nat → Int32
  | 0 => 0
  | r + 1 => rhA f c N r ||| rhC f (rhK c (rhA f c N r) r) N
def rhF (f : Nat → Int32) (N c : Nat) : Int32 := rhA f c N 6
def rbM (f : Nat → Int32) (N i j : Nat) : Prop := (rhF f N i >>> (nI j &&& 31)) &&& 1 = 1
noncomputable def lcJ (f : Nat → Int32) (N i : Nat) : Nat → Int32
  | 0 => pI (rbM f N i i)
  | j + 1 => pI (¬ lcJ f N i j = 0 ∧ ¬ (rbM f N i j ∧ rbM f N j i))
noncomputable def lcC (f : Nat → Int32) (N : Nat) : Nat → Int32
  | 0 => 0
  | i + 1 => lcC f N i + (if lcJ f N i i = 0 then 0 else 1)
set_option maxRecDepth 100000 in
set_option maxHeartbeats 4000000 in
theorem l_X10_rh36 {g : G0} {h : G1} (hG : Gd g) (S : SS) {Q : State → Prop} (N c : Nat) (hN : z_NW S 0 = nI N) (hN6 : N ≤ 6) (hc : c < 6) (q r : Nat) (a m : Int32) (hq : q < N) (k : wp g h mX10_reached (mixW g S) [some (.ref 26), some (.int (nI c)), some (.int (a)), some (.int ((rhK c a r))), some (.int (nI r)), some (.int (rhS (z_NW S) (rhK c a r) q m 2)), some (.int (nI q)), some (.int (nI 2)), none] [] 0 Q 102) : ∀ (n i : Nat), i + n = 2 → wp g h mX10_reached (mixW g S) [some (.ref 26), some (.int (nI c)), some (.int (a)), some (.int ((rhK c a r))), some (.int (nI r)), some (.int (rhS (z_NW S) (rhK c a r) q m i)), some (.int (nI q)), some (.int (nI i)), none] [] 0 Q 36 := by
  intro n
  induction n with
  | zero =>
    intro i hq1
    obtain rfl : 2 = i := by omega
    refine q_iload dX10_reached_36 rfl ?_
    refine q_iconst (v := 2) dX10_reached_38 rfl ?_
    refine q_icmp_ge 102 dX10_reached_39 rfl (fun c39 => ?_) (fun c39 => ?_)
    · have n39 := (nI_leI (a := 2) (b := 2) (by omega) (by omega)).mp c39
      exact k
    · have n39 := mt (nI_leI (a := 2) (b := 2) (by omega) (by omega)).mpr c39
      exact absurd (by decide) c39
  | succ n ih =>
    intro i hq1
    refine q_iload dX10_reached_36 rfl ?_
    refine q_iconst (v := 2) dX10_reached_38 rfl ?_
    refine q_icmp_ge 102 dX10_reached_39 rfl (fun c39 => ?_) (fun c39 => ?_)
    · have n39 := (nI_leI (a := 2) (b := i) (by omega) (by omega)).mp c39
      omega
    · have n39 := mt (nI_leI (a := 2) (b := i) (by omega) (by omega)).mpr c39
      refine q_aload_n dX10_reached_42 rfl ?_
      refine q_get (j := 1) (v := .ref 27) dX10_reached_43 (Nat.le_of_ble_eq_true rfl) rfl rfl iuX10 (Nat.le_of_ble_eq_true rfl) uw_925 rfl rfl ?_
      refine q_aload_n dX10_reached_46 rfl ?_
      refine q_get (j := 1) (v := .ref 27) dX10_reached_47 (Nat.le_of_ble_eq_true rfl) rfl rfl iuX10 (Nat.le_of_ble_eq_true rfl) uw_925 rfl rfl ?_
      refine q_bipush (v := 13) dX10_reached_50 rfl ?_
      refine q_iconst (v := 2) dX10_reached_52 rfl ?_
      refine q_iload dX10_reached_53 rfl ?_
      refine q_imul dX10_reached_55 ?_
      refine q_iadd dX10_reached_56 ?_
      refine q_iload dX10_reached_57 rfl ?_
      refine q_iadd dX10_reached_59 ?_
      refine q_iald (f := (z_NW S)) dX10_reached_60 (Nat.le_of_ble_eq_true rfl) rfl (13 + (2 * q + i)) (by simp only [fa_lit, pk_mul, nI_add]; exact congrArg nI (by omega)) (by omega) (Nat.le_of_ble_eq_true rfl) ?_
      refine q_callSv (ν := mX10_goalOf) dX10_reached_61 uw_1106 vX10_goalOf (c_X10_goalOf_27 hG S ((((z_NW S) (13 + (2 * q + i)))))) rfl rfl (Nat.le_of_ble_eq_true rfl) (Nat.le_of_ble_eq_true rfl) (Nat.le_of_ble_eq_true rfl) 0 (Nat.le_of_ble_eq_true rfl) ?_
      refine wp_top (y := goM (z_NW S) (2 * q + i)) rfl ?_
      refine q_ist8 dX10_reached_64 (Nat.le_of_ble_eq_true rfl) rfl ?_
      refine q_iload dX10_reached_66 rfl ?_
      refine q_iload_n dX10_reached_68 rfl ?_
      refine q_iload dX10_reached_69 rfl ?_
      refine q_ishr dX10_reached_71 ?_
      refine q_iconst (v := 1) dX10_reached_72 rfl ?_
      refine q_iand dX10_reached_73 ?_
      refine q_iconst (v := 1) dX10_reached_74 rfl ?_
      refine q_icmp_ne 92 dX10_reached_75 rfl (fun c75 => ?_) (fun c75 => ?_)
      · refine q_iconst (v := 0) dX10_reached_92 rfl ?_
        refine q_ior dX10_reached_93 ?_
        refine q_ist5 dX10_reached_94 (Nat.le_of_ble_eq_true rfl) rfl ?_
        refine q_iinc7 (k9 := 1) dX10_reached_96 rfl (Nat.le_of_ble_eq_true rfl) rfl ?_
        refine wp_L (L2 := [some (.ref 26), some (.int (nI c)), some (.int (a)), some (.int ((rhK c a r))), some (.int (nI r)), some (.int ((rhS (z_NW S) (rhK c a r) q m i ||| 0))), some (.int (nI q)), some (.int (nI (i + 1))), some (.int (goM (z_NW S) (2 * q + i)))]) (by rw [show nI i + 1 = nI (i + 1) from nI_1 _]) ?_
        refine q_goto 36 dX10_reached_99 rfl ?_
        refine wp_fg (L2 := [some (.ref 26), some (.int (nI c)), some (.int (a)), some (.int ((rhK c a r))), some (.int (nI r)), some (.int ((rhS (z_NW S) (rhK c a r) q m i ||| 0))), some (.int (nI q)), some (.int (nI (i + 1))), none]) ⟨rfl, rfl, rfl, rfl, rfl, rfl, rfl, rfl, trivial⟩ ?_
        have est : rhS (z_NW S) (rhK c a r) q m (i + 1) = (rhS (z_NW S) (rhK c a r) q m i ||| 0) := by
          show rhB _ _ _ _ _ = _
          unfold rhB
          refine congrArg (HOr.hOr _) ?_
          refine if_neg ?_
          first | exact fun z => c75 z.1 | exact fun z => absurd z.2 (Int32.not_lt.mpr c82)
        refine wp_L (L2 := [some (.ref 26), some (.int (nI c)), some (.int (a)), some (.int ((rhK c a r))), some (.int (nI r)), some (.int (rhS (z_NW S) (rhK c a r) q m (i + 1))), some (.int (nI q)), some (.int (nI (i + 1))), none]) (by rw [est]) ?_
        exact ih (i + 1) (by omega)
      · refine q_iload dX10_reached_78 rfl ?_
        refine q_bipush (v := 8) dX10_reached_80 rfl ?_
        refine q_icmp_ge 92 dX10_reached_82 rfl (fun c82 => ?_) (fun c82 => ?_)
        · refine q_iconst (v := 0) dX10_reached_92 rfl ?_
          refine q_ior dX10_reached_93 ?_
          refine q_ist5 dX10_reached_94 (Nat.le_of_ble_eq_true rfl) rfl ?_
          refine q_iinc7 (k9 := 1) dX10_reached_96 rfl (Nat.le_of_ble_eq_true rfl) rfl ?_
          refine wp_L (L2 := [some (.ref 26), some (.int (nI c)), some (.int (a)), some (.int ((rhK c a r))), some (.int (nI r)), some (.int ((rhS (z_NW S) (rhK c a r) q m i ||| 0))), some (.int (nI q)), some (.int (nI (i + 1))), some (.int (goM (z_NW S) (2 * q + i)))]) (by rw [show nI i + 1 = nI (i + 1) from nI_1 _]) ?_
          refine q_goto 36 dX10_reached_99 rfl ?_
          refine wp_fg (L2 := [some (.ref 26), some (.int (nI c)), some (.int (a)), some (.int ((rhK c a r))), some (.int (nI r)), some (.int ((rhS (z_NW S) (rhK c a r) q m i ||| 0))), some (.int (nI q)), some (.int (nI (i + 1))), none]) ⟨rfl, rfl, rfl, rfl, rfl, rfl, rfl, rfl, trivial⟩ ?_
          have est : rhS (z_NW S) (rhK c a r) q m (i + 1) = (rhS (z_NW S) (rhK c a r) q m i ||| 0) := by
            show rhB _ _ _ _ _ = _
            unfold rhB
            refine congrArg (HOr.hOr _) ?_
            refine if_neg ?_
            first | exact fun z => c75 z.1 | exact fun z => absurd z.2 (Int32.not_lt.mpr c82)
          refine wp_L (L2 := [some (.ref 26), some (.int (nI c)), some (.int (a)), some (.int ((rhK c a r))), some (.int (nI r)), some (.int (rhS (z_NW S) (rhK c a r) q m (i + 1))), some (.int (nI q)), some (.int (nI (i + 1))), none]) (by rw [est]) ?_
          exact ih (i + 1) (by omega)
        · refine q_iconst (v := 1) dX10_reached_85 rfl ?_
          refine q_iload dX10_reached_86 rfl ?_
          refine q_ishl dX10_reached_88 ?_
          refine q_goto 93 dX10_reached_89 rfl ?_
          refine q_ior dX10_reached_93 ?_
          refine q_ist5 dX10_reached_94 (Nat.le_of_ble_eq_true rfl) rfl ?_
          refine q_iinc7 (k9 := 1) dX10_reached_96 rfl (Nat.le_of_ble_eq_true rfl) rfl ?_
          refine wp_L (L2 := [some (.ref 26), some (.int (nI c)), some (.int (a)), some (.int ((rhK c a r))), some (.int (nI r)), some (.int ((rhS (z_NW S) (rhK c a r) q m i ||| (1 <<< (goM (z_NW S) (2 * q + i) &&& 31))))), some (.int (nI q)), some (.int (nI (i + 1))), some (.int (goM (z_NW S) (2 * q + i)))]) (by rw [show nI i + 1 = nI (i + 1) from nI_1 _]) ?_
          refine q_goto 36 dX10_reached_99 rfl ?_
          refine wp_fg (L2 := [some (.ref 26), some (.int (nI c)), some (.int (a)), some (.int ((rhK c a r))), some (.int (nI r)), some (.int ((rhS (z_NW S) (rhK c a r) q m i ||| (1 <<< (goM (z_NW S) (2 * q + i) &&& 31))))), some (.int (nI q)), some (.int (nI (i + 1))), none]) ⟨rfl, rfl, rfl, rfl, rfl, rfl, rfl, rfl, trivial⟩ ?_
          have est : rhS (z_NW S) (rhK c a r) q m (i + 1) = (rhS (z_NW S) (rhK c a r) q m i ||| (1 <<< (goM (z_NW S) (2 * q + i) &&& 31))) := by
            show rhB _ _ _ _ _ = _
            unfold rhB
            refine congrArg (HOr.hOr _) ?_
            exact if_pos ⟨c75, Int32.not_le.mp c82⟩
          refine wp_L (L2 := [some (.ref 26), some (.int (nI c)), some (.int (a)), some (.int ((rhK c a r))), some (.int (nI r)), some (.int (rhS (z_NW S) (rhK c a r) q m (i + 1))), some (.int (nI q)), some (.int (nI (i + 1))), none]) (by rw [est]) ?_
          exact ih (i + 1) (by omega)
set_option maxRecDepth 100000 in
set_option maxHeartbeats 4000000 in
theorem l_X10_rh22 {g : G0} {h : G1} (hG : Gd g) (S : SS) {Q : State → Prop} (N c : Nat) (hN : z_NW S 0 = nI N) (hN6 : N ≤ 6) (hc : c < 6) (r : Nat) (a : Int32) (k : wp g h mX10_reached (mixW g S) [some (.ref 26), some (.int (nI c)), some (.int (a)), some (.int ((rhK c a r))), some (.int (nI r)), some (.int (rhC (z_NW S) (rhK c a r) N)), some (.int (nI N)), none, none] [] 0 Q 108) : ∀ (n i : Nat), i + n = N → wp g h mX10_reached (mixW g S) [some (.ref 26), some (.int (nI c)), some (.int (a)), some (.int ((rhK c a r))), some (.int (nI r)), some (.int (rhC (z_NW S) (rhK c a r) i)), some (.int (nI i)), none, none] [] 0 Q 22 := by
  intro n
  induction n with
  | zero =>
    intro i hq1
    obtain rfl : N = i := by omega
    refine q_iload dX10_reached_22 rfl ?_
    refine q_aload_n dX10_reached_24 rfl ?_
    refine q_get (j := 1) (v := .ref 27) dX10_reached_25 (Nat.le_of_ble_eq_true rfl) rfl rfl iuX10 (Nat.le_of_ble_eq_true rfl) uw_925 rfl rfl ?_
    refine q_iconst (v := 0) dX10_reached_28 rfl ?_
    refine q_iald (f := (z_NW S)) dX10_reached_29 (Nat.le_of_ble_eq_true rfl) rfl (0) rfl (Nat.le_of_ble_eq_true rfl) (Nat.le_of_ble_eq_true rfl) ?_
    refine wp_top (y := nI N) hN ?_
    refine q_icmp_ge 108 dX10_reached_30 rfl (fun c30 => ?_) (fun c30 => ?_)
    · have n30 := (nI_leI (a := N) (b := N) (by omega) (by omega)).mp c30
      exact k
    · have n30 := mt (nI_leI (a := N) (b := N) (by omega) (by omega)).mpr c30
      omega
  | succ n ih =>
    intro i hq1
    refine q_iload dX10_reached_22 rfl ?_
    refine q_aload_n dX10_reached_24 rfl ?_
    refine q_get (j := 1) (v := .ref 27) dX10_reached_25 (Nat.le_of_ble_eq_true rfl) rfl rfl iuX10 (Nat.le_of_ble_eq_true rfl) uw_925 rfl rfl ?_
    refine q_iconst (v := 0) dX10_reached_28 rfl ?_
    refine q_iald (f := (z_NW S)) dX10_reached_29 (Nat.le_of_ble_eq_true rfl) rfl (0) rfl (Nat.le_of_ble_eq_true rfl) (Nat.le_of_ble_eq_true rfl) ?_
    refine wp_top (y := nI N) hN ?_
    refine q_icmp_ge 108 dX10_reached_30 rfl (fun c30 => ?_) (fun c30 => ?_)
    · have n30 := (nI_leI (a := N) (b := i) (by omega) (by omega)).mp c30
      omega
    · have n30 := mt (nI_leI (a := N) (b := i) (by omega) (by omega)).mpr c30
      refine q_iconst (v := 0) dX10_reached_33 rfl ?_
      refine q_ist7 dX10_reached_34 (Nat.le_of_ble_eq_true rfl) rfl ?_
      refine wp_L (L2 := [some (.ref 26), some (.int (nI c)), some (.int (a)), some (.int ((rhK c a r))), some (.int (nI r)), some (.int (rhS (z_NW S) (rhK c a r) i (rhC (z_NW S) (rhK c a r) i) 0)), some (.int (nI i)), some (.int (nI 0)), none]) rfl ?_
      refine l_X10_rh36 hG S N c hN hN6 hc i r a _ (by omega) ?_ 2 0 rfl
      refine q_iinc6 (k9 := 1) dX10_reached_102 rfl (Nat.le_of_ble_eq_true rfl) rfl ?_
      refine wp_L (L2 := [some (.ref 26), some (.int (nI c)), some (.int (a)), some (.int ((rhK c a r))), some (.int (nI r)), some (.int (rhS (z_NW S) (rhK c a r) i (rhC (z_NW S) (rhK c a r) i) 2)), some (.int (nI (i + 1))), some (.int (nI 2)), none]) (by rw [show nI i + 1 = nI (i + 1) from nI_1 _]) ?_
      refine q_goto 22 dX10_reached_105 rfl ?_
      refine wp_fg (L2 := [some (.ref 26), some (.int (nI c)), some (.int (a)), some (.int ((rhK c a r))), some (.int (nI r)), some (.int (rhS (z_NW S) (rhK c a r) i (rhC (z_NW S) (rhK c a r) i) 2)), some (.int (nI (i + 1))), none, none]) ⟨rfl, rfl, rfl, rfl, rfl, rfl, rfl, trivial⟩ ?_
      refine wp_L (L2 := [some (.ref 26), some (.int (nI c)), some (.int (a)), some (.int ((rhK c a r))), some (.int (nI r)), some (.int (rhC (z_NW S) (rhK c a r) (i + 1))), some (.int (nI (i + 1))), none, none]) rfl ?_
      exact ih (i + 1) (by omega)
theorem rhK_s (c : Nat) (a : Int32) (r : Nat) : rhK c a (r + 1) = a := if_neg (by omega)
set_option maxRecDepth 100000 in
set_option maxHeartbeats 4000000 in
theorem l_X10_rh9 {g : G0} {h : G1} (hG : Gd g) (S : SS) {Q : State → Prop} (N c : Nat) (hN : z_NW S 0 = nI N) (hN6 : N ≤ 6) (hc : c < 6) (k : wp g h mX10_reached (mixW g S) [some (.ref 26), some (.int (nI c)), some (.int (rhA (z_NW S) c N 6)), none, none, none, none, none, none] [] 0 Q 121) : ∀ (n i : Nat), i + n = 6 → wp g h mX10_reached (mixW g S) [some (.ref 26), some (.int (nI c)), some (.int (rhA (z_NW S) c N i)), some (.int (rhK c (rhA (z_NW S) c N i) i)), some (.int (nI i)), none, none, none, none] [] 0 Q 9 := by
  intro n
  induction n with
  | zero =>
    intro i hq1
    obtain rfl : 6 = i := by omega
    refine q_iload dX10_reached_9 rfl ?_
    refine q_bipush (v := 6) dX10_reached_11 rfl ?_
    refine q_icmp_ge 121 dX10_reached_13 rfl (fun c13 => ?_) (fun c13 => ?_)
    · have n13 := (nI_leI (a := 6) (b := 6) (by omega) (by omega)).mp c13
      refine wp_fg (L2 := [some (.ref 26), some (.int (nI c)), some (.int (rhA (z_NW S) c N 6)), none, none, none, none, none, none]) ⟨rfl, rfl, rfl, trivial⟩ ?_
      exact k
    · have n13 := mt (nI_leI (a := 6) (b := 6) (by omega) (by omega)).mpr c13
      exact absurd (by decide) c13
  | succ n ih =>
    intro i hq1
    refine q_iload dX10_reached_9 rfl ?_
    refine q_bipush (v := 6) dX10_reached_11 rfl ?_
    refine q_icmp_ge 121 dX10_reached_13 rfl (fun c13 => ?_) (fun c13 => ?_)
    · have n13 := (nI_leI (a := 6) (b := i) (by omega) (by omega)).mp c13
      omega
    · have n13 := mt (nI_leI (a := 6) (b := i) (by omega) (by omega)).mpr c13
      refine q_iconst (v := 0) dX10_reached_16 rfl ?_
      refine q_ist5 dX10_reached_17 (Nat.le_of_ble_eq_true rfl) rfl ?_
      refine q_iconst (v := 0) dX10_reached_19 rfl ?_
      refine q_ist6 dX10_reached_20 (Nat.le_of_ble_eq_true rfl) rfl ?_
      refine wp_L (L2 := [some (.ref 26), some (.int (nI c)), some (.int (rhA (z_NW S) c N i)), some (.int ((rhK c (rhA (z_NW S) c N i) i))), some (.int (nI i)), some (.int (rhC (z_NW S) (rhK c (rhA (z_NW S) c N i) i) 0)), some (.int (nI 0)), none, none]) rfl ?_
      refine l_X10_rh22 hG S N c hN hN6 hc i (rhA (z_NW S) c N i) ?_ N 0 (by omega)
      refine q_iload_n dX10_reached_108 rfl ?_
      refine q_iload dX10_reached_109 rfl ?_
      refine q_ior dX10_reached_111 ?_
      refine q_ist2 dX10_reached_112 (Nat.le_of_ble_eq_true rfl) rfl ?_
      refine q_iload_n dX10_reached_113 rfl ?_
      refine q_ist3 dX10_reached_114 (Nat.le_of_ble_eq_true rfl) rfl ?_
      refine q_iinc4 (k9 := 1) dX10_reached_115 rfl (Nat.le_of_ble_eq_true rfl) rfl ?_
      refine wp_L (L2 := [some (.ref 26), some (.int (nI c)), some (.int ((rhA (z_NW S) c N i ||| rhC (z_NW S) (rhK c (rhA (z_NW S) c N i) i) N))), some (.int ((rhA (z_NW S) c N i ||| rhC (z_NW S) (rhK c (rhA (z_NW S) c N i) i) N))), some (.int (nI (i + 1))), some (.int (rhC (z_NW S) (rhK c (rhA (z_NW S) c N i) i) N)), some (.int (nI N)), none, none]) (by rw [show nI i + 1 = nI (i + 1) from nI_1 _]) ?_
      refine q_goto 9 dX10_reached_118 rfl ?_
      refine wp_fg (L2 := [some (.ref 26), some (.int (nI c)), some (.int ((rhA (z_NW S) c N i ||| rhC (z_NW S) (rhK c (rhA (z_NW S) c N i) i) N))), some (.int ((rhA (z_NW S) c N i ||| rhC (z_NW S) (rhK c (rhA (z_NW S) c N i) i) N))), some (.int (nI (i + 1))), none, none, none, none]) ⟨rfl, rfl, rfl, rfl, rfl, trivial⟩ ?_
      refine wp_L (L2 := [some (.ref 26), some (.int (nI c)), some (.int (rhA (z_NW S) c N (i + 1))), some (.int (rhK c (rhA (z_NW S) c N (i + 1)) (i + 1))), some (.int (nI (i + 1))), none, none, none, none]) (by rw [rhK_s, rhA]) ?_
      exact ih (i + 1) (by omega)
set_option maxRecDepth 100000 in
set_option maxHeartbeats 4000000 in
theorem c_X10_reached {g : G0} (hG : Gd g) (S : SS) (c : Nat) (N : Nat) (h1 : (z_NW S) 0 = nI N) (h2 : N ≤ 6) (h3 : c < 6) : ctv g mX10_reached [.ref 26, .int (nI c)] (mixW g S) (.int (rhF (z_NW S) N c)) (mixW g S) := by
  refine ct_of hG [some (.ref 26), some (.int (nI c)), none, none, none, none, none, none, none] rfl rfl rfl (Nat.le_of_ble_eq_true rfl) (fun h => ?_) rfl
  refine q_iconst (v := 0) dX10_reached_0 rfl ?_
  refine q_ist2 dX10_reached_1 (Nat.le_of_ble_eq_true rfl) rfl ?_
  refine q_iconst (v := 1) dX10_reached_2 rfl ?_
  refine q_iload_n dX10_reached_3 rfl ?_
  refine q_ishl dX10_reached_4 ?_
  refine q_ist3 dX10_reached_5 (Nat.le_of_ble_eq_true rfl) rfl ?_
  refine q_iconst (v := 0) dX10_reached_6 rfl ?_
  refine q_ist4 dX10_reached_7 (Nat.le_of_ble_eq_true rfl) rfl ?_
  refine wp_L (L2 := [some (.ref 26), some (.int (nI c)), some (.int (rhA (z_NW S) c N 0)), some (.int (rhK c (rhA (z_NW S) c N 0) 0)), some (.int (nI 0)), none, none, none, none]) rfl ?_
  refine l_X10_rh9 hG S N c h1 h2 h3 ?_ 6 0 (by omega)
  refine q_iload_n dX10_reached_121 rfl ?_
  exact q_iret dX10_reached_122 rfl ⟨rfl, rfl⟩
set_option maxRecDepth 100000 in
set_option maxHeartbeats 4000000 in
theorem c_X10_isLooped {g : G0} (hG : Gd g) (S : SS) (c : Nat) (N : Nat) (h1 : (z_NW S) 0 = nI N) (h2 : N ≤ 6) (h3 : c < 6) : ctv g mX10_isLooped [.ref 26, .int (nI c)] (mixW g S) (.int (pI (rbM (z_NW S) N c c))) (mixW g S) := by
  refine ct_of hG [some (.ref 26), some (.int (nI c))] rfl rfl rfl (Nat.le_of_ble_eq_true rfl) (fun h => ?_) rfl
  refine q_aload_n dX10_isLooped_0 rfl ?_
  refine q_iload_n dX10_isLooped_1 rfl ?_
  refine q_callVv (ν := mX10_reached) dX10_isLooped_2 uw_1200 vX10_reached (c_X10_reached hG S (c) (N) h1 h2 (by omega)) (Nat.le_of_ble_eq_true rfl) rfl rfl rfl rfl (Nat.le_of_ble_eq_true rfl) (Nat.le_of_ble_eq_true rfl) (Nat.le_of_ble_eq_true rfl) 0 (Nat.le_of_ble_eq_true rfl) ?_
  refine q_iload_n dX10_isLooped_5 rfl ?_
  refine q_ishr dX10_isLooped_6 ?_
  refine q_iconst (v := 1) dX10_isLooped_7 rfl ?_
  refine q_iand dX10_isLooped_8 ?_
  refine q_iconst (v := 1) dX10_isLooped_9 rfl ?_
  refine q_icmp_ne 17 dX10_isLooped_10 rfl (fun c10 => ?_) (fun c10 => ?_)
  · refine q_iconst (v := 0) dX10_isLooped_17 rfl ?_
    exact q_zret dX10_isLooped_18 rfl rfl ⟨by rw [pI_f (p := rbM _ _ _ _) c10], rfl⟩
  · refine q_iconst (v := 1) dX10_isLooped_13 rfl ?_
    refine q_goto 18 dX10_isLooped_14 rfl ?_
    exact q_zret dX10_isLooped_18 rfl rfl ⟨by rw [pI_t (p := rbM _ _ _ _) c10], rfl⟩
set_option maxRecDepth 100000 in
set_option maxHeartbeats 4000000 in
theorem c_X10_isInLoop {g : G0} (hG : Gd g) (S : SS) (c : Nat) (N : Nat) (h1 : (z_NW S) 0 = nI N) (h2 : N ≤ 6) (h3 : c < N) : ctv g mX10_isInLoop [.ref 26, .int (nI c)] (mixW g S) (.int (pI (rbM (z_NW S) N c c))) (mixW g (s_RF S (0))) := by
  refine ct_of hG [some (.ref 26), some (.int (nI c))] rfl rfl rfl (Nat.le_of_ble_eq_true rfl) (fun h => ?_) rfl
  refine q_aload_n dX10_isInLoop_0 rfl ?_
  refine q_aload_n dX10_isInLoop_1 rfl ?_
  refine q_iload_n dX10_isInLoop_2 rfl ?_
  refine q_callVv (ν := mX10_isCell) dX10_isInLoop_3 uw_1053 vX10_isCell (c_X10_isCell hG S ((nI c)) (N) h1 h2) (Nat.le_of_ble_eq_true rfl) rfl rfl rfl rfl (Nat.le_of_ble_eq_true rfl) (Nat.le_of_ble_eq_true rfl) (Nat.le_of_ble_eq_true rfl) 0 (Nat.le_of_ble_eq_true rfl) ?_
  refine q_if_eq 13 dX10_isInLoop_6 rfl (fun c6 => ?_) (fun c6 => ?_)
  · exact absurd (cel_ok h1 h2 (by omega)) (pI_0 c6)
  · refine q_iconst (v := 0) dX10_isInLoop_9 rfl ?_
    refine q_goto 14 dX10_isInLoop_10 rfl ?_
    refine q_callVv (ν := mX10_refused) dX10_isInLoop_14 uw_1000 vX10_refused (c_X10_refused hG S (0)) (Nat.le_of_ble_eq_true rfl) rfl rfl rfl rfl (Nat.le_of_ble_eq_true rfl) (Nat.le_of_ble_eq_true rfl) (Nat.le_of_ble_eq_true rfl) 0 (Nat.le_of_ble_eq_true rfl) ?_
    refine wp_w (w2 := mixW g (s_RF S (0))) rfl ?_
    refine wp_top (y := 0) (pI_f (by decide)) ?_
    refine q_if_eq 22 dX10_isInLoop_17 rfl (fun c17 => ?_) (fun c17 => ?_)
    · refine q_aload_n dX10_isInLoop_22 rfl ?_
      refine q_iload_n dX10_isInLoop_23 rfl ?_
      refine q_callVv (ν := mX10_isLooped) dX10_isInLoop_24 uw_1196 vX10_isLooped (c_X10_isLooped hG (s_RF S (0)) (c) (N) h1 h2 (by omega)) (Nat.le_of_ble_eq_true rfl) rfl rfl rfl rfl (Nat.le_of_ble_eq_true rfl) (Nat.le_of_ble_eq_true rfl) (Nat.le_of_ble_eq_true rfl) 0 (Nat.le_of_ble_eq_true rfl) ?_
      refine wp_eq (st2 := .int ((pI (rbM (z_NW S) N c c))) :: _) rfl ?_
      exact q_zret dX10_isInLoop_27 rfl pI_z ⟨rfl, rfl⟩
    · first | exact absurd (by decide) c17 | exact absurd c17 (by decide)
set_option maxRecDepth 100000 in
set_option maxHeartbeats 4000000 in
theorem c_X10_isInLoop_x {g : G0} (hG : Gd g) (S : SS) (c : Int32) (N : Nat) (h1 : (z_NW S) 0 = nI N) (h2 : N ≤ 6) (h3 : ¬ (0 ≤ c ∧ c < (z_NW S) 0)) : ctv g mX10_isInLoop [.ref 26, .int c] (mixW g S) (.int (0)) (mixW g (s_RF S (1))) := by
  refine ct_of hG [some (.ref 26), some (.int (c))] rfl rfl rfl (Nat.le_of_ble_eq_true rfl) (fun h => ?_) rfl
  refine q_aload_n dX10_isInLoop_0 rfl ?_
  refine q_aload_n dX10_isInLoop_1 rfl ?_
  refine q_iload_n dX10_isInLoop_2 rfl ?_
  refine q_callVv (ν := mX10_isCell) dX10_isInLoop_3 uw_1053 vX10_isCell (c_X10_isCell hG S (c) (N) h1 h2) (Nat.le_of_ble_eq_true rfl) rfl rfl rfl rfl (Nat.le_of_ble_eq_true rfl) (Nat.le_of_ble_eq_true rfl) (Nat.le_of_ble_eq_true rfl) 0 (Nat.le_of_ble_eq_true rfl) ?_
  refine q_if_eq 13 dX10_isInLoop_6 rfl (fun c6 => ?_) (fun c6 => ?_)
  · refine q_iconst (v := 1) dX10_isInLoop_13 rfl ?_
    refine q_callVv (ν := mX10_refused) dX10_isInLoop_14 uw_1000 vX10_refused (c_X10_refused hG S (1)) (Nat.le_of_ble_eq_true rfl) rfl rfl rfl rfl (Nat.le_of_ble_eq_true rfl) (Nat.le_of_ble_eq_true rfl) (Nat.le_of_ble_eq_true rfl) 0 (Nat.le_of_ble_eq_true rfl) ?_
    refine wp_w (w2 := mixW g (s_RF S (1))) rfl ?_
    refine wp_top (y := 1) (pI_t (by decide)) ?_
    refine q_if_eq 22 dX10_isInLoop_17 rfl (fun c17 => ?_) (fun c17 => ?_)
    · first | exact absurd (by decide) c17 | exact absurd c17 (by decide)
    · refine q_iconst (v := 0) dX10_isInLoop_20 rfl ?_
      exact q_zret dX10_isInLoop_21 rfl rfl ⟨rfl, rfl⟩
  · exact absurd (pI_1 c6) h3
set_option maxRecDepth 100000 in
set_option maxHeartbeats 4000000 in
theorem l_X10_lc28 {g : G0} {h : G1} (hG : Gd g) (S : SS) {Q : State → Prop} (N : Nat) (hN : z_NW S 0 = nI N) (hN6 : N ≤ 6) (q : Nat) (x : Int32) (hq : q < N) (k : wp g h mX10_loopCount (mixW g S) [some (.ref 26), some (.int (x)), some (.int (nI q)), some (.int (lcJ (z_NW S) N q q)), some (.int (nI q))] [] 0 Q 78) : ∀ (n i : Nat), i + n = q → wp g h mX10_loopCount (mixW g S) [some (.ref 26), some (.int (x)), some (.int (nI q)), some (.int (lcJ (z_NW S) N q i)), some (.int (nI i))] [] 0 Q 28 := by
  intro n
  induction n with
  | zero =>
    intro i hq1
    obtain rfl : q = i := by omega
    refine q_iload dX10_loopCount_28 rfl ?_
    refine q_iload_n dX10_loopCount_30 rfl ?_
    refine q_icmp_ge 78 dX10_loopCount_31 rfl (fun c31 => ?_) (fun c31 => ?_)
    · have n31 := (nI_leI (a := q) (b := q) (by omega) (by omega)).mp c31
      exact k
    · have n31 := mt (nI_leI (a := q) (b := q) (by omega) (by omega)).mpr c31
      omega
  | succ n ih =>
    intro i hq1
    refine q_iload dX10_loopCount_28 rfl ?_
    refine q_iload_n dX10_loopCount_30 rfl ?_
    refine q_icmp_ge 78 dX10_loopCount_31 rfl (fun c31 => ?_) (fun c31 => ?_)
    · have n31 := (nI_leI (a := q) (b := i) (by omega) (by omega)).mp c31
      omega
    · have n31 := mt (nI_leI (a := q) (b := i) (by omega) (by omega)).mpr c31
      refine q_iload_n dX10_loopCount_34 rfl ?_
      refine q_if_eq 70 dX10_loopCount_35 rfl (fun c35 => ?_) (fun c35 => ?_)
      · refine q_iconst (v := 0) dX10_loopCount_70 rfl ?_
        refine q_ist3 dX10_loopCount_71 (Nat.le_of_ble_eq_true rfl) rfl ?_
        refine q_iinc4 (k9 := 1) dX10_loopCount_72 rfl (Nat.le_of_ble_eq_true rfl) rfl ?_
        refine wp_L (L2 := [some (.ref 26), some (.int (x)), some (.int (nI q)), some (.int (0)), some (.int (nI (i + 1)))]) (by rw [show nI i + 1 = nI (i + 1) from nI_1 _]) ?_
        refine q_goto 28 dX10_loopCount_75 rfl ?_
        have est : lcJ (z_NW S) N q (i + 1) = 0 := by
          rw [lcJ]
          refine pI_f ?_
          first | exact fun z => z.1 c35 | exact fun z => z.2 ⟨c49, c63⟩
        refine wp_L (L2 := [some (.ref 26), some (.int (x)), some (.int (nI q)), some (.int (lcJ (z_NW S) N q (i + 1))), some (.int (nI (i + 1)))]) (by rw [est]) ?_
        exact ih (i + 1) (by omega)
      · refine q_aload_n dX10_loopCount_38 rfl ?_
        refine q_iload_n dX10_loopCount_39 rfl ?_
        refine q_callVv (ν := mX10_reached) dX10_loopCount_40 uw_1200 vX10_reached (c_X10_reached hG S (q) (N) hN hN6 (by omega)) (Nat.le_of_ble_eq_true rfl) rfl rfl rfl rfl (Nat.le_of_ble_eq_true rfl) (Nat.le_of_ble_eq_true rfl) (Nat.le_of_ble_eq_true rfl) 0 (Nat.le_of_ble_eq_true rfl) ?_
        refine q_iload dX10_loopCount_43 rfl ?_
        refine q_ishr dX10_loopCount_45 ?_
        refine q_iconst (v := 1) dX10_loopCount_46 rfl ?_
        refine q_iand dX10_loopCount_47 ?_
        refine q_iconst (v := 1) dX10_loopCount_48 rfl ?_
        refine q_icmp_ne 66 dX10_loopCount_49 rfl (fun c49 => ?_) (fun c49 => ?_)
        · refine q_iconst (v := 1) dX10_loopCount_66 rfl ?_
          refine q_goto 71 dX10_loopCount_67 rfl ?_
          refine q_ist3 dX10_loopCount_71 (Nat.le_of_ble_eq_true rfl) rfl ?_
          refine q_iinc4 (k9 := 1) dX10_loopCount_72 rfl (Nat.le_of_ble_eq_true rfl) rfl ?_
          refine wp_L (L2 := [some (.ref 26), some (.int (x)), some (.int (nI q)), some (.int (1)), some (.int (nI (i + 1)))]) (by rw [show nI i + 1 = nI (i + 1) from nI_1 _]) ?_
          refine q_goto 28 dX10_loopCount_75 rfl ?_
          have est : lcJ (z_NW S) N q (i + 1) = 1 := by
            rw [lcJ]
            refine pI_t ⟨c35, ?_⟩
            first | exact fun z => c49 z.1 | exact fun z => c63 z.2
          refine wp_L (L2 := [some (.ref 26), some (.int (x)), some (.int (nI q)), some (.int (lcJ (z_NW S) N q (i + 1))), some (.int (nI (i + 1)))]) (by rw [est]) ?_
          exact ih (i + 1) (by omega)
        · refine q_aload_n dX10_loopCount_52 rfl ?_
          refine q_iload dX10_loopCount_53 rfl ?_
          refine q_callVv (ν := mX10_reached) dX10_loopCount_55 uw_1200 vX10_reached (c_X10_reached hG S (i) (N) hN hN6 (by omega)) (Nat.le_of_ble_eq_true rfl) rfl rfl rfl rfl (Nat.le_of_ble_eq_true rfl) (Nat.le_of_ble_eq_true rfl) (Nat.le_of_ble_eq_true rfl) 0 (Nat.le_of_ble_eq_true rfl) ?_
          refine q_iload_n dX10_loopCount_58 rfl ?_
          refine q_ishr dX10_loopCount_59 ?_
          refine q_iconst (v := 1) dX10_loopCount_60 rfl ?_
          refine q_iand dX10_loopCount_61 ?_
          refine q_iconst (v := 1) dX10_loopCount_62 rfl ?_
          refine q_icmp_eq 70 dX10_loopCount_63 rfl (fun c63 => ?_) (fun c63 => ?_)
          · refine q_iconst (v := 0) dX10_loopCount_70 rfl ?_
            refine q_ist3 dX10_loopCount_71 (Nat.le_of_ble_eq_true rfl) rfl ?_
            refine q_iinc4 (k9 := 1) dX10_loopCount_72 rfl (Nat.le_of_ble_eq_true rfl) rfl ?_
            refine wp_L (L2 := [some (.ref 26), some (.int (x)), some (.int (nI q)), some (.int (0)), some (.int (nI (i + 1)))]) (by rw [show nI i + 1 = nI (i + 1) from nI_1 _]) ?_
            refine q_goto 28 dX10_loopCount_75 rfl ?_
            have est : lcJ (z_NW S) N q (i + 1) = 0 := by
              rw [lcJ]
              refine pI_f ?_
              first | exact fun z => z.1 c35 | exact fun z => z.2 ⟨c49, c63⟩
            refine wp_L (L2 := [some (.ref 26), some (.int (x)), some (.int (nI q)), some (.int (lcJ (z_NW S) N q (i + 1))), some (.int (nI (i + 1)))]) (by rw [est]) ?_
            exact ih (i + 1) (by omega)
          · refine q_iconst (v := 1) dX10_loopCount_66 rfl ?_
            refine q_goto 71 dX10_loopCount_67 rfl ?_
            refine q_ist3 dX10_loopCount_71 (Nat.le_of_ble_eq_true rfl) rfl ?_
            refine q_iinc4 (k9 := 1) dX10_loopCount_72 rfl (Nat.le_of_ble_eq_true rfl) rfl ?_
            refine wp_L (L2 := [some (.ref 26), some (.int (x)), some (.int (nI q)), some (.int (1)), some (.int (nI (i + 1)))]) (by rw [show nI i + 1 = nI (i + 1) from nI_1 _]) ?_
            refine q_goto 28 dX10_loopCount_75 rfl ?_
            have est : lcJ (z_NW S) N q (i + 1) = 1 := by
              rw [lcJ]
              refine pI_t ⟨c35, ?_⟩
              first | exact fun z => c49 z.1 | exact fun z => c63 z.2
            refine wp_L (L2 := [some (.ref 26), some (.int (x)), some (.int (nI q)), some (.int (lcJ (z_NW S) N q (i + 1))), some (.int (nI (i + 1)))]) (by rw [est]) ?_
            exact ih (i + 1) (by omega)
set_option maxRecDepth 100000 in
set_option maxHeartbeats 4000000 in
theorem l_X10_lc9 {g : G0} {h : G1} (hG : Gd g) (S : SS) {Q : State → Prop} (N : Nat) (hN : z_NW S 0 = nI N) (hN6 : N ≤ 6) (k : wp g h mX10_loopCount (mixW g S) [some (.ref 26), some (.int (lcC (z_NW S) N N)), none, none, none] [] 0 Q 96) : ∀ (n i : Nat), i + n = N → wp g h mX10_loopCount (mixW g S) [some (.ref 26), some (.int (lcC (z_NW S) N i)), some (.int (nI i)), none, none] [] 0 Q 9 := by
  intro n
  induction n with
  | zero =>
    intro i hq1
    obtain rfl : N = i := by omega
    refine q_iload_n dX10_loopCount_9 rfl ?_
    refine q_aload_n dX10_loopCount_10 rfl ?_
    refine q_get (j := 1) (v := .ref 27) dX10_loopCount_11 (Nat.le_of_ble_eq_true rfl) rfl rfl iuX10 (Nat.le_of_ble_eq_true rfl) uw_925 rfl rfl ?_
    refine q_iconst (v := 0) dX10_loopCount_14 rfl ?_
    refine q_iald (f := (z_NW S)) dX10_loopCount_15 (Nat.le_of_ble_eq_true rfl) rfl (0) rfl (Nat.le_of_ble_eq_true rfl) (Nat.le_of_ble_eq_true rfl) ?_
    refine wp_top (y := nI N) hN ?_
    refine q_icmp_ge 96 dX10_loopCount_16 rfl (fun c16 => ?_) (fun c16 => ?_)
    · have n16 := (nI_leI (a := N) (b := N) (by omega) (by omega)).mp c16
      refine wp_fg (L2 := [some (.ref 26), some (.int (lcC (z_NW S) N N)), none, none, none]) ⟨rfl, rfl, trivial⟩ ?_
      exact k
    · have n16 := mt (nI_leI (a := N) (b := N) (by omega) (by omega)).mpr c16
      omega
  | succ n ih =>
    intro i hq1
    refine q_iload_n dX10_loopCount_9 rfl ?_
    refine q_aload_n dX10_loopCount_10 rfl ?_
    refine q_get (j := 1) (v := .ref 27) dX10_loopCount_11 (Nat.le_of_ble_eq_true rfl) rfl rfl iuX10 (Nat.le_of_ble_eq_true rfl) uw_925 rfl rfl ?_
    refine q_iconst (v := 0) dX10_loopCount_14 rfl ?_
    refine q_iald (f := (z_NW S)) dX10_loopCount_15 (Nat.le_of_ble_eq_true rfl) rfl (0) rfl (Nat.le_of_ble_eq_true rfl) (Nat.le_of_ble_eq_true rfl) ?_
    refine wp_top (y := nI N) hN ?_
    refine q_icmp_ge 96 dX10_loopCount_16 rfl (fun c16 => ?_) (fun c16 => ?_)
    · have n16 := (nI_leI (a := N) (b := i) (by omega) (by omega)).mp c16
      omega
    · have n16 := mt (nI_leI (a := N) (b := i) (by omega) (by omega)).mpr c16
      refine q_aload_n dX10_loopCount_19 rfl ?_
      refine q_iload_n dX10_loopCount_20 rfl ?_
      refine q_callVv (ν := mX10_isLooped) dX10_loopCount_21 uw_1196 vX10_isLooped (c_X10_isLooped hG S (i) (N) hN hN6 (by omega)) (Nat.le_of_ble_eq_true rfl) rfl rfl rfl rfl (Nat.le_of_ble_eq_true rfl) (Nat.le_of_ble_eq_true rfl) (Nat.le_of_ble_eq_true rfl) 0 (Nat.le_of_ble_eq_true rfl) ?_
      refine q_ist3 dX10_loopCount_24 (Nat.le_of_ble_eq_true rfl) rfl ?_
      refine q_iconst (v := 0) dX10_loopCount_25 rfl ?_
      refine q_ist4 dX10_loopCount_26 (Nat.le_of_ble_eq_true rfl) rfl ?_
      refine wp_L (L2 := [some (.ref 26), some (.int (lcC (z_NW S) N i)), some (.int (nI i)), some (.int (lcJ (z_NW S) N i 0)), some (.int (nI 0))]) (by rw [lcJ]; rfl) ?_
      refine l_X10_lc28 hG S N hN hN6 i _ (by omega) ?_ i 0 (by omega)
      refine q_iload_n dX10_loopCount_78 rfl ?_
      refine q_iload_n dX10_loopCount_79 rfl ?_
      refine q_if_eq 87 dX10_loopCount_80 rfl (fun c80 => ?_) (fun c80 => ?_)
      · refine q_iconst (v := 0) dX10_loopCount_87 rfl ?_
        refine q_iadd dX10_loopCount_88 ?_
        refine q_ist1 dX10_loopCount_89 (Nat.le_of_ble_eq_true rfl) rfl ?_
        refine q_iinc2 (k9 := 1) dX10_loopCount_90 rfl (Nat.le_of_ble_eq_true rfl) rfl ?_
        refine wp_L (L2 := [some (.ref 26), some (.int ((lcC (z_NW S) N i + 0))), some (.int (nI (i + 1))), some (.int (lcJ (z_NW S) N i i)), some (.int (nI i))]) (by rw [show nI i + 1 = nI (i + 1) from nI_1 _]) ?_
        refine q_goto 9 dX10_loopCount_93 rfl ?_
        refine wp_fg (L2 := [some (.ref 26), some (.int ((lcC (z_NW S) N i + 0))), some (.int (nI (i + 1))), none, none]) ⟨rfl, rfl, rfl, trivial⟩ ?_
        refine wp_L (L2 := [some (.ref 26), some (.int (lcC (z_NW S) N (i + 1))), some (.int (nI (i + 1))), none, none]) (by rw [lcC, if_pos c80]) ?_
        exact ih (i + 1) (by omega)
      · refine q_iconst (v := 1) dX10_loopCount_83 rfl ?_
        refine q_goto 88 dX10_loopCount_84 rfl ?_
        refine q_iadd dX10_loopCount_88 ?_
        refine q_ist1 dX10_loopCount_89 (Nat.le_of_ble_eq_true rfl) rfl ?_
        refine q_iinc2 (k9 := 1) dX10_loopCount_90 rfl (Nat.le_of_ble_eq_true rfl) rfl ?_
        refine wp_L (L2 := [some (.ref 26), some (.int ((lcC (z_NW S) N i + 1))), some (.int (nI (i + 1))), some (.int (lcJ (z_NW S) N i i)), some (.int (nI i))]) (by rw [show nI i + 1 = nI (i + 1) from nI_1 _]) ?_
        refine q_goto 9 dX10_loopCount_93 rfl ?_
        refine wp_fg (L2 := [some (.ref 26), some (.int ((lcC (z_NW S) N i + 1))), some (.int (nI (i + 1))), none, none]) ⟨rfl, rfl, rfl, trivial⟩ ?_
        refine wp_L (L2 := [some (.ref 26), some (.int (lcC (z_NW S) N (i + 1))), some (.int (nI (i + 1))), none, none]) (by rw [lcC, if_neg c80]) ?_
        exact ih (i + 1) (by omega)
set_option maxRecDepth 100000 in
set_option maxHeartbeats 4000000 in
theorem c_X10_loopCount {g : G0} (hG : Gd g) (S : SS)  (N : Nat) (h1 : (z_NW S) 0 = nI N) (h2 : N ≤ 6) : ctv g mX10_loopCount [.ref 26] (mixW g S) (.int (lcC (z_NW S) N N)) (mixW g (s_RF S (0))) := by
  refine ct_of hG [some (.ref 26), none, none, none, none] rfl rfl rfl (Nat.le_of_ble_eq_true rfl) (fun h => ?_) rfl
  refine q_aload_n dX10_loopCount_0 rfl ?_
  refine q_iconst (v := 0) dX10_loopCount_1 rfl ?_
  refine q_put (j := 0) (ty := .int) dX10_loopCount_2 (Nat.le_of_ble_eq_true rfl) rfl rfl iuX10 tyX10_ok nmX10 (Nat.le_of_ble_eq_true rfl) uw_924 rfl rfl rfl rfl rfl (Nat.le_of_ble_eq_true rfl) ?_
  refine wp_w (u_RF g _ _) ?_
  refine q_iconst (v := 0) dX10_loopCount_5 rfl ?_
  refine q_ist1 dX10_loopCount_6 (Nat.le_of_ble_eq_true rfl) rfl ?_
  refine q_iconst (v := 0) dX10_loopCount_7 rfl ?_
  refine q_ist2 dX10_loopCount_8 (Nat.le_of_ble_eq_true rfl) rfl ?_
  refine wp_L (L2 := [some (.ref 26), some (.int (lcC (z_NW S) N 0)), some (.int (nI 0)), none, none]) rfl ?_
  refine l_X10_lc9 hG (s_RF S (0)) N h1 h2 ?_ N 0 (by omega)
  refine q_iload_n dX10_loopCount_96 rfl ?_
  exact q_iret dX10_loopCount_97 rfl ⟨rfl, rfl⟩
