def presF (n t : Int32) : Int32 := if (0 ≤ t ∧ t < n) ∨ t = 8 then t else 9
theorem presF_t {n t : Int32} (h : (0 ≤ t ∧ t < n) ∨ t = 8) : presF n t = t := if_pos h
theorem presF_f {n t : Int32} (h : ¬ ((0 ≤ t ∧ t < n) ∨ t = 8)) : presF n t = 9 := if_neg h
def carF (r s : Int32) : Int32 := if s = 0 then r else 100 - r
def pushF (f : Nat → Int32) (n : Nat) (a b c d : Int32) : Nat → Int32 := upd (upd (upd (upd (upd (upd (upd f (4 + 2 * n + 0) a) (4 + 2 * n + 1) b) (16 + 2 * n + 0) c) (16 + 2 * n + 1) d) (28 + 2 * n + 0) 0) (28 + 2 * n + 1) 0) 0 (nI n + 1)
def sumC (f : Nat → Int32) : Nat → Int32
  | 0 => 0
  | i + 1 => sumC f i + (f (28 + 2 * i + 0) + f (28 + 2 * i + 1))
def zerF (f : Nat → Int32) (i : Nat) : Nat → Int32 := fun j => if 28 ≤ j ∧ j < i then 0 else f j
theorem upd_zer (f : Nat → Int32) (i : Nat) (h : 28 ≤ i) : upd (zerF f i) i 0 = zerF f (i + 1) := by
  funext j
  simp only [upd, zerF]
  by_cases h1 : j = i
  · rw [if_pos h1, if_pos ⟨by omega, by omega⟩]
  · rw [if_neg h1]
    by_cases h2 : 28 ≤ j ∧ j < i
    · rw [if_pos h2, if_pos ⟨h2.1, by omega⟩]
    · rw [if_neg h2, if_neg (fun z => h2 ⟨z.1, by omega⟩)]
theorem zer_28 (f : Nat → Int32) : zerF f 28 = f := by
  funext j
  simp only [zerF]
  rw [if_neg (by omega)]
set_option maxRecDepth 100000 in
set_option maxHeartbeats 4000000 in
theorem c_X7_count_3 {g : G0} (hG : Gd g) (S : SS)    : ctv g mX7_count [.ref 3] (mixW g S) (.int ((z_SV S) 0)) (mixW g S) := by
  refine ct_of hG [some (.ref 3)] rfl rfl rfl (Nat.le_of_ble_eq_true rfl) (fun h => ?_) rfl
  refine q_aload_n dX7_count_0 rfl ?_
  refine q_get (j := 0) (v := .ref 4) dX7_count_1 (Nat.le_of_ble_eq_true rfl) rfl rfl iuX7 (Nat.le_of_ble_eq_true rfl) uw_87 rfl rfl ?_
  refine q_iconst (v := 0) dX7_count_4 rfl ?_
  refine q_iald (f := (z_SV S)) dX7_count_5 (Nat.le_of_ble_eq_true rfl) rfl (0) rfl (Nat.le_of_ble_eq_true rfl) (Nat.le_of_ble_eq_true rfl) ?_
  exact q_iret dX7_count_6 rfl ⟨rfl, rfl⟩
set_option maxRecDepth 100000 in
set_option maxHeartbeats 4000000 in
theorem c_X7_has_3 {g : G0} (hG : Gd g) (S : SS) (x : Int32)   : ctv g mX7_has [.ref 3, .int x] (mixW g S) (.int (bI (0 ≤ x ∧ x < (z_SV S) 0))) (mixW g S) := by
  refine ct_of hG [some (.ref 3), some (.int (x))] rfl rfl rfl (Nat.le_of_ble_eq_true rfl) (fun h => ?_) rfl
  refine q_iload_n dX7_has_0 rfl ?_
  refine q_if_lt 18 dX7_has_1 rfl (fun c1 => ?_) (fun c1 => ?_)
  · refine q_iconst (v := 0) dX7_has_18 rfl ?_
    exact q_zret dX7_has_19 rfl rfl ⟨by rw [bI_f (by first | exact fun z => absurd c1 (Int32.not_lt.mpr z.1) | exact fun z => absurd c11 (Int32.not_le.mpr z.2))], rfl⟩
  · refine q_iload_n dX7_has_4 rfl ?_
    refine q_aload_n dX7_has_5 rfl ?_
    refine q_get (j := 0) (v := .ref 4) dX7_has_6 (Nat.le_of_ble_eq_true rfl) rfl rfl iuX7 (Nat.le_of_ble_eq_true rfl) uw_87 rfl rfl ?_
    refine q_iconst (v := 0) dX7_has_9 rfl ?_
    refine q_iald (f := (z_SV S)) dX7_has_10 (Nat.le_of_ble_eq_true rfl) rfl (0) rfl (Nat.le_of_ble_eq_true rfl) (Nat.le_of_ble_eq_true rfl) ?_
    refine q_icmp_ge 18 dX7_has_11 rfl (fun c11 => ?_) (fun c11 => ?_)
    · refine q_iconst (v := 0) dX7_has_18 rfl ?_
      exact q_zret dX7_has_19 rfl rfl ⟨by rw [bI_f (by first | exact fun z => absurd c1 (Int32.not_lt.mpr z.1) | exact fun z => absurd c11 (Int32.not_le.mpr z.2))], rfl⟩
    · refine q_iconst (v := 1) dX7_has_14 rfl ?_
      refine q_goto 19 dX7_has_15 rfl ?_
      exact q_zret dX7_has_19 rfl rfl ⟨by rw [bI_t ⟨Int32.not_lt.mp c1, Int32.not_le.mp c11⟩], rfl⟩
set_option maxRecDepth 100000 in
set_option maxHeartbeats 4000000 in
theorem c_X7_percent_3 {g : G0} (hG : Gd g) (S : SS) (c : Nat) (d : Nat)  (h1 : 4 + 2 * c + d < 44) : ctv g mX7_percent [.ref 3, .int (nI c), .int (nI d)] (mixW g S) (.int ((z_SV S) (4 + 2 * c + d))) (mixW g S) := by
  refine ct_of hG [some (.ref 3), some (.int (nI c)), some (.int (nI d))] rfl rfl rfl (Nat.le_of_ble_eq_true rfl) (fun h => ?_) rfl
  refine q_aload_n dX7_percent_0 rfl ?_
  refine q_get (j := 0) (v := .ref 4) dX7_percent_1 (Nat.le_of_ble_eq_true rfl) rfl rfl iuX7 (Nat.le_of_ble_eq_true rfl) uw_87 rfl rfl ?_
  refine q_iconst (v := 4) dX7_percent_4 rfl ?_
  refine q_iconst (v := 2) dX7_percent_5 rfl ?_
  refine q_iload_n dX7_percent_6 rfl ?_
  refine q_imul dX7_percent_7 ?_
  refine q_iadd dX7_percent_8 ?_
  refine q_iload_n dX7_percent_9 rfl ?_
  refine q_iadd dX7_percent_10 ?_
  refine q_iald (f := (z_SV S)) dX7_percent_11 (Nat.le_of_ble_eq_true rfl) rfl (((4 + (2 * c)) + d)) (by simp only [fa_lit, pk_mul, nI_add]) (by omega) (Nat.le_of_ble_eq_true rfl) ?_
  exact q_iret dX7_percent_12 rfl ⟨rfl, rfl⟩
set_option maxRecDepth 100000 in
set_option maxHeartbeats 4000000 in
theorem c_X7_route_3 {g : G0} (hG : Gd g) (S : SS) (c : Nat) (d : Nat)  (h1 : 16 + 2 * c + d < 44) : ctv g mX7_route [.ref 3, .int (nI c), .int (nI d)] (mixW g S) (.int ((z_SV S) (16 + 2 * c + d))) (mixW g S) := by
  refine ct_of hG [some (.ref 3), some (.int (nI c)), some (.int (nI d))] rfl rfl rfl (Nat.le_of_ble_eq_true rfl) (fun h => ?_) rfl
  refine q_aload_n dX7_route_0 rfl ?_
  refine q_get (j := 0) (v := .ref 4) dX7_route_1 (Nat.le_of_ble_eq_true rfl) rfl rfl iuX7 (Nat.le_of_ble_eq_true rfl) uw_87 rfl rfl ?_
  refine q_bipush (v := 16) dX7_route_4 rfl ?_
  refine q_iconst (v := 2) dX7_route_6 rfl ?_
  refine q_iload_n dX7_route_7 rfl ?_
  refine q_imul dX7_route_8 ?_
  refine q_iadd dX7_route_9 ?_
  refine q_iload_n dX7_route_10 rfl ?_
  refine q_iadd dX7_route_11 ?_
  refine q_iald (f := (z_SV S)) dX7_route_12 (Nat.le_of_ble_eq_true rfl) rfl (((16 + (2 * c)) + d)) (by simp only [fa_lit, pk_mul, nI_add]) (by omega) (Nat.le_of_ble_eq_true rfl) ?_
  exact q_iret dX7_route_13 rfl ⟨rfl, rfl⟩
set_option maxRecDepth 100000 in
set_option maxHeartbeats 4000000 in
theorem c_X7_held_3 {g : G0} (hG : Gd g) (S : SS) (c : Nat) (d : Nat)  (h1 : 28 + 2 * c + d < 44) : ctv g mX7_held [.ref 3, .int (nI c), .int (nI d)] (mixW g S) (.int ((z_SV S) (28 + 2 * c + d))) (mixW g S) := by
  refine ct_of hG [some (.ref 3), some (.int (nI c)), some (.int (nI d))] rfl rfl rfl (Nat.le_of_ble_eq_true rfl) (fun h => ?_) rfl
  refine q_aload_n dX7_held_0 rfl ?_
  refine q_get (j := 0) (v := .ref 4) dX7_held_1 (Nat.le_of_ble_eq_true rfl) rfl rfl iuX7 (Nat.le_of_ble_eq_true rfl) uw_87 rfl rfl ?_
  refine q_bipush (v := 28) dX7_held_4 rfl ?_
  refine q_iconst (v := 2) dX7_held_6 rfl ?_
  refine q_iload_n dX7_held_7 rfl ?_
  refine q_imul dX7_held_8 ?_
  refine q_iadd dX7_held_9 ?_
  refine q_iload_n dX7_held_10 rfl ?_
  refine q_iadd dX7_held_11 ?_
  refine q_iald (f := (z_SV S)) dX7_held_12 (Nat.le_of_ble_eq_true rfl) rfl (((28 + (2 * c)) + d)) (by simp only [fa_lit, pk_mul, nI_add]) (by omega) (Nat.le_of_ble_eq_true rfl) ?_
  exact q_iret dX7_held_13 rfl ⟨rfl, rfl⟩
set_option maxRecDepth 100000 in
set_option maxHeartbeats 4000000 in
theorem c_X7_putPercent_3 {g : G0} (hG : Gd g) (S : SS) (c : Nat) (d : Nat) (x : Int32)  (h1 : 4 + 2 * c + d < 44) : ctu g mX7_putPercent [.ref 3, .int (nI c), .int (nI d), .int x] (mixW g S) (mixW g (s_SV S (upd (z_SV S) (4 + 2 * c + d) x))) := by
  refine ct_of hG [some (.ref 3), some (.int (nI c)), some (.int (nI d)), some (.int (x))] rfl rfl rfl (Nat.le_of_ble_eq_true rfl) (fun h => ?_) rfl
  refine q_aload_n dX7_putPercent_0 rfl ?_
  refine q_get (j := 0) (v := .ref 4) dX7_putPercent_1 (Nat.le_of_ble_eq_true rfl) rfl rfl iuX7 (Nat.le_of_ble_eq_true rfl) uw_87 rfl rfl ?_
  refine q_iconst (v := 4) dX7_putPercent_4 rfl ?_
  refine q_iconst (v := 2) dX7_putPercent_5 rfl ?_
  refine q_iload_n dX7_putPercent_6 rfl ?_
  refine q_imul dX7_putPercent_7 ?_
  refine q_iadd dX7_putPercent_8 ?_
  refine q_iload_n dX7_putPercent_9 rfl ?_
  refine q_iadd dX7_putPercent_10 ?_
  refine q_iload_n dX7_putPercent_11 rfl ?_
  refine q_iast (f := (z_SV S)) dX7_putPercent_12 (Nat.le_of_ble_eq_true rfl) rfl (((4 + (2 * c)) + d)) (by simp only [fa_lit, pk_mul, nI_add]) (by omega) (Nat.le_of_ble_eq_true rfl) ?_
  refine wp_w (u_SV g _ _) ?_
  exact q_vret dX7_putPercent_13 rfl ⟨rfl, rfl⟩
set_option maxRecDepth 100000 in
set_option maxHeartbeats 4000000 in
theorem c_X7_putRoute_3 {g : G0} (hG : Gd g) (S : SS) (c : Nat) (d : Nat) (x : Int32)  (h1 : 16 + 2 * c + d < 44) : ctu g mX7_putRoute [.ref 3, .int (nI c), .int (nI d), .int x] (mixW g S) (mixW g (s_SV S (upd (z_SV S) (16 + 2 * c + d) x))) := by
  refine ct_of hG [some (.ref 3), some (.int (nI c)), some (.int (nI d)), some (.int (x))] rfl rfl rfl (Nat.le_of_ble_eq_true rfl) (fun h => ?_) rfl
  refine q_aload_n dX7_putRoute_0 rfl ?_
  refine q_get (j := 0) (v := .ref 4) dX7_putRoute_1 (Nat.le_of_ble_eq_true rfl) rfl rfl iuX7 (Nat.le_of_ble_eq_true rfl) uw_87 rfl rfl ?_
  refine q_bipush (v := 16) dX7_putRoute_4 rfl ?_
  refine q_iconst (v := 2) dX7_putRoute_6 rfl ?_
  refine q_iload_n dX7_putRoute_7 rfl ?_
  refine q_imul dX7_putRoute_8 ?_
  refine q_iadd dX7_putRoute_9 ?_
  refine q_iload_n dX7_putRoute_10 rfl ?_
  refine q_iadd dX7_putRoute_11 ?_
  refine q_iload_n dX7_putRoute_12 rfl ?_
  refine q_iast (f := (z_SV S)) dX7_putRoute_13 (Nat.le_of_ble_eq_true rfl) rfl (((16 + (2 * c)) + d)) (by simp only [fa_lit, pk_mul, nI_add]) (by omega) (Nat.le_of_ble_eq_true rfl) ?_
  refine wp_w (u_SV g _ _) ?_
  exact q_vret dX7_putRoute_14 rfl ⟨rfl, rfl⟩
set_option maxRecDepth 100000 in
set_option maxHeartbeats 4000000 in
theorem c_X7_putHeld_3 {g : G0} (hG : Gd g) (S : SS) (c : Nat) (d : Nat) (x : Int32)  (h1 : 28 + 2 * c + d < 44) : ctu g mX7_putHeld [.ref 3, .int (nI c), .int (nI d), .int x] (mixW g S) (mixW g (s_SV S (upd (z_SV S) (28 + 2 * c + d) x))) := by
  refine ct_of hG [some (.ref 3), some (.int (nI c)), some (.int (nI d)), some (.int (x))] rfl rfl rfl (Nat.le_of_ble_eq_true rfl) (fun h => ?_) rfl
  refine q_aload_n dX7_putHeld_0 rfl ?_
  refine q_get (j := 0) (v := .ref 4) dX7_putHeld_1 (Nat.le_of_ble_eq_true rfl) rfl rfl iuX7 (Nat.le_of_ble_eq_true rfl) uw_87 rfl rfl ?_
  refine q_bipush (v := 28) dX7_putHeld_4 rfl ?_
  refine q_iconst (v := 2) dX7_putHeld_6 rfl ?_
  refine q_iload_n dX7_putHeld_7 rfl ?_
  refine q_imul dX7_putHeld_8 ?_
  refine q_iadd dX7_putHeld_9 ?_
  refine q_iload_n dX7_putHeld_10 rfl ?_
  refine q_iadd dX7_putHeld_11 ?_
  refine q_iload_n dX7_putHeld_12 rfl ?_
  refine q_iast (f := (z_SV S)) dX7_putHeld_13 (Nat.le_of_ble_eq_true rfl) rfl (((28 + (2 * c)) + d)) (by simp only [fa_lit, pk_mul, nI_add]) (by omega) (Nat.le_of_ble_eq_true rfl) ?_
  refine wp_w (u_SV g _ _) ?_
  exact q_vret dX7_putHeld_14 rfl ⟨rfl, rfl⟩
set_option maxRecDepth 100000 in
set_option maxHeartbeats 4000000 in
theorem c_X7_carried_3 {g : G0} (hG : Gd g) (S : SS) (c : Nat) (d : Nat) (s : Int32)  (h1 : 4 + 2 * c + d < 44) : ctv g mX7_carried [.ref 3, .int (nI c), .int (nI d), .int s] (mixW g S) (.int (carF ((z_SV S) (4 + 2 * c + d)) s)) (mixW g S) := by
  refine ct_of hG [some (.ref 3), some (.int (nI c)), some (.int (nI d)), some (.int (s)), none] rfl rfl rfl (Nat.le_of_ble_eq_true rfl) (fun h => ?_) rfl
  refine q_aload_n dX7_carried_0 rfl ?_
  refine q_iload_n dX7_carried_1 rfl ?_
  refine q_iload_n dX7_carried_2 rfl ?_
  refine q_callVv (ν := mX7_percent) dX7_carried_3 uw_363 vX7_percent (c_X7_percent_3 hG S (c) (d) (by omega)) (Nat.le_of_ble_eq_true rfl) rfl rfl rfl rfl (Nat.le_of_ble_eq_true rfl) (Nat.le_of_ble_eq_true rfl) (Nat.le_of_ble_eq_true rfl) 0 (Nat.le_of_ble_eq_true rfl) ?_
  refine q_ist4 dX7_carried_6 (Nat.le_of_ble_eq_true rfl) rfl ?_
  refine q_iload_n dX7_carried_8 rfl ?_
  refine q_if_ne 17 dX7_carried_9 rfl (fun c9 => ?_) (fun c9 => ?_)
  · refine q_bipush (v := 100) dX7_carried_17 rfl ?_
    refine q_iload dX7_carried_19 rfl ?_
    refine q_isub dX7_carried_21 ?_
    exact q_iret dX7_carried_22 rfl ⟨by first | rw [carF, if_pos (by assumption)] | rw [carF, if_neg (by assumption)], rfl⟩
  · refine q_iload dX7_carried_12 rfl ?_
    refine q_goto 22 dX7_carried_14 rfl ?_
    exact q_iret dX7_carried_22 rfl ⟨by first | rw [carF, if_pos (by assumption)] | rw [carF, if_neg (by assumption)], rfl⟩
set_option maxRecDepth 100000 in
set_option maxHeartbeats 4000000 in
theorem c_X7_present_3 {g : G0} (hG : Gd g) (S : SS) (x : Int32)   : ctv g mX7_present [.ref 3, .int x] (mixW g S) (.int (presF ((z_SV S) 0) x)) (mixW g S) := by
  refine ct_of hG [some (.ref 3), some (.int (x)), none] rfl rfl rfl (Nat.le_of_ble_eq_true rfl) (fun h => ?_) rfl
  refine q_iload_n dX7_present_0 rfl ?_
  refine q_if_lt 18 dX7_present_1 rfl (fun c1 => ?_) (fun c1 => ?_)
  · refine q_iconst (v := 0) dX7_present_18 rfl ?_
    refine q_ist2 dX7_present_19 (Nat.le_of_ble_eq_true rfl) rfl ?_
    refine q_iload_n dX7_present_20 rfl ?_
    refine q_if_ne 30 dX7_present_21 rfl (fun c21 => ?_) (fun c21 => ?_)
    · first | exact absurd (by decide) c21 | exact absurd c21 (by decide)
    · refine q_iload_n dX7_present_24 rfl ?_
      refine q_bipush (v := 8) dX7_present_25 rfl ?_
      refine q_icmp_ne 34 dX7_present_27 rfl (fun c27 => ?_) (fun c27 => ?_)
      · refine q_bipush (v := 9) dX7_present_34 rfl ?_
        exact q_iret dX7_present_36 rfl ⟨by first | rw [presF_t (Or.inl ⟨Int32.not_lt.mp (by assumption), Int32.not_le.mp (by assumption)⟩)] | rw [presF_t (Or.inr (by assumption))] | rw [presF_f (fun z => z.elim (fun y => by first | exact absurd (by assumption) (Int32.not_lt.mpr y.1) | exact absurd (by assumption) (Int32.not_le.mpr y.2)) (by assumption))], rfl⟩
      · refine q_iload_n dX7_present_30 rfl ?_
        refine q_goto 36 dX7_present_31 rfl ?_
        exact q_iret dX7_present_36 rfl ⟨by first | rw [presF_t (Or.inl ⟨Int32.not_lt.mp (by assumption), Int32.not_le.mp (by assumption)⟩)] | rw [presF_t (Or.inr (by assumption))] | rw [presF_f (fun z => z.elim (fun y => by first | exact absurd (by assumption) (Int32.not_lt.mpr y.1) | exact absurd (by assumption) (Int32.not_le.mpr y.2)) (by assumption))], rfl⟩
  · refine q_iload_n dX7_present_4 rfl ?_
    refine q_aload_n dX7_present_5 rfl ?_
    refine q_get (j := 0) (v := .ref 4) dX7_present_6 (Nat.le_of_ble_eq_true rfl) rfl rfl iuX7 (Nat.le_of_ble_eq_true rfl) uw_87 rfl rfl ?_
    refine q_iconst (v := 0) dX7_present_9 rfl ?_
    refine q_iald (f := (z_SV S)) dX7_present_10 (Nat.le_of_ble_eq_true rfl) rfl (0) rfl (Nat.le_of_ble_eq_true rfl) (Nat.le_of_ble_eq_true rfl) ?_
    refine q_icmp_ge 18 dX7_present_11 rfl (fun c11 => ?_) (fun c11 => ?_)
    · refine q_iconst (v := 0) dX7_present_18 rfl ?_
      refine q_ist2 dX7_present_19 (Nat.le_of_ble_eq_true rfl) rfl ?_
      refine q_iload_n dX7_present_20 rfl ?_
      refine q_if_ne 30 dX7_present_21 rfl (fun c21 => ?_) (fun c21 => ?_)
      · first | exact absurd (by decide) c21 | exact absurd c21 (by decide)
      · refine q_iload_n dX7_present_24 rfl ?_
        refine q_bipush (v := 8) dX7_present_25 rfl ?_
        refine q_icmp_ne 34 dX7_present_27 rfl (fun c27 => ?_) (fun c27 => ?_)
        · refine q_bipush (v := 9) dX7_present_34 rfl ?_
          exact q_iret dX7_present_36 rfl ⟨by first | rw [presF_t (Or.inl ⟨Int32.not_lt.mp (by assumption), Int32.not_le.mp (by assumption)⟩)] | rw [presF_t (Or.inr (by assumption))] | rw [presF_f (fun z => z.elim (fun y => by first | exact absurd (by assumption) (Int32.not_lt.mpr y.1) | exact absurd (by assumption) (Int32.not_le.mpr y.2)) (by assumption))], rfl⟩
        · refine q_iload_n dX7_present_30 rfl ?_
          refine q_goto 36 dX7_present_31 rfl ?_
          exact q_iret dX7_present_36 rfl ⟨by first | rw [presF_t (Or.inl ⟨Int32.not_lt.mp (by assumption), Int32.not_le.mp (by assumption)⟩)] | rw [presF_t (Or.inr (by assumption))] | rw [presF_f (fun z => z.elim (fun y => by first | exact absurd (by assumption) (Int32.not_lt.mpr y.1) | exact absurd (by assumption) (Int32.not_le.mpr y.2)) (by assumption))], rfl⟩
    · refine q_iconst (v := 1) dX7_present_14 rfl ?_
      refine q_goto 19 dX7_present_15 rfl ?_
      refine q_ist2 dX7_present_19 (Nat.le_of_ble_eq_true rfl) rfl ?_
      refine q_iload_n dX7_present_20 rfl ?_
      refine q_if_ne 30 dX7_present_21 rfl (fun c21 => ?_) (fun c21 => ?_)
      · refine q_iload_n dX7_present_30 rfl ?_
        refine q_goto 36 dX7_present_31 rfl ?_
        exact q_iret dX7_present_36 rfl ⟨by first | rw [presF_t (Or.inl ⟨Int32.not_lt.mp (by assumption), Int32.not_le.mp (by assumption)⟩)] | rw [presF_t (Or.inr (by assumption))] | rw [presF_f (fun z => z.elim (fun y => by first | exact absurd (by assumption) (Int32.not_lt.mpr y.1) | exact absurd (by assumption) (Int32.not_le.mpr y.2)) (by assumption))], rfl⟩
      · first | exact absurd (by decide) c21 | exact absurd c21 (by decide)
set_option maxRecDepth 100000 in
set_option maxHeartbeats 4000000 in
theorem c_X7_target_3 {g : G0} (hG : Gd g) (S : SS) (c : Nat) (s : Nat)  (h1 : 16 + 2 * c + s < 44) : ctv g mX7_target [.ref 3, .int (nI c), .int (nI s)] (mixW g S) (.int (presF ((z_SV S) 0) ((z_SV S) (16 + 2 * c + s)))) (mixW g S) := by
  refine ct_of hG [some (.ref 3), some (.int (nI c)), some (.int (nI s))] rfl rfl rfl (Nat.le_of_ble_eq_true rfl) (fun h => ?_) rfl
  refine q_aload_n dX7_target_0 rfl ?_
  refine q_aload_n dX7_target_1 rfl ?_
  refine q_iload_n dX7_target_2 rfl ?_
  refine q_iload_n dX7_target_3 rfl ?_
  refine q_callVv (ν := mX7_route) dX7_target_4 uw_347 vX7_route (c_X7_route_3 hG S (c) (s) (by omega)) (Nat.le_of_ble_eq_true rfl) rfl rfl rfl rfl (Nat.le_of_ble_eq_true rfl) (Nat.le_of_ble_eq_true rfl) (Nat.le_of_ble_eq_true rfl) 0 (Nat.le_of_ble_eq_true rfl) ?_
  refine q_callVv (ν := mX7_present) dX7_target_7 uw_351 vX7_present (c_X7_present_3 hG S ((((z_SV S) (16 + 2 * c + s))))) (Nat.le_of_ble_eq_true rfl) rfl rfl rfl rfl (Nat.le_of_ble_eq_true rfl) (Nat.le_of_ble_eq_true rfl) (Nat.le_of_ble_eq_true rfl) 0 (Nat.le_of_ble_eq_true rfl) ?_
  exact q_iret dX7_target_10 rfl ⟨rfl, rfl⟩
set_option maxRecDepth 100000 in
set_option maxHeartbeats 4000000 in
theorem c_X7_fedCell_3 {g : G0} (hG : Gd g) (S : SS)    : ctv g mX7_fedCell [.ref 3] (mixW g S) (.int ((z_SV S) 1)) (mixW g S) := by
  refine ct_of hG [some (.ref 3)] rfl rfl rfl (Nat.le_of_ble_eq_true rfl) (fun h => ?_) rfl
  refine q_aload_n dX7_fedCell_0 rfl ?_
  refine q_get (j := 0) (v := .ref 4) dX7_fedCell_1 (Nat.le_of_ble_eq_true rfl) rfl rfl iuX7 (Nat.le_of_ble_eq_true rfl) uw_87 rfl rfl ?_
  refine q_iconst (v := 1) dX7_fedCell_4 rfl ?_
  refine q_iald (f := (z_SV S)) dX7_fedCell_5 (Nat.le_of_ble_eq_true rfl) rfl (1) rfl (Nat.le_of_ble_eq_true rfl) (Nat.le_of_ble_eq_true rfl) ?_
  exact q_iret dX7_fedCell_6 rfl ⟨rfl, rfl⟩
set_option maxRecDepth 100000 in
set_option maxHeartbeats 4000000 in
theorem c_X7_feedTarget_3 {g : G0} (hG : Gd g) (S : SS)    : ctv g mX7_feedTarget [.ref 3] (mixW g S) (.int (presF ((z_SV S) 0) ((z_SV S) 1))) (mixW g S) := by
  refine ct_of hG [some (.ref 3)] rfl rfl rfl (Nat.le_of_ble_eq_true rfl) (fun h => ?_) rfl
  refine q_aload_n dX7_feedTarget_0 rfl ?_
  refine q_aload_n dX7_feedTarget_1 rfl ?_
  refine q_get (j := 0) (v := .ref 4) dX7_feedTarget_2 (Nat.le_of_ble_eq_true rfl) rfl rfl iuX7 (Nat.le_of_ble_eq_true rfl) uw_87 rfl rfl ?_
  refine q_iconst (v := 1) dX7_feedTarget_5 rfl ?_
  refine q_iald (f := (z_SV S)) dX7_feedTarget_6 (Nat.le_of_ble_eq_true rfl) rfl (1) rfl (Nat.le_of_ble_eq_true rfl) (Nat.le_of_ble_eq_true rfl) ?_
  refine q_callVv (ν := mX7_present) dX7_feedTarget_7 uw_351 vX7_present (c_X7_present_3 hG S ((((z_SV S) (1))))) (Nat.le_of_ble_eq_true rfl) rfl rfl rfl rfl (Nat.le_of_ble_eq_true rfl) (Nat.le_of_ble_eq_true rfl) (Nat.le_of_ble_eq_true rfl) 0 (Nat.le_of_ble_eq_true rfl) ?_
  exact q_iret dX7_feedTarget_10 rfl ⟨rfl, rfl⟩
set_option maxRecDepth 100000 in
set_option maxHeartbeats 4000000 in
theorem c_X7_feed_3 {g : G0} (hG : Gd g) (S : SS) (d : Nat)  (h1 : 2 + d < 44) : ctv g mX7_feed [.ref 3, .int (nI d)] (mixW g S) (.int ((z_SV S) (2 + d))) (mixW g S) := by
  refine ct_of hG [some (.ref 3), some (.int (nI d))] rfl rfl rfl (Nat.le_of_ble_eq_true rfl) (fun h => ?_) rfl
  refine q_aload_n dX7_feed_0 rfl ?_
  refine q_get (j := 0) (v := .ref 4) dX7_feed_1 (Nat.le_of_ble_eq_true rfl) rfl rfl iuX7 (Nat.le_of_ble_eq_true rfl) uw_87 rfl rfl ?_
  refine q_iconst (v := 2) dX7_feed_4 rfl ?_
  refine q_iload_n dX7_feed_5 rfl ?_
  refine q_iadd dX7_feed_6 ?_
  refine q_iald (f := (z_SV S)) dX7_feed_7 (Nat.le_of_ble_eq_true rfl) rfl ((2 + d)) (by simp only [fa_lit, pk_mul, nI_add]) (by omega) (Nat.le_of_ble_eq_true rfl) ?_
  exact q_iret dX7_feed_8 rfl ⟨rfl, rfl⟩
set_option maxRecDepth 100000 in
set_option maxHeartbeats 4000000 in
theorem c_X7_putFeed_3 {g : G0} (hG : Gd g) (S : SS) (x : Int32) (y : Int32) (z : Int32)   : ctu g mX7_putFeed [.ref 3, .int x, .int y, .int z] (mixW g S) (mixW g (s_SV S (upd (upd (upd (z_SV S) 1 x) 2 y) 3 z))) := by
  refine ct_of hG [some (.ref 3), some (.int (x)), some (.int (y)), some (.int (z))] rfl rfl rfl (Nat.le_of_ble_eq_true rfl) (fun h => ?_) rfl
  refine q_aload_n dX7_putFeed_0 rfl ?_
  refine q_get (j := 0) (v := .ref 4) dX7_putFeed_1 (Nat.le_of_ble_eq_true rfl) rfl rfl iuX7 (Nat.le_of_ble_eq_true rfl) uw_87 rfl rfl ?_
  refine q_iconst (v := 1) dX7_putFeed_4 rfl ?_
  refine q_iload_n dX7_putFeed_5 rfl ?_
  refine q_iast (f := (z_SV S)) dX7_putFeed_6 (Nat.le_of_ble_eq_true rfl) rfl (1) rfl (Nat.le_of_ble_eq_true rfl) (Nat.le_of_ble_eq_true rfl) ?_
  refine wp_w (u_SV g _ _) ?_
  refine q_aload_n dX7_putFeed_7 rfl ?_
  refine q_get (j := 0) (v := .ref 4) dX7_putFeed_8 (Nat.le_of_ble_eq_true rfl) rfl rfl iuX7 (Nat.le_of_ble_eq_true rfl) uw_87 rfl rfl ?_
  refine q_iconst (v := 2) dX7_putFeed_11 rfl ?_
  refine q_iload_n dX7_putFeed_12 rfl ?_
  refine q_iast (f := (upd (z_SV S) (1) (x))) dX7_putFeed_13 (Nat.le_of_ble_eq_true rfl) rfl (2) rfl (Nat.le_of_ble_eq_true rfl) (Nat.le_of_ble_eq_true rfl) ?_
  refine wp_w (u_SV g _ _) ?_
  rw [ss_SV]
  refine q_aload_n dX7_putFeed_14 rfl ?_
  refine q_get (j := 0) (v := .ref 4) dX7_putFeed_15 (Nat.le_of_ble_eq_true rfl) rfl rfl iuX7 (Nat.le_of_ble_eq_true rfl) uw_87 rfl rfl ?_
  refine q_iconst (v := 3) dX7_putFeed_18 rfl ?_
  refine q_iload_n dX7_putFeed_19 rfl ?_
  refine q_iast (f := (upd (upd (z_SV S) (1) (x)) (2) (y))) dX7_putFeed_20 (Nat.le_of_ble_eq_true rfl) rfl (3) rfl (Nat.le_of_ble_eq_true rfl) (Nat.le_of_ble_eq_true rfl) ?_
  refine wp_w (u_SV g _ _) ?_
  rw [ss_SV]
  exact q_vret dX7_putFeed_21 rfl ⟨rfl, rfl⟩
set_option maxRecDepth 100000 in
set_option maxHeartbeats 4000000 in
theorem c_X7_collected_3 {g : G0} (hG : Gd g) (S : SS) (p : Nat) (d : Nat)  (h1 : 8 ≤ p) (h2 : p ≤ 9) (h3 : d < 2) : ctv g mX7_collected [.ref 3, .int (nI p), .int (nI d)] (mixW g S) (.int ((z_SV S) (40 + 2 * (p - 8) + d))) (mixW g S) := by
  refine ct_of hG [some (.ref 3), some (.int (nI p)), some (.int (nI d))] rfl rfl rfl (Nat.le_of_ble_eq_true rfl) (fun h => ?_) rfl
  refine q_aload_n dX7_collected_0 rfl ?_
  refine q_get (j := 0) (v := .ref 4) dX7_collected_1 (Nat.le_of_ble_eq_true rfl) rfl rfl iuX7 (Nat.le_of_ble_eq_true rfl) uw_87 rfl rfl ?_
  refine q_bipush (v := 40) dX7_collected_4 rfl ?_
  refine q_iconst (v := 2) dX7_collected_6 rfl ?_
  refine q_iload_n dX7_collected_7 rfl ?_
  refine q_bipush (v := 8) dX7_collected_8 rfl ?_
  refine q_isub dX7_collected_10 ?_
  refine wp_eq (st2 := .int (nI (p - 8)) :: _) (by rw [show nI p - 8 = nI (p - 8) from pk_sub (b := 8) (by omega)]) ?_
  refine q_imul dX7_collected_11 ?_
  refine q_iadd dX7_collected_12 ?_
  refine q_iload_n dX7_collected_13 rfl ?_
  refine q_iadd dX7_collected_14 ?_
  refine q_iald (f := (z_SV S)) dX7_collected_15 (Nat.le_of_ble_eq_true rfl) rfl (((40 + (2 * (p - 8))) + d)) (by simp only [fa_lit, pk_mul, nI_add]) (by omega) (Nat.le_of_ble_eq_true rfl) ?_
  exact q_iret dX7_collected_16 rfl ⟨rfl, rfl⟩
set_option maxRecDepth 100000 in
set_option maxHeartbeats 4000000 in
theorem c_X7_collect_3 {g : G0} (hG : Gd g) (S : SS) (p : Nat) (d : Nat) (x : Int32)  (h1 : 8 ≤ p) (h2 : p ≤ 9) (h3 : d < 2) : ctu g mX7_collect [.ref 3, .int (nI p), .int (nI d), .int x] (mixW g S) (mixW g (s_SV S (upd (z_SV S) (40 + 2 * (p - 8) + d) ((z_SV S) (40 + 2 * (p - 8) + d) + x)))) := by
  refine ct_of hG [some (.ref 3), some (.int (nI p)), some (.int (nI d)), some (.int (x))] rfl rfl rfl (Nat.le_of_ble_eq_true rfl) (fun h => ?_) rfl
  refine q_aload_n dX7_collect_0 rfl ?_
  refine q_get (j := 0) (v := .ref 4) dX7_collect_1 (Nat.le_of_ble_eq_true rfl) rfl rfl iuX7 (Nat.le_of_ble_eq_true rfl) uw_87 rfl rfl ?_
  refine q_bipush (v := 40) dX7_collect_4 rfl ?_
  refine q_iconst (v := 2) dX7_collect_6 rfl ?_
  refine q_iload_n dX7_collect_7 rfl ?_
  refine q_bipush (v := 8) dX7_collect_8 rfl ?_
  refine q_isub dX7_collect_10 ?_
  refine wp_eq (st2 := .int (nI (p - 8)) :: _) (by rw [show nI p - 8 = nI (p - 8) from pk_sub (b := 8) (by omega)]) ?_
  refine q_imul dX7_collect_11 ?_
  refine q_iadd dX7_collect_12 ?_
  refine q_iload_n dX7_collect_13 rfl ?_
  refine q_iadd dX7_collect_14 ?_
  refine q_dup2_11 dX7_collect_15 rfl rfl ?_
  refine q_iald (f := (z_SV S)) dX7_collect_16 (Nat.le_of_ble_eq_true rfl) rfl (((40 + (2 * (p - 8))) + d)) (by simp only [fa_lit, pk_mul, nI_add]) (by omega) (Nat.le_of_ble_eq_true rfl) ?_
  refine q_iload_n dX7_collect_17 rfl ?_
  refine q_iadd dX7_collect_18 ?_
  refine q_iast (f := (z_SV S)) dX7_collect_19 (Nat.le_of_ble_eq_true rfl) rfl (((40 + (2 * (p - 8))) + d)) (by simp only [fa_lit, pk_mul, nI_add]) (by omega) (Nat.le_of_ble_eq_true rfl) ?_
  refine wp_w (u_SV g _ _) ?_
  exact q_vret dX7_collect_20 rfl ⟨rfl, rfl⟩
set_option maxRecDepth 100000 in
set_option maxHeartbeats 4000000 in
theorem c_X7_pushCell_3 {g : G0} (hG : Gd g) (S : SS) (a : Int32) (b : Int32) (x : Int32) (y : Int32) (n : Nat) (h1 : (z_SV S) 0 = nI n) (h2 : n < 6) : ctu g mX7_pushCell [.ref 3, .int a, .int b, .int x, .int y] (mixW g S) (mixW g (s_SV S (pushF (z_SV S) n a b x y))) := by
  refine ct_of hG [some (.ref 3), some (.int (a)), some (.int (b)), some (.int (x)), some (.int (y)), none] rfl rfl rfl (Nat.le_of_ble_eq_true rfl) (fun h => ?_) rfl
  refine q_aload_n dX7_pushCell_0 rfl ?_
  refine q_get (j := 0) (v := .ref 4) dX7_pushCell_1 (Nat.le_of_ble_eq_true rfl) rfl rfl iuX7 (Nat.le_of_ble_eq_true rfl) uw_87 rfl rfl ?_
  refine q_iconst (v := 0) dX7_pushCell_4 rfl ?_
  refine q_iald (f := (z_SV S)) dX7_pushCell_5 (Nat.le_of_ble_eq_true rfl) rfl (0) rfl (Nat.le_of_ble_eq_true rfl) (Nat.le_of_ble_eq_true rfl) ?_
  rw [h1]
  refine q_ist5 dX7_pushCell_6 (Nat.le_of_ble_eq_true rfl) rfl ?_
  refine q_iload dX7_pushCell_8 rfl ?_
  refine q_bipush (v := 6) dX7_pushCell_10 rfl ?_
  refine q_icmp_lt 16 dX7_pushCell_12 rfl (fun c12 => ?_) (fun c12 => ?_)
  · have n12 := (nI_ltI (a := n) (b := 6) (by omega) (by omega)).mp c12
    refine q_aload_n dX7_pushCell_16 rfl ?_
    refine q_iload dX7_pushCell_17 rfl ?_
    refine q_iconst (v := 0) dX7_pushCell_19 rfl ?_
    refine q_iload_n dX7_pushCell_20 rfl ?_
    refine q_callVu (ν := mX7_putPercent) dX7_pushCell_21 uw_600 vX7_putPercent (c_X7_putPercent_3 hG S (n) (0) (a) (by omega)) (Nat.le_of_ble_eq_true rfl) rfl rfl rfl rfl (Nat.le_of_ble_eq_true rfl) (Nat.le_of_ble_eq_true rfl) (Nat.le_of_ble_eq_true rfl) 0 (Nat.le_of_ble_eq_true rfl) ?_
    refine wp_w (w2 := mixW g (s_SV S (upd (z_SV S) (4 + 2 * n + 0) a))) rfl ?_
    refine q_aload_n dX7_pushCell_24 rfl ?_
    refine q_iload dX7_pushCell_25 rfl ?_
    refine q_iconst (v := 1) dX7_pushCell_27 rfl ?_
    refine q_iload_n dX7_pushCell_28 rfl ?_
    refine q_callVu (ν := mX7_putPercent) dX7_pushCell_29 uw_600 vX7_putPercent (c_X7_putPercent_3 hG (s_SV S (upd (z_SV S) (4 + 2 * n + 0) a)) (n) (1) (b) (by omega)) (Nat.le_of_ble_eq_true rfl) rfl rfl rfl rfl (Nat.le_of_ble_eq_true rfl) (Nat.le_of_ble_eq_true rfl) (Nat.le_of_ble_eq_true rfl) 0 (Nat.le_of_ble_eq_true rfl) ?_
    rw [ss_SV]
    refine wp_w (w2 := mixW g (s_SV S (upd (upd (z_SV S) (4 + 2 * n + 0) a) (4 + 2 * n + 1) b))) rfl ?_
    refine q_aload_n dX7_pushCell_32 rfl ?_
    refine q_iload dX7_pushCell_33 rfl ?_
    refine q_iconst (v := 0) dX7_pushCell_35 rfl ?_
    refine q_iload_n dX7_pushCell_36 rfl ?_
    refine q_callVu (ν := mX7_putRoute) dX7_pushCell_37 uw_601 vX7_putRoute (c_X7_putRoute_3 hG (s_SV S (upd (upd (z_SV S) (4 + 2 * n + 0) a) (4 + 2 * n + 1) b)) (n) (0) (x) (by omega)) (Nat.le_of_ble_eq_true rfl) rfl rfl rfl rfl (Nat.le_of_ble_eq_true rfl) (Nat.le_of_ble_eq_true rfl) (Nat.le_of_ble_eq_true rfl) 0 (Nat.le_of_ble_eq_true rfl) ?_
    rw [ss_SV]
    refine wp_w (w2 := mixW g (s_SV S (upd (upd (upd (z_SV S) (4 + 2 * n + 0) a) (4 + 2 * n + 1) b) (16 + 2 * n + 0) x))) rfl ?_
    refine q_aload_n dX7_pushCell_40 rfl ?_
    refine q_iload dX7_pushCell_41 rfl ?_
    refine q_iconst (v := 1) dX7_pushCell_43 rfl ?_
    refine q_iload dX7_pushCell_44 rfl ?_
    refine q_callVu (ν := mX7_putRoute) dX7_pushCell_46 uw_601 vX7_putRoute (c_X7_putRoute_3 hG (s_SV S (upd (upd (upd (z_SV S) (4 + 2 * n + 0) a) (4 + 2 * n + 1) b) (16 + 2 * n + 0) x)) (n) (1) (y) (by omega)) (Nat.le_of_ble_eq_true rfl) rfl rfl rfl rfl (Nat.le_of_ble_eq_true rfl) (Nat.le_of_ble_eq_true rfl) (Nat.le_of_ble_eq_true rfl) 0 (Nat.le_of_ble_eq_true rfl) ?_
    rw [ss_SV]
    refine wp_w (w2 := mixW g (s_SV S (upd (upd (upd (upd (z_SV S) (4 + 2 * n + 0) a) (4 + 2 * n + 1) b) (16 + 2 * n + 0) x) (16 + 2 * n + 1) y))) rfl ?_
    refine q_aload_n dX7_pushCell_49 rfl ?_
    refine q_iload dX7_pushCell_50 rfl ?_
    refine q_iconst (v := 0) dX7_pushCell_52 rfl ?_
    refine q_iconst (v := 0) dX7_pushCell_53 rfl ?_
    refine q_callVu (ν := mX7_putHeld) dX7_pushCell_54 uw_605 vX7_putHeld (c_X7_putHeld_3 hG (s_SV S (upd (upd (upd (upd (z_SV S) (4 + 2 * n + 0) a) (4 + 2 * n + 1) b) (16 + 2 * n + 0) x) (16 + 2 * n + 1) y)) (n) (0) (0) (by omega)) (Nat.le_of_ble_eq_true rfl) rfl rfl rfl rfl (Nat.le_of_ble_eq_true rfl) (Nat.le_of_ble_eq_true rfl) (Nat.le_of_ble_eq_true rfl) 0 (Nat.le_of_ble_eq_true rfl) ?_
    rw [ss_SV]
    refine wp_w (w2 := mixW g (s_SV S (upd (upd (upd (upd (upd (z_SV S) (4 + 2 * n + 0) a) (4 + 2 * n + 1) b) (16 + 2 * n + 0) x) (16 + 2 * n + 1) y) (28 + 2 * n + 0) 0))) rfl ?_
    refine q_aload_n dX7_pushCell_57 rfl ?_
    refine q_iload dX7_pushCell_58 rfl ?_
    refine q_iconst (v := 1) dX7_pushCell_60 rfl ?_
    refine q_iconst (v := 0) dX7_pushCell_61 rfl ?_
    refine q_callVu (ν := mX7_putHeld) dX7_pushCell_62 uw_605 vX7_putHeld (c_X7_putHeld_3 hG (s_SV S (upd (upd (upd (upd (upd (z_SV S) (4 + 2 * n + 0) a) (4 + 2 * n + 1) b) (16 + 2 * n + 0) x) (16 + 2 * n + 1) y) (28 + 2 * n + 0) 0)) (n) (1) (0) (by omega)) (Nat.le_of_ble_eq_true rfl) rfl rfl rfl rfl (Nat.le_of_ble_eq_true rfl) (Nat.le_of_ble_eq_true rfl) (Nat.le_of_ble_eq_true rfl) 0 (Nat.le_of_ble_eq_true rfl) ?_
    rw [ss_SV]
    refine wp_w (w2 := mixW g (s_SV S (upd (upd (upd (upd (upd (upd (z_SV S) (4 + 2 * n + 0) a) (4 + 2 * n + 1) b) (16 + 2 * n + 0) x) (16 + 2 * n + 1) y) (28 + 2 * n + 0) 0) (28 + 2 * n + 1) 0))) rfl ?_
    refine q_aload_n dX7_pushCell_65 rfl ?_
    refine q_get (j := 0) (v := .ref 4) dX7_pushCell_66 (Nat.le_of_ble_eq_true rfl) rfl rfl iuX7 (Nat.le_of_ble_eq_true rfl) uw_87 rfl rfl ?_
    refine q_iconst (v := 0) dX7_pushCell_69 rfl ?_
    refine q_iload dX7_pushCell_70 rfl ?_
    refine q_iconst (v := 1) dX7_pushCell_72 rfl ?_
    refine q_iadd dX7_pushCell_73 ?_
    refine q_iast (f := (upd (upd (upd (upd (upd (upd (z_SV S) (4 + 2 * n + 0) a) (4 + 2 * n + 1) b) (16 + 2 * n + 0) x) (16 + 2 * n + 1) y) (28 + 2 * n + 0) 0) (28 + 2 * n + 1) 0)) dX7_pushCell_74 (Nat.le_of_ble_eq_true rfl) rfl (0) rfl (Nat.le_of_ble_eq_true rfl) (Nat.le_of_ble_eq_true rfl) ?_
    refine wp_w (u_SV g _ _) ?_
    rw [ss_SV]
    exact q_vret dX7_pushCell_75 rfl ⟨rfl, rfl⟩
  · have n12 := mt (nI_ltI (a := n) (b := 6) (by omega) (by omega)).mpr c12
    omega
set_option maxRecDepth 100000 in
set_option maxHeartbeats 4000000 in
theorem c_X7_popCell_3 {g : G0} (hG : Gd g) (S : SS)  (n : Nat) (h1 : (z_SV S) 0 = nI n) (h2 : 0 < n) (h3 : n < 7) : ctu g mX7_popCell [.ref 3] (mixW g S) (mixW g (s_SV S (upd (z_SV S) 0 (nI n - 1)))) := by
  refine ct_of hG [some (.ref 3)] rfl rfl rfl (Nat.le_of_ble_eq_true rfl) (fun h => ?_) rfl
  refine q_aload_n dX7_popCell_0 rfl ?_
  refine q_get (j := 0) (v := .ref 4) dX7_popCell_1 (Nat.le_of_ble_eq_true rfl) rfl rfl iuX7 (Nat.le_of_ble_eq_true rfl) uw_87 rfl rfl ?_
  refine q_iconst (v := 0) dX7_popCell_4 rfl ?_
  refine q_iald (f := (z_SV S)) dX7_popCell_5 (Nat.le_of_ble_eq_true rfl) rfl (0) rfl (Nat.le_of_ble_eq_true rfl) (Nat.le_of_ble_eq_true rfl) ?_
  rw [h1]
  refine q_if_le 19 dX7_popCell_6 rfl (fun c6 => ?_) (fun c6 => ?_)
  · have n6 := (nI_leI (a := n) (b := 0) (by omega) (by omega)).mp c6
    omega
  · have n6 := mt (nI_leI (a := n) (b := 0) (by omega) (by omega)).mpr c6
    refine q_aload_n dX7_popCell_9 rfl ?_
    refine q_get (j := 0) (v := .ref 4) dX7_popCell_10 (Nat.le_of_ble_eq_true rfl) rfl rfl iuX7 (Nat.le_of_ble_eq_true rfl) uw_87 rfl rfl ?_
    refine q_iconst (v := 0) dX7_popCell_13 rfl ?_
    refine q_dup2_11 dX7_popCell_14 rfl rfl ?_
    refine q_iald (f := (z_SV S)) dX7_popCell_15 (Nat.le_of_ble_eq_true rfl) rfl (0) rfl (Nat.le_of_ble_eq_true rfl) (Nat.le_of_ble_eq_true rfl) ?_
    rw [h1]
    refine q_iconst (v := 1) dX7_popCell_16 rfl ?_
    refine q_isub dX7_popCell_17 ?_
    refine q_iast (f := (z_SV S)) dX7_popCell_18 (Nat.le_of_ble_eq_true rfl) rfl (0) rfl (Nat.le_of_ble_eq_true rfl) (Nat.le_of_ble_eq_true rfl) ?_
    refine wp_w (u_SV g _ _) ?_
    exact q_vret dX7_popCell_19 rfl ⟨rfl, rfl⟩
set_option maxRecDepth 100000 in
set_option maxHeartbeats 4000000 in
theorem c_X7_dropCells_3 {g : G0} (hG : Gd g) (S : SS)    : ctu g mX7_dropCells [.ref 3] (mixW g S) (mixW g (s_SV S (upd (z_SV S) 0 0))) := by
  refine ct_of hG [some (.ref 3)] rfl rfl rfl (Nat.le_of_ble_eq_true rfl) (fun h => ?_) rfl
  refine q_aload_n dX7_dropCells_0 rfl ?_
  refine q_get (j := 0) (v := .ref 4) dX7_dropCells_1 (Nat.le_of_ble_eq_true rfl) rfl rfl iuX7 (Nat.le_of_ble_eq_true rfl) uw_87 rfl rfl ?_
  refine q_iconst (v := 0) dX7_dropCells_4 rfl ?_
  refine q_iconst (v := 0) dX7_dropCells_5 rfl ?_
  refine q_iast (f := (z_SV S)) dX7_dropCells_6 (Nat.le_of_ble_eq_true rfl) rfl (0) rfl (Nat.le_of_ble_eq_true rfl) (Nat.le_of_ble_eq_true rfl) ?_
  refine wp_w (u_SV g _ _) ?_
  exact q_vret dX7_dropCells_7 rfl ⟨rfl, rfl⟩
set_option maxRecDepth 100000 in
theorem l_X7_emptyAll_3 {g : G0} {h : G1} (S : SS) {b : Nat} {Q : State → Prop} (k : wp g h mX7_emptyAll (mixW g (s_SV S (zerF (z_SV S) 44))) [some (.ref 3), some (.int (nI 44))] [] b Q 22) : ∀ (n i : Nat), 28 ≤ i → i + n = 44 → wp g h mX7_emptyAll (mixW g (s_SV S (zerF (z_SV S) i))) [some (.ref 3), some (.int (nI i))] [] b Q 3 := by
  intro n
  induction n with
  | zero =>
    intro i h1 h2
    obtain rfl : i = 44 := by omega
    refine q_iload_n dX7_emptyAll_3 rfl ?_
    refine q_bipush (v := 44) dX7_emptyAll_4 rfl ?_
    refine q_icmp_ge 22 dX7_emptyAll_6 rfl (fun c6 => ?_) (fun c6 => ?_)
    · have n6 := (nI_leI (a := 44) (b := 44) (by omega) (by omega)).mp c6
      exact k
    · have n6 := mt (nI_leI (a := 44) (b := 44) (by omega) (by omega)).mpr c6
      omega
  | succ n ih =>
    intro i h1 h2
    refine q_iload_n dX7_emptyAll_3 rfl ?_
    refine q_bipush (v := 44) dX7_emptyAll_4 rfl ?_
    refine q_icmp_ge 22 dX7_emptyAll_6 rfl (fun c6 => ?_) (fun c6 => ?_)
    · have n6 := (nI_leI (a := 44) (b := i) (by omega) (by omega)).mp c6
      omega
    · have n6 := mt (nI_leI (a := 44) (b := i) (by omega) (by omega)).mpr c6
      refine q_aload_n dX7_emptyAll_9 rfl ?_
      refine q_get (j := 0) (v := .ref 4) dX7_emptyAll_10 (Nat.le_of_ble_eq_true rfl) rfl rfl iuX7 (Nat.le_of_ble_eq_true rfl) uw_87 rfl rfl ?_
      refine q_iload_n dX7_emptyAll_13 rfl ?_
      refine q_iconst (v := 0) dX7_emptyAll_14 rfl ?_
      refine q_iast (f := (zerF (z_SV S) i)) dX7_emptyAll_15 (Nat.le_of_ble_eq_true rfl) rfl (i) rfl (by omega) (Nat.le_of_ble_eq_true rfl) ?_
      refine wp_w (u_SV g _ _) ?_
      rw [ss_SV]
      refine q_iinc1 (k9 := 1) dX7_emptyAll_16 rfl (Nat.le_of_ble_eq_true rfl) rfl ?_
      refine wp_L (L2 := [some (.ref 3), some (.int (nI (i + 1)))]) (by rw [show nI i + 1 = nI (i + 1) from nI_1 _]) ?_
      refine q_goto 3 dX7_emptyAll_19 rfl ?_
      refine wp_w (w2 := mixW g (s_SV S (zerF (z_SV S) (i + 1)))) (by rw [upd_zer _ _ h1]) ?_
      exact ih (i + 1) (by omega) (by omega)
set_option maxRecDepth 100000 in
set_option maxHeartbeats 4000000 in
theorem c_X7_emptyAll_3 {g : G0} (hG : Gd g) (S : SS)    : ctu g mX7_emptyAll [.ref 3] (mixW g S) (mixW g (s_SV S (zerF (z_SV S) 44))) := by
  refine ct_of hG [some (.ref 3), none] rfl rfl rfl (Nat.le_of_ble_eq_true rfl) (fun h => ?_) rfl
  refine q_bipush (v := 28) dX7_emptyAll_0 rfl ?_
  refine q_ist1 dX7_emptyAll_2 (Nat.le_of_ble_eq_true rfl) rfl ?_
  refine wp_w (w2 := mixW g (s_SV S (zerF (z_SV S) 28))) (by rw [zer_28, se_SV]) ?_
  refine l_X7_emptyAll_3 S ?_ 16 28 (by omega) (by omega)
  exact q_vret dX7_emptyAll_22 rfl ⟨rfl, rfl⟩
set_option maxRecDepth 100000 in
theorem l_X7_sumOfContents_3 {g : G0} {h : G1} (hG : Gd g) (S : SS) {Q : State → Prop} (N : Nat) (hN : z_SV S 0 = nI N) (hN6 : N ≤ 6) (k : wp g h mX7_sumOfContents (mixW g S) [some (.ref 3), some (.int (sumC (z_SV S) N)), some (.int (nI N))] [] 0 Q 36) : ∀ (n i : Nat), i + n = N → wp g h mX7_sumOfContents (mixW g S) [some (.ref 3), some (.int (sumC (z_SV S) i)), some (.int (nI i))] [] 0 Q 4 := by
  intro n
  induction n with
  | zero =>
    intro i h2
    obtain rfl : N = i := by omega
    refine q_iload_n dX7_sumOfContents_4 rfl ?_
    refine q_aload_n dX7_sumOfContents_5 rfl ?_
    refine q_get (j := 0) (v := .ref 4) dX7_sumOfContents_6 (Nat.le_of_ble_eq_true rfl) rfl rfl iuX7 (Nat.le_of_ble_eq_true rfl) uw_87 rfl rfl ?_
    refine q_iconst (v := 0) dX7_sumOfContents_9 rfl ?_
    refine q_iald (f := (z_SV S)) dX7_sumOfContents_10 (Nat.le_of_ble_eq_true rfl) rfl (0) rfl (Nat.le_of_ble_eq_true rfl) (Nat.le_of_ble_eq_true rfl) ?_
    rw [hN]
    refine q_icmp_ge 36 dX7_sumOfContents_11 rfl (fun c11 => ?_) (fun c11 => ?_)
    · have n11 := (nI_leI (a := N) (b := N) (by omega) (by omega)).mp c11
      exact k
    · have n11 := mt (nI_leI (a := N) (b := N) (by omega) (by omega)).mpr c11
      omega
  | succ n ih =>
    intro i h2
    refine q_iload_n dX7_sumOfContents_4 rfl ?_
    refine q_aload_n dX7_sumOfContents_5 rfl ?_
    refine q_get (j := 0) (v := .ref 4) dX7_sumOfContents_6 (Nat.le_of_ble_eq_true rfl) rfl rfl iuX7 (Nat.le_of_ble_eq_true rfl) uw_87 rfl rfl ?_
    refine q_iconst (v := 0) dX7_sumOfContents_9 rfl ?_
    refine q_iald (f := (z_SV S)) dX7_sumOfContents_10 (Nat.le_of_ble_eq_true rfl) rfl (0) rfl (Nat.le_of_ble_eq_true rfl) (Nat.le_of_ble_eq_true rfl) ?_
    rw [hN]
    refine q_icmp_ge 36 dX7_sumOfContents_11 rfl (fun c11 => ?_) (fun c11 => ?_)
    · have n11 := (nI_leI (a := N) (b := i) (by omega) (by omega)).mp c11
      omega
    · have n11 := mt (nI_leI (a := N) (b := i) (by omega) (by omega)).mpr c11
      refine q_iload_n dX7_sumOfContents_14 rfl ?_
      refine q_aload_n dX7_sumOfContents_15 rfl ?_
      refine q_iload_n dX7_sumOfContents_16 rfl ?_
      refine q_iconst (v := 0) dX7_sumOfContents_17 rfl ?_
      refine q_callVv (ν := mX7_held) dX7_sumOfContents_18 uw_314 vX7_held (c_X7_held_3 hG S (i) (0) (by omega)) (Nat.le_of_ble_eq_true rfl) rfl rfl rfl rfl (Nat.le_of_ble_eq_true rfl) (Nat.le_of_ble_eq_true rfl) (Nat.le_of_ble_eq_true rfl) 0 (Nat.le_of_ble_eq_true rfl) ?_
      refine q_aload_n dX7_sumOfContents_21 rfl ?_
      refine q_iload_n dX7_sumOfContents_22 rfl ?_
      refine q_iconst (v := 1) dX7_sumOfContents_23 rfl ?_
      refine q_callVv (ν := mX7_held) dX7_sumOfContents_24 uw_314 vX7_held (c_X7_held_3 hG S (i) (1) (by omega)) (Nat.le_of_ble_eq_true rfl) rfl rfl rfl rfl (Nat.le_of_ble_eq_true rfl) (Nat.le_of_ble_eq_true rfl) (Nat.le_of_ble_eq_true rfl) 0 (Nat.le_of_ble_eq_true rfl) ?_
      refine q_iadd dX7_sumOfContents_27 ?_
      refine q_iadd dX7_sumOfContents_28 ?_
      refine q_ist1 dX7_sumOfContents_29 (Nat.le_of_ble_eq_true rfl) rfl ?_
      refine q_iinc2 (k9 := 1) dX7_sumOfContents_30 rfl (Nat.le_of_ble_eq_true rfl) rfl ?_
      refine wp_L (L2 := [some (.ref 3), some (.int ((sumC (z_SV S) i + (((z_SV S) (28 + 2 * i + 0)) + ((z_SV S) (28 + 2 * i + 1)))))), some (.int (nI (i + 1)))]) (by rw [show nI i + 1 = nI (i + 1) from nI_1 _]) ?_
      refine q_goto 4 dX7_sumOfContents_33 rfl ?_
      exact ih (i + 1) (by omega)
set_option maxRecDepth 100000 in
set_option maxHeartbeats 4000000 in
theorem c_X7_sumOfContents_3 {g : G0} (hG : Gd g) (S : SS)  (N : Nat) (h1 : (z_SV S) 0 = nI N) (h2 : N ≤ 6) : ctv g mX7_sumOfContents [.ref 3] (mixW g S) (.int (sumC (z_SV S) N)) (mixW g S) := by
  refine ct_of hG [some (.ref 3), none, none] rfl rfl rfl (Nat.le_of_ble_eq_true rfl) (fun h => ?_) rfl
  refine q_iconst (v := 0) dX7_sumOfContents_0 rfl ?_
  refine q_ist1 dX7_sumOfContents_1 (Nat.le_of_ble_eq_true rfl) rfl ?_
  refine q_iconst (v := 0) dX7_sumOfContents_2 rfl ?_
  refine q_ist2 dX7_sumOfContents_3 (Nat.le_of_ble_eq_true rfl) rfl ?_
  refine l_X7_sumOfContents_3 hG S N h1 h2 ?_ N 0 (by omega)
  refine q_iload_n dX7_sumOfContents_36 rfl ?_
  exact q_iret dX7_sumOfContents_37 rfl ⟨rfl, rfl⟩
set_option maxRecDepth 100000 in
set_option maxHeartbeats 4000000 in
theorem c_X7_count_5 {g : G0} (hG : Gd g) (S : SS)    : ctv g mX7_count [.ref 5] (mixW g S) (.int ((z_TV S) 0)) (mixW g S) := by
  refine ct_of hG [some (.ref 5)] rfl rfl rfl (Nat.le_of_ble_eq_true rfl) (fun h => ?_) rfl
  refine q_aload_n dX7_count_0 rfl ?_
  refine q_get (j := 0) (v := .ref 6) dX7_count_1 (Nat.le_of_ble_eq_true rfl) rfl rfl iuX7 (Nat.le_of_ble_eq_true rfl) uw_87 rfl rfl ?_
  refine q_iconst (v := 0) dX7_count_4 rfl ?_
  refine q_iald (f := (z_TV S)) dX7_count_5 (Nat.le_of_ble_eq_true rfl) rfl (0) rfl (Nat.le_of_ble_eq_true rfl) (Nat.le_of_ble_eq_true rfl) ?_
  exact q_iret dX7_count_6 rfl ⟨rfl, rfl⟩
set_option maxRecDepth 100000 in
set_option maxHeartbeats 4000000 in
theorem c_X7_has_5 {g : G0} (hG : Gd g) (S : SS) (x : Int32)   : ctv g mX7_has [.ref 5, .int x] (mixW g S) (.int (bI (0 ≤ x ∧ x < (z_TV S) 0))) (mixW g S) := by
  refine ct_of hG [some (.ref 5), some (.int (x))] rfl rfl rfl (Nat.le_of_ble_eq_true rfl) (fun h => ?_) rfl
  refine q_iload_n dX7_has_0 rfl ?_
  refine q_if_lt 18 dX7_has_1 rfl (fun c1 => ?_) (fun c1 => ?_)
  · refine q_iconst (v := 0) dX7_has_18 rfl ?_
    exact q_zret dX7_has_19 rfl rfl ⟨by rw [bI_f (by first | exact fun z => absurd c1 (Int32.not_lt.mpr z.1) | exact fun z => absurd c11 (Int32.not_le.mpr z.2))], rfl⟩
  · refine q_iload_n dX7_has_4 rfl ?_
    refine q_aload_n dX7_has_5 rfl ?_
    refine q_get (j := 0) (v := .ref 6) dX7_has_6 (Nat.le_of_ble_eq_true rfl) rfl rfl iuX7 (Nat.le_of_ble_eq_true rfl) uw_87 rfl rfl ?_
    refine q_iconst (v := 0) dX7_has_9 rfl ?_
    refine q_iald (f := (z_TV S)) dX7_has_10 (Nat.le_of_ble_eq_true rfl) rfl (0) rfl (Nat.le_of_ble_eq_true rfl) (Nat.le_of_ble_eq_true rfl) ?_
    refine q_icmp_ge 18 dX7_has_11 rfl (fun c11 => ?_) (fun c11 => ?_)
    · refine q_iconst (v := 0) dX7_has_18 rfl ?_
      exact q_zret dX7_has_19 rfl rfl ⟨by rw [bI_f (by first | exact fun z => absurd c1 (Int32.not_lt.mpr z.1) | exact fun z => absurd c11 (Int32.not_le.mpr z.2))], rfl⟩
    · refine q_iconst (v := 1) dX7_has_14 rfl ?_
      refine q_goto 19 dX7_has_15 rfl ?_
      exact q_zret dX7_has_19 rfl rfl ⟨by rw [bI_t ⟨Int32.not_lt.mp c1, Int32.not_le.mp c11⟩], rfl⟩
set_option maxRecDepth 100000 in
set_option maxHeartbeats 4000000 in
theorem c_X7_percent_5 {g : G0} (hG : Gd g) (S : SS) (c : Nat) (d : Nat)  (h1 : 4 + 2 * c + d < 44) : ctv g mX7_percent [.ref 5, .int (nI c), .int (nI d)] (mixW g S) (.int ((z_TV S) (4 + 2 * c + d))) (mixW g S) := by
  refine ct_of hG [some (.ref 5), some (.int (nI c)), some (.int (nI d))] rfl rfl rfl (Nat.le_of_ble_eq_true rfl) (fun h => ?_) rfl
  refine q_aload_n dX7_percent_0 rfl ?_
  refine q_get (j := 0) (v := .ref 6) dX7_percent_1 (Nat.le_of_ble_eq_true rfl) rfl rfl iuX7 (Nat.le_of_ble_eq_true rfl) uw_87 rfl rfl ?_
  refine q_iconst (v := 4) dX7_percent_4 rfl ?_
  refine q_iconst (v := 2) dX7_percent_5 rfl ?_
  refine q_iload_n dX7_percent_6 rfl ?_
  refine q_imul dX7_percent_7 ?_
  refine q_iadd dX7_percent_8 ?_
  refine q_iload_n dX7_percent_9 rfl ?_
  refine q_iadd dX7_percent_10 ?_
  refine q_iald (f := (z_TV S)) dX7_percent_11 (Nat.le_of_ble_eq_true rfl) rfl (((4 + (2 * c)) + d)) (by simp only [fa_lit, pk_mul, nI_add]) (by omega) (Nat.le_of_ble_eq_true rfl) ?_
  exact q_iret dX7_percent_12 rfl ⟨rfl, rfl⟩
set_option maxRecDepth 100000 in
set_option maxHeartbeats 4000000 in
theorem c_X7_route_5 {g : G0} (hG : Gd g) (S : SS) (c : Nat) (d : Nat)  (h1 : 16 + 2 * c + d < 44) : ctv g mX7_route [.ref 5, .int (nI c), .int (nI d)] (mixW g S) (.int ((z_TV S) (16 + 2 * c + d))) (mixW g S) := by
  refine ct_of hG [some (.ref 5), some (.int (nI c)), some (.int (nI d))] rfl rfl rfl (Nat.le_of_ble_eq_true rfl) (fun h => ?_) rfl
  refine q_aload_n dX7_route_0 rfl ?_
  refine q_get (j := 0) (v := .ref 6) dX7_route_1 (Nat.le_of_ble_eq_true rfl) rfl rfl iuX7 (Nat.le_of_ble_eq_true rfl) uw_87 rfl rfl ?_
  refine q_bipush (v := 16) dX7_route_4 rfl ?_
  refine q_iconst (v := 2) dX7_route_6 rfl ?_
  refine q_iload_n dX7_route_7 rfl ?_
  refine q_imul dX7_route_8 ?_
  refine q_iadd dX7_route_9 ?_
  refine q_iload_n dX7_route_10 rfl ?_
  refine q_iadd dX7_route_11 ?_
  refine q_iald (f := (z_TV S)) dX7_route_12 (Nat.le_of_ble_eq_true rfl) rfl (((16 + (2 * c)) + d)) (by simp only [fa_lit, pk_mul, nI_add]) (by omega) (Nat.le_of_ble_eq_true rfl) ?_
  exact q_iret dX7_route_13 rfl ⟨rfl, rfl⟩
set_option maxRecDepth 100000 in
set_option maxHeartbeats 4000000 in
theorem c_X7_held_5 {g : G0} (hG : Gd g) (S : SS) (c : Nat) (d : Nat)  (h1 : 28 + 2 * c + d < 44) : ctv g mX7_held [.ref 5, .int (nI c), .int (nI d)] (mixW g S) (.int ((z_TV S) (28 + 2 * c + d))) (mixW g S) := by
  refine ct_of hG [some (.ref 5), some (.int (nI c)), some (.int (nI d))] rfl rfl rfl (Nat.le_of_ble_eq_true rfl) (fun h => ?_) rfl
  refine q_aload_n dX7_held_0 rfl ?_
  refine q_get (j := 0) (v := .ref 6) dX7_held_1 (Nat.le_of_ble_eq_true rfl) rfl rfl iuX7 (Nat.le_of_ble_eq_true rfl) uw_87 rfl rfl ?_
  refine q_bipush (v := 28) dX7_held_4 rfl ?_
  refine q_iconst (v := 2) dX7_held_6 rfl ?_
  refine q_iload_n dX7_held_7 rfl ?_
  refine q_imul dX7_held_8 ?_
  refine q_iadd dX7_held_9 ?_
  refine q_iload_n dX7_held_10 rfl ?_
  refine q_iadd dX7_held_11 ?_
  refine q_iald (f := (z_TV S)) dX7_held_12 (Nat.le_of_ble_eq_true rfl) rfl (((28 + (2 * c)) + d)) (by simp only [fa_lit, pk_mul, nI_add]) (by omega) (Nat.le_of_ble_eq_true rfl) ?_
  exact q_iret dX7_held_13 rfl ⟨rfl, rfl⟩
set_option maxRecDepth 100000 in
set_option maxHeartbeats 4000000 in
theorem c_X7_putPercent_5 {g : G0} (hG : Gd g) (S : SS) (c : Nat) (d : Nat) (x : Int32)  (h1 : 4 + 2 * c + d < 44) : ctu g mX7_putPercent [.ref 5, .int (nI c), .int (nI d), .int x] (mixW g S) (mixW g (s_TV S (upd (z_TV S) (4 + 2 * c + d) x))) := by
  refine ct_of hG [some (.ref 5), some (.int (nI c)), some (.int (nI d)), some (.int (x))] rfl rfl rfl (Nat.le_of_ble_eq_true rfl) (fun h => ?_) rfl
  refine q_aload_n dX7_putPercent_0 rfl ?_
  refine q_get (j := 0) (v := .ref 6) dX7_putPercent_1 (Nat.le_of_ble_eq_true rfl) rfl rfl iuX7 (Nat.le_of_ble_eq_true rfl) uw_87 rfl rfl ?_
  refine q_iconst (v := 4) dX7_putPercent_4 rfl ?_
  refine q_iconst (v := 2) dX7_putPercent_5 rfl ?_
  refine q_iload_n dX7_putPercent_6 rfl ?_
  refine q_imul dX7_putPercent_7 ?_
  refine q_iadd dX7_putPercent_8 ?_
  refine q_iload_n dX7_putPercent_9 rfl ?_
  refine q_iadd dX7_putPercent_10 ?_
  refine q_iload_n dX7_putPercent_11 rfl ?_
  refine q_iast (f := (z_TV S)) dX7_putPercent_12 (Nat.le_of_ble_eq_true rfl) rfl (((4 + (2 * c)) + d)) (by simp only [fa_lit, pk_mul, nI_add]) (by omega) (Nat.le_of_ble_eq_true rfl) ?_
  refine wp_w (u_TV g _ _) ?_
  exact q_vret dX7_putPercent_13 rfl ⟨rfl, rfl⟩
set_option maxRecDepth 100000 in
set_option maxHeartbeats 4000000 in
theorem c_X7_putRoute_5 {g : G0} (hG : Gd g) (S : SS) (c : Nat) (d : Nat) (x : Int32)  (h1 : 16 + 2 * c + d < 44) : ctu g mX7_putRoute [.ref 5, .int (nI c), .int (nI d), .int x] (mixW g S) (mixW g (s_TV S (upd (z_TV S) (16 + 2 * c + d) x))) := by
  refine ct_of hG [some (.ref 5), some (.int (nI c)), some (.int (nI d)), some (.int (x))] rfl rfl rfl (Nat.le_of_ble_eq_true rfl) (fun h => ?_) rfl
  refine q_aload_n dX7_putRoute_0 rfl ?_
  refine q_get (j := 0) (v := .ref 6) dX7_putRoute_1 (Nat.le_of_ble_eq_true rfl) rfl rfl iuX7 (Nat.le_of_ble_eq_true rfl) uw_87 rfl rfl ?_
  refine q_bipush (v := 16) dX7_putRoute_4 rfl ?_
  refine q_iconst (v := 2) dX7_putRoute_6 rfl ?_
  refine q_iload_n dX7_putRoute_7 rfl ?_
  refine q_imul dX7_putRoute_8 ?_
  refine q_iadd dX7_putRoute_9 ?_
  refine q_iload_n dX7_putRoute_10 rfl ?_
  refine q_iadd dX7_putRoute_11 ?_
  refine q_iload_n dX7_putRoute_12 rfl ?_
  refine q_iast (f := (z_TV S)) dX7_putRoute_13 (Nat.le_of_ble_eq_true rfl) rfl (((16 + (2 * c)) + d)) (by simp only [fa_lit, pk_mul, nI_add]) (by omega) (Nat.le_of_ble_eq_true rfl) ?_
  refine wp_w (u_TV g _ _) ?_
  exact q_vret dX7_putRoute_14 rfl ⟨rfl, rfl⟩
set_option maxRecDepth 100000 in
set_option maxHeartbeats 4000000 in
theorem c_X7_putHeld_5 {g : G0} (hG : Gd g) (S : SS) (c : Nat) (d : Nat) (x : Int32)  (h1 : 28 + 2 * c + d < 44) : ctu g mX7_putHeld [.ref 5, .int (nI c), .int (nI d), .int x] (mixW g S) (mixW g (s_TV S (upd (z_TV S) (28 + 2 * c + d) x))) := by
  refine ct_of hG [some (.ref 5), some (.int (nI c)), some (.int (nI d)), some (.int (x))] rfl rfl rfl (Nat.le_of_ble_eq_true rfl) (fun h => ?_) rfl
  refine q_aload_n dX7_putHeld_0 rfl ?_
  refine q_get (j := 0) (v := .ref 6) dX7_putHeld_1 (Nat.le_of_ble_eq_true rfl) rfl rfl iuX7 (Nat.le_of_ble_eq_true rfl) uw_87 rfl rfl ?_
  refine q_bipush (v := 28) dX7_putHeld_4 rfl ?_
  refine q_iconst (v := 2) dX7_putHeld_6 rfl ?_
  refine q_iload_n dX7_putHeld_7 rfl ?_
  refine q_imul dX7_putHeld_8 ?_
  refine q_iadd dX7_putHeld_9 ?_
  refine q_iload_n dX7_putHeld_10 rfl ?_
  refine q_iadd dX7_putHeld_11 ?_
  refine q_iload_n dX7_putHeld_12 rfl ?_
  refine q_iast (f := (z_TV S)) dX7_putHeld_13 (Nat.le_of_ble_eq_true rfl) rfl (((28 + (2 * c)) + d)) (by simp only [fa_lit, pk_mul, nI_add]) (by omega) (Nat.le_of_ble_eq_true rfl) ?_
  refine wp_w (u_TV g _ _) ?_
  exact q_vret dX7_putHeld_14 rfl ⟨rfl, rfl⟩
set_option maxRecDepth 100000 in
set_option maxHeartbeats 4000000 in
theorem c_X7_carried_5 {g : G0} (hG : Gd g) (S : SS) (c : Nat) (d : Nat) (s : Int32)  (h1 : 4 + 2 * c + d < 44) : ctv g mX7_carried [.ref 5, .int (nI c), .int (nI d), .int s] (mixW g S) (.int (carF ((z_TV S) (4 + 2 * c + d)) s)) (mixW g S) := by
  refine ct_of hG [some (.ref 5), some (.int (nI c)), some (.int (nI d)), some (.int (s)), none] rfl rfl rfl (Nat.le_of_ble_eq_true rfl) (fun h => ?_) rfl
  refine q_aload_n dX7_carried_0 rfl ?_
  refine q_iload_n dX7_carried_1 rfl ?_
  refine q_iload_n dX7_carried_2 rfl ?_
  refine q_callVv (ν := mX7_percent) dX7_carried_3 uw_363 vX7_percent (c_X7_percent_5 hG S (c) (d) (by omega)) (Nat.le_of_ble_eq_true rfl) rfl rfl rfl rfl (Nat.le_of_ble_eq_true rfl) (Nat.le_of_ble_eq_true rfl) (Nat.le_of_ble_eq_true rfl) 0 (Nat.le_of_ble_eq_true rfl) ?_
  refine q_ist4 dX7_carried_6 (Nat.le_of_ble_eq_true rfl) rfl ?_
  refine q_iload_n dX7_carried_8 rfl ?_
  refine q_if_ne 17 dX7_carried_9 rfl (fun c9 => ?_) (fun c9 => ?_)
  · refine q_bipush (v := 100) dX7_carried_17 rfl ?_
    refine q_iload dX7_carried_19 rfl ?_
    refine q_isub dX7_carried_21 ?_
    exact q_iret dX7_carried_22 rfl ⟨by first | rw [carF, if_pos (by assumption)] | rw [carF, if_neg (by assumption)], rfl⟩
  · refine q_iload dX7_carried_12 rfl ?_
    refine q_goto 22 dX7_carried_14 rfl ?_
    exact q_iret dX7_carried_22 rfl ⟨by first | rw [carF, if_pos (by assumption)] | rw [carF, if_neg (by assumption)], rfl⟩
set_option maxRecDepth 100000 in
set_option maxHeartbeats 4000000 in
theorem c_X7_present_5 {g : G0} (hG : Gd g) (S : SS) (x : Int32)   : ctv g mX7_present [.ref 5, .int x] (mixW g S) (.int (presF ((z_TV S) 0) x)) (mixW g S) := by
  refine ct_of hG [some (.ref 5), some (.int (x)), none] rfl rfl rfl (Nat.le_of_ble_eq_true rfl) (fun h => ?_) rfl
  refine q_iload_n dX7_present_0 rfl ?_
  refine q_if_lt 18 dX7_present_1 rfl (fun c1 => ?_) (fun c1 => ?_)
  · refine q_iconst (v := 0) dX7_present_18 rfl ?_
    refine q_ist2 dX7_present_19 (Nat.le_of_ble_eq_true rfl) rfl ?_
    refine q_iload_n dX7_present_20 rfl ?_
    refine q_if_ne 30 dX7_present_21 rfl (fun c21 => ?_) (fun c21 => ?_)
    · first | exact absurd (by decide) c21 | exact absurd c21 (by decide)
    · refine q_iload_n dX7_present_24 rfl ?_
      refine q_bipush (v := 8) dX7_present_25 rfl ?_
      refine q_icmp_ne 34 dX7_present_27 rfl (fun c27 => ?_) (fun c27 => ?_)
      · refine q_bipush (v := 9) dX7_present_34 rfl ?_
        exact q_iret dX7_present_36 rfl ⟨by first | rw [presF_t (Or.inl ⟨Int32.not_lt.mp (by assumption), Int32.not_le.mp (by assumption)⟩)] | rw [presF_t (Or.inr (by assumption))] | rw [presF_f (fun z => z.elim (fun y => by first | exact absurd (by assumption) (Int32.not_lt.mpr y.1) | exact absurd (by assumption) (Int32.not_le.mpr y.2)) (by assumption))], rfl⟩
      · refine q_iload_n dX7_present_30 rfl ?_
        refine q_goto 36 dX7_present_31 rfl ?_
        exact q_iret dX7_present_36 rfl ⟨by first | rw [presF_t (Or.inl ⟨Int32.not_lt.mp (by assumption), Int32.not_le.mp (by assumption)⟩)] | rw [presF_t (Or.inr (by assumption))] | rw [presF_f (fun z => z.elim (fun y => by first | exact absurd (by assumption) (Int32.not_lt.mpr y.1) | exact absurd (by assumption) (Int32.not_le.mpr y.2)) (by assumption))], rfl⟩
  · refine q_iload_n dX7_present_4 rfl ?_
    refine q_aload_n dX7_present_5 rfl ?_
    refine q_get (j := 0) (v := .ref 6) dX7_present_6 (Nat.le_of_ble_eq_true rfl) rfl rfl iuX7 (Nat.le_of_ble_eq_true rfl) uw_87 rfl rfl ?_
    refine q_iconst (v := 0) dX7_present_9 rfl ?_
    refine q_iald (f := (z_TV S)) dX7_present_10 (Nat.le_of_ble_eq_true rfl) rfl (0) rfl (Nat.le_of_ble_eq_true rfl) (Nat.le_of_ble_eq_true rfl) ?_
    refine q_icmp_ge 18 dX7_present_11 rfl (fun c11 => ?_) (fun c11 => ?_)
    · refine q_iconst (v := 0) dX7_present_18 rfl ?_
      refine q_ist2 dX7_present_19 (Nat.le_of_ble_eq_true rfl) rfl ?_
      refine q_iload_n dX7_present_20 rfl ?_
      refine q_if_ne 30 dX7_present_21 rfl (fun c21 => ?_) (fun c21 => ?_)
      · first | exact absurd (by decide) c21 | exact absurd c21 (by decide)
      · refine q_iload_n dX7_present_24 rfl ?_
        refine q_bipush (v := 8) dX7_present_25 rfl ?_
        refine q_icmp_ne 34 dX7_present_27 rfl (fun c27 => ?_) (fun c27 => ?_)
        · refine q_bipush (v := 9) dX7_present_34 rfl ?_
          exact q_iret dX7_present_36 rfl ⟨by first | rw [presF_t (Or.inl ⟨Int32.not_lt.mp (by assumption), Int32.not_le.mp (by assumption)⟩)] | rw [presF_t (Or.inr (by assumption))] | rw [presF_f (fun z => z.elim (fun y => by first | exact absurd (by assumption) (Int32.not_lt.mpr y.1) | exact absurd (by assumption) (Int32.not_le.mpr y.2)) (by assumption))], rfl⟩
        · refine q_iload_n dX7_present_30 rfl ?_
          refine q_goto 36 dX7_present_31 rfl ?_
          exact q_iret dX7_present_36 rfl ⟨by first | rw [presF_t (Or.inl ⟨Int32.not_lt.mp (by assumption), Int32.not_le.mp (by assumption)⟩)] | rw [presF_t (Or.inr (by assumption))] | rw [presF_f (fun z => z.elim (fun y => by first | exact absurd (by assumption) (Int32.not_lt.mpr y.1) | exact absurd (by assumption) (Int32.not_le.mpr y.2)) (by assumption))], rfl⟩
    · refine q_iconst (v := 1) dX7_present_14 rfl ?_
      refine q_goto 19 dX7_present_15 rfl ?_
      refine q_ist2 dX7_present_19 (Nat.le_of_ble_eq_true rfl) rfl ?_
      refine q_iload_n dX7_present_20 rfl ?_
      refine q_if_ne 30 dX7_present_21 rfl (fun c21 => ?_) (fun c21 => ?_)
      · refine q_iload_n dX7_present_30 rfl ?_
        refine q_goto 36 dX7_present_31 rfl ?_
        exact q_iret dX7_present_36 rfl ⟨by first | rw [presF_t (Or.inl ⟨Int32.not_lt.mp (by assumption), Int32.not_le.mp (by assumption)⟩)] | rw [presF_t (Or.inr (by assumption))] | rw [presF_f (fun z => z.elim (fun y => by first | exact absurd (by assumption) (Int32.not_lt.mpr y.1) | exact absurd (by assumption) (Int32.not_le.mpr y.2)) (by assumption))], rfl⟩
      · first | exact absurd (by decide) c21 | exact absurd c21 (by decide)
set_option maxRecDepth 100000 in
set_option maxHeartbeats 4000000 in
theorem c_X7_target_5 {g : G0} (hG : Gd g) (S : SS) (c : Nat) (s : Nat)  (h1 : 16 + 2 * c + s < 44) : ctv g mX7_target [.ref 5, .int (nI c), .int (nI s)] (mixW g S) (.int (presF ((z_TV S) 0) ((z_TV S) (16 + 2 * c + s)))) (mixW g S) := by
  refine ct_of hG [some (.ref 5), some (.int (nI c)), some (.int (nI s))] rfl rfl rfl (Nat.le_of_ble_eq_true rfl) (fun h => ?_) rfl
  refine q_aload_n dX7_target_0 rfl ?_
  refine q_aload_n dX7_target_1 rfl ?_
  refine q_iload_n dX7_target_2 rfl ?_
  refine q_iload_n dX7_target_3 rfl ?_
  refine q_callVv (ν := mX7_route) dX7_target_4 uw_347 vX7_route (c_X7_route_5 hG S (c) (s) (by omega)) (Nat.le_of_ble_eq_true rfl) rfl rfl rfl rfl (Nat.le_of_ble_eq_true rfl) (Nat.le_of_ble_eq_true rfl) (Nat.le_of_ble_eq_true rfl) 0 (Nat.le_of_ble_eq_true rfl) ?_
  refine q_callVv (ν := mX7_present) dX7_target_7 uw_351 vX7_present (c_X7_present_5 hG S ((((z_TV S) (16 + 2 * c + s))))) (Nat.le_of_ble_eq_true rfl) rfl rfl rfl rfl (Nat.le_of_ble_eq_true rfl) (Nat.le_of_ble_eq_true rfl) (Nat.le_of_ble_eq_true rfl) 0 (Nat.le_of_ble_eq_true rfl) ?_
  exact q_iret dX7_target_10 rfl ⟨rfl, rfl⟩
set_option maxRecDepth 100000 in
set_option maxHeartbeats 4000000 in
theorem c_X7_fedCell_5 {g : G0} (hG : Gd g) (S : SS)    : ctv g mX7_fedCell [.ref 5] (mixW g S) (.int ((z_TV S) 1)) (mixW g S) := by
  refine ct_of hG [some (.ref 5)] rfl rfl rfl (Nat.le_of_ble_eq_true rfl) (fun h => ?_) rfl
  refine q_aload_n dX7_fedCell_0 rfl ?_
  refine q_get (j := 0) (v := .ref 6) dX7_fedCell_1 (Nat.le_of_ble_eq_true rfl) rfl rfl iuX7 (Nat.le_of_ble_eq_true rfl) uw_87 rfl rfl ?_
  refine q_iconst (v := 1) dX7_fedCell_4 rfl ?_
  refine q_iald (f := (z_TV S)) dX7_fedCell_5 (Nat.le_of_ble_eq_true rfl) rfl (1) rfl (Nat.le_of_ble_eq_true rfl) (Nat.le_of_ble_eq_true rfl) ?_
  exact q_iret dX7_fedCell_6 rfl ⟨rfl, rfl⟩
set_option maxRecDepth 100000 in
set_option maxHeartbeats 4000000 in
theorem c_X7_feedTarget_5 {g : G0} (hG : Gd g) (S : SS)    : ctv g mX7_feedTarget [.ref 5] (mixW g S) (.int (presF ((z_TV S) 0) ((z_TV S) 1))) (mixW g S) := by
  refine ct_of hG [some (.ref 5)] rfl rfl rfl (Nat.le_of_ble_eq_true rfl) (fun h => ?_) rfl
  refine q_aload_n dX7_feedTarget_0 rfl ?_
  refine q_aload_n dX7_feedTarget_1 rfl ?_
  refine q_get (j := 0) (v := .ref 6) dX7_feedTarget_2 (Nat.le_of_ble_eq_true rfl) rfl rfl iuX7 (Nat.le_of_ble_eq_true rfl) uw_87 rfl rfl ?_
  refine q_iconst (v := 1) dX7_feedTarget_5 rfl ?_
  refine q_iald (f := (z_TV S)) dX7_feedTarget_6 (Nat.le_of_ble_eq_true rfl) rfl (1) rfl (Nat.le_of_ble_eq_true rfl) (Nat.le_of_ble_eq_true rfl) ?_
  refine q_callVv (ν := mX7_present) dX7_feedTarget_7 uw_351 vX7_present (c_X7_present_5 hG S ((((z_TV S) (1))))) (Nat.le_of_ble_eq_true rfl) rfl rfl rfl rfl (Nat.le_of_ble_eq_true rfl) (Nat.le_of_ble_eq_true rfl) (Nat.le_of_ble_eq_true rfl) 0 (Nat.le_of_ble_eq_true rfl) ?_
  exact q_iret dX7_feedTarget_10 rfl ⟨rfl, rfl⟩
set_option maxRecDepth 100000 in
set_option maxHeartbeats 4000000 in
theorem c_X7_feed_5 {g : G0} (hG : Gd g) (S : SS) (d : Nat)  (h1 : 2 + d < 44) : ctv g mX7_feed [.ref 5, .int (nI d)] (mixW g S) (.int ((z_TV S) (2 + d))) (mixW g S) := by
  refine ct_of hG [some (.ref 5), some (.int (nI d))] rfl rfl rfl (Nat.le_of_ble_eq_true rfl) (fun h => ?_) rfl
  refine q_aload_n dX7_feed_0 rfl ?_
  refine q_get (j := 0) (v := .ref 6) dX7_feed_1 (Nat.le_of_ble_eq_true rfl) rfl rfl iuX7 (Nat.le_of_ble_eq_true rfl) uw_87 rfl rfl ?_
  refine q_iconst (v := 2) dX7_feed_4 rfl ?_
  refine q_iload_n dX7_feed_5 rfl ?_
  refine q_iadd dX7_feed_6 ?_
  refine q_iald (f := (z_TV S)) dX7_feed_7 (Nat.le_of_ble_eq_true rfl) rfl ((2 + d)) (by simp only [fa_lit, pk_mul, nI_add]) (by omega) (Nat.le_of_ble_eq_true rfl) ?_
  exact q_iret dX7_feed_8 rfl ⟨rfl, rfl⟩
set_option maxRecDepth 100000 in
set_option maxHeartbeats 4000000 in
theorem c_X7_putFeed_5 {g : G0} (hG : Gd g) (S : SS) (x : Int32) (y : Int32) (z : Int32)   : ctu g mX7_putFeed [.ref 5, .int x, .int y, .int z] (mixW g S) (mixW g (s_TV S (upd (upd (upd (z_TV S) 1 x) 2 y) 3 z))) := by
  refine ct_of hG [some (.ref 5), some (.int (x)), some (.int (y)), some (.int (z))] rfl rfl rfl (Nat.le_of_ble_eq_true rfl) (fun h => ?_) rfl
  refine q_aload_n dX7_putFeed_0 rfl ?_
  refine q_get (j := 0) (v := .ref 6) dX7_putFeed_1 (Nat.le_of_ble_eq_true rfl) rfl rfl iuX7 (Nat.le_of_ble_eq_true rfl) uw_87 rfl rfl ?_
  refine q_iconst (v := 1) dX7_putFeed_4 rfl ?_
  refine q_iload_n dX7_putFeed_5 rfl ?_
  refine q_iast (f := (z_TV S)) dX7_putFeed_6 (Nat.le_of_ble_eq_true rfl) rfl (1) rfl (Nat.le_of_ble_eq_true rfl) (Nat.le_of_ble_eq_true rfl) ?_
  refine wp_w (u_TV g _ _) ?_
  refine q_aload_n dX7_putFeed_7 rfl ?_
  refine q_get (j := 0) (v := .ref 6) dX7_putFeed_8 (Nat.le_of_ble_eq_true rfl) rfl rfl iuX7 (Nat.le_of_ble_eq_true rfl) uw_87 rfl rfl ?_
  refine q_iconst (v := 2) dX7_putFeed_11 rfl ?_
  refine q_iload_n dX7_putFeed_12 rfl ?_
  refine q_iast (f := (upd (z_TV S) (1) (x))) dX7_putFeed_13 (Nat.le_of_ble_eq_true rfl) rfl (2) rfl (Nat.le_of_ble_eq_true rfl) (Nat.le_of_ble_eq_true rfl) ?_
  refine wp_w (u_TV g _ _) ?_
  rw [ss_TV]
  refine q_aload_n dX7_putFeed_14 rfl ?_
  refine q_get (j := 0) (v := .ref 6) dX7_putFeed_15 (Nat.le_of_ble_eq_true rfl) rfl rfl iuX7 (Nat.le_of_ble_eq_true rfl) uw_87 rfl rfl ?_
  refine q_iconst (v := 3) dX7_putFeed_18 rfl ?_
  refine q_iload_n dX7_putFeed_19 rfl ?_
  refine q_iast (f := (upd (upd (z_TV S) (1) (x)) (2) (y))) dX7_putFeed_20 (Nat.le_of_ble_eq_true rfl) rfl (3) rfl (Nat.le_of_ble_eq_true rfl) (Nat.le_of_ble_eq_true rfl) ?_
  refine wp_w (u_TV g _ _) ?_
  rw [ss_TV]
  exact q_vret dX7_putFeed_21 rfl ⟨rfl, rfl⟩
set_option maxRecDepth 100000 in
set_option maxHeartbeats 4000000 in
theorem c_X7_collected_5 {g : G0} (hG : Gd g) (S : SS) (p : Nat) (d : Nat)  (h1 : 8 ≤ p) (h2 : p ≤ 9) (h3 : d < 2) : ctv g mX7_collected [.ref 5, .int (nI p), .int (nI d)] (mixW g S) (.int ((z_TV S) (40 + 2 * (p - 8) + d))) (mixW g S) := by
  refine ct_of hG [some (.ref 5), some (.int (nI p)), some (.int (nI d))] rfl rfl rfl (Nat.le_of_ble_eq_true rfl) (fun h => ?_) rfl
  refine q_aload_n dX7_collected_0 rfl ?_
  refine q_get (j := 0) (v := .ref 6) dX7_collected_1 (Nat.le_of_ble_eq_true rfl) rfl rfl iuX7 (Nat.le_of_ble_eq_true rfl) uw_87 rfl rfl ?_
  refine q_bipush (v := 40) dX7_collected_4 rfl ?_
  refine q_iconst (v := 2) dX7_collected_6 rfl ?_
  refine q_iload_n dX7_collected_7 rfl ?_
  refine q_bipush (v := 8) dX7_collected_8 rfl ?_
  refine q_isub dX7_collected_10 ?_
  refine wp_eq (st2 := .int (nI (p - 8)) :: _) (by rw [show nI p - 8 = nI (p - 8) from pk_sub (b := 8) (by omega)]) ?_
  refine q_imul dX7_collected_11 ?_
  refine q_iadd dX7_collected_12 ?_
  refine q_iload_n dX7_collected_13 rfl ?_
  refine q_iadd dX7_collected_14 ?_
  refine q_iald (f := (z_TV S)) dX7_collected_15 (Nat.le_of_ble_eq_true rfl) rfl (((40 + (2 * (p - 8))) + d)) (by simp only [fa_lit, pk_mul, nI_add]) (by omega) (Nat.le_of_ble_eq_true rfl) ?_
  exact q_iret dX7_collected_16 rfl ⟨rfl, rfl⟩
set_option maxRecDepth 100000 in
set_option maxHeartbeats 4000000 in
theorem c_X7_collect_5 {g : G0} (hG : Gd g) (S : SS) (p : Nat) (d : Nat) (x : Int32)  (h1 : 8 ≤ p) (h2 : p ≤ 9) (h3 : d < 2) : ctu g mX7_collect [.ref 5, .int (nI p), .int (nI d), .int x] (mixW g S) (mixW g (s_TV S (upd (z_TV S) (40 + 2 * (p - 8) + d) ((z_TV S) (40 + 2 * (p - 8) + d) + x)))) := by
  refine ct_of hG [some (.ref 5), some (.int (nI p)), some (.int (nI d)), some (.int (x))] rfl rfl rfl (Nat.le_of_ble_eq_true rfl) (fun h => ?_) rfl
  refine q_aload_n dX7_collect_0 rfl ?_
  refine q_get (j := 0) (v := .ref 6) dX7_collect_1 (Nat.le_of_ble_eq_true rfl) rfl rfl iuX7 (Nat.le_of_ble_eq_true rfl) uw_87 rfl rfl ?_
  refine q_bipush (v := 40) dX7_collect_4 rfl ?_
  refine q_iconst (v := 2) dX7_collect_6 rfl ?_
  refine q_iload_n dX7_collect_7 rfl ?_
  refine q_bipush (v := 8) dX7_collect_8 rfl ?_
  refine q_isub dX7_collect_10 ?_
  refine wp_eq (st2 := .int (nI (p - 8)) :: _) (by rw [show nI p - 8 = nI (p - 8) from pk_sub (b := 8) (by omega)]) ?_
  refine q_imul dX7_collect_11 ?_
  refine q_iadd dX7_collect_12 ?_
  refine q_iload_n dX7_collect_13 rfl ?_
  refine q_iadd dX7_collect_14 ?_
  refine q_dup2_11 dX7_collect_15 rfl rfl ?_
  refine q_iald (f := (z_TV S)) dX7_collect_16 (Nat.le_of_ble_eq_true rfl) rfl (((40 + (2 * (p - 8))) + d)) (by simp only [fa_lit, pk_mul, nI_add]) (by omega) (Nat.le_of_ble_eq_true rfl) ?_
  refine q_iload_n dX7_collect_17 rfl ?_
  refine q_iadd dX7_collect_18 ?_
  refine q_iast (f := (z_TV S)) dX7_collect_19 (Nat.le_of_ble_eq_true rfl) rfl (((40 + (2 * (p - 8))) + d)) (by simp only [fa_lit, pk_mul, nI_add]) (by omega) (Nat.le_of_ble_eq_true rfl) ?_
  refine wp_w (u_TV g _ _) ?_
  exact q_vret dX7_collect_20 rfl ⟨rfl, rfl⟩
set_option maxRecDepth 100000 in
set_option maxHeartbeats 4000000 in
theorem c_X7_pushCell_5 {g : G0} (hG : Gd g) (S : SS) (a : Int32) (b : Int32) (x : Int32) (y : Int32) (n : Nat) (h1 : (z_TV S) 0 = nI n) (h2 : n < 6) : ctu g mX7_pushCell [.ref 5, .int a, .int b, .int x, .int y] (mixW g S) (mixW g (s_TV S (pushF (z_TV S) n a b x y))) := by
  refine ct_of hG [some (.ref 5), some (.int (a)), some (.int (b)), some (.int (x)), some (.int (y)), none] rfl rfl rfl (Nat.le_of_ble_eq_true rfl) (fun h => ?_) rfl
  refine q_aload_n dX7_pushCell_0 rfl ?_
  refine q_get (j := 0) (v := .ref 6) dX7_pushCell_1 (Nat.le_of_ble_eq_true rfl) rfl rfl iuX7 (Nat.le_of_ble_eq_true rfl) uw_87 rfl rfl ?_
  refine q_iconst (v := 0) dX7_pushCell_4 rfl ?_
  refine q_iald (f := (z_TV S)) dX7_pushCell_5 (Nat.le_of_ble_eq_true rfl) rfl (0) rfl (Nat.le_of_ble_eq_true rfl) (Nat.le_of_ble_eq_true rfl) ?_
  rw [h1]
  refine q_ist5 dX7_pushCell_6 (Nat.le_of_ble_eq_true rfl) rfl ?_
  refine q_iload dX7_pushCell_8 rfl ?_
  refine q_bipush (v := 6) dX7_pushCell_10 rfl ?_
  refine q_icmp_lt 16 dX7_pushCell_12 rfl (fun c12 => ?_) (fun c12 => ?_)
  · have n12 := (nI_ltI (a := n) (b := 6) (by omega) (by omega)).mp c12
    refine q_aload_n dX7_pushCell_16 rfl ?_
    refine q_iload dX7_pushCell_17 rfl ?_
    refine q_iconst (v := 0) dX7_pushCell_19 rfl ?_
    refine q_iload_n dX7_pushCell_20 rfl ?_
    refine q_callVu (ν := mX7_putPercent) dX7_pushCell_21 uw_600 vX7_putPercent (c_X7_putPercent_5 hG S (n) (0) (a) (by omega)) (Nat.le_of_ble_eq_true rfl) rfl rfl rfl rfl (Nat.le_of_ble_eq_true rfl) (Nat.le_of_ble_eq_true rfl) (Nat.le_of_ble_eq_true rfl) 0 (Nat.le_of_ble_eq_true rfl) ?_
    refine wp_w (w2 := mixW g (s_TV S (upd (z_TV S) (4 + 2 * n + 0) a))) rfl ?_
    refine q_aload_n dX7_pushCell_24 rfl ?_
    refine q_iload dX7_pushCell_25 rfl ?_
    refine q_iconst (v := 1) dX7_pushCell_27 rfl ?_
    refine q_iload_n dX7_pushCell_28 rfl ?_
    refine q_callVu (ν := mX7_putPercent) dX7_pushCell_29 uw_600 vX7_putPercent (c_X7_putPercent_5 hG (s_TV S (upd (z_TV S) (4 + 2 * n + 0) a)) (n) (1) (b) (by omega)) (Nat.le_of_ble_eq_true rfl) rfl rfl rfl rfl (Nat.le_of_ble_eq_true rfl) (Nat.le_of_ble_eq_true rfl) (Nat.le_of_ble_eq_true rfl) 0 (Nat.le_of_ble_eq_true rfl) ?_
    rw [ss_TV]
    refine wp_w (w2 := mixW g (s_TV S (upd (upd (z_TV S) (4 + 2 * n + 0) a) (4 + 2 * n + 1) b))) rfl ?_
    refine q_aload_n dX7_pushCell_32 rfl ?_
    refine q_iload dX7_pushCell_33 rfl ?_
    refine q_iconst (v := 0) dX7_pushCell_35 rfl ?_
    refine q_iload_n dX7_pushCell_36 rfl ?_
    refine q_callVu (ν := mX7_putRoute) dX7_pushCell_37 uw_601 vX7_putRoute (c_X7_putRoute_5 hG (s_TV S (upd (upd (z_TV S) (4 + 2 * n + 0) a) (4 + 2 * n + 1) b)) (n) (0) (x) (by omega)) (Nat.le_of_ble_eq_true rfl) rfl rfl rfl rfl (Nat.le_of_ble_eq_true rfl) (Nat.le_of_ble_eq_true rfl) (Nat.le_of_ble_eq_true rfl) 0 (Nat.le_of_ble_eq_true rfl) ?_
    rw [ss_TV]
    refine wp_w (w2 := mixW g (s_TV S (upd (upd (upd (z_TV S) (4 + 2 * n + 0) a) (4 + 2 * n + 1) b) (16 + 2 * n + 0) x))) rfl ?_
    refine q_aload_n dX7_pushCell_40 rfl ?_
    refine q_iload dX7_pushCell_41 rfl ?_
    refine q_iconst (v := 1) dX7_pushCell_43 rfl ?_
    refine q_iload dX7_pushCell_44 rfl ?_
    refine q_callVu (ν := mX7_putRoute) dX7_pushCell_46 uw_601 vX7_putRoute (c_X7_putRoute_5 hG (s_TV S (upd (upd (upd (z_TV S) (4 + 2 * n + 0) a) (4 + 2 * n + 1) b) (16 + 2 * n + 0) x)) (n) (1) (y) (by omega)) (Nat.le_of_ble_eq_true rfl) rfl rfl rfl rfl (Nat.le_of_ble_eq_true rfl) (Nat.le_of_ble_eq_true rfl) (Nat.le_of_ble_eq_true rfl) 0 (Nat.le_of_ble_eq_true rfl) ?_
    rw [ss_TV]
    refine wp_w (w2 := mixW g (s_TV S (upd (upd (upd (upd (z_TV S) (4 + 2 * n + 0) a) (4 + 2 * n + 1) b) (16 + 2 * n + 0) x) (16 + 2 * n + 1) y))) rfl ?_
    refine q_aload_n dX7_pushCell_49 rfl ?_
    refine q_iload dX7_pushCell_50 rfl ?_
    refine q_iconst (v := 0) dX7_pushCell_52 rfl ?_
    refine q_iconst (v := 0) dX7_pushCell_53 rfl ?_
    refine q_callVu (ν := mX7_putHeld) dX7_pushCell_54 uw_605 vX7_putHeld (c_X7_putHeld_5 hG (s_TV S (upd (upd (upd (upd (z_TV S) (4 + 2 * n + 0) a) (4 + 2 * n + 1) b) (16 + 2 * n + 0) x) (16 + 2 * n + 1) y)) (n) (0) (0) (by omega)) (Nat.le_of_ble_eq_true rfl) rfl rfl rfl rfl (Nat.le_of_ble_eq_true rfl) (Nat.le_of_ble_eq_true rfl) (Nat.le_of_ble_eq_true rfl) 0 (Nat.le_of_ble_eq_true rfl) ?_
    rw [ss_TV]
    refine wp_w (w2 := mixW g (s_TV S (upd (upd (upd (upd (upd (z_TV S) (4 + 2 * n + 0) a) (4 + 2 * n + 1) b) (16 + 2 * n + 0) x) (16 + 2 * n + 1) y) (28 + 2 * n + 0) 0))) rfl ?_
    refine q_aload_n dX7_pushCell_57 rfl ?_
    refine q_iload dX7_pushCell_58 rfl ?_
    refine q_iconst (v := 1) dX7_pushCell_60 rfl ?_
    refine q_iconst (v := 0) dX7_pushCell_61 rfl ?_
    refine q_callVu (ν := mX7_putHeld) dX7_pushCell_62 uw_605 vX7_putHeld (c_X7_putHeld_5 hG (s_TV S (upd (upd (upd (upd (upd (z_TV S) (4 + 2 * n + 0) a) (4 + 2 * n + 1) b) (16 + 2 * n + 0) x) (16 + 2 * n + 1) y) (28 + 2 * n + 0) 0)) (n) (1) (0) (by omega)) (Nat.le_of_ble_eq_true rfl) rfl rfl rfl rfl (Nat.le_of_ble_eq_true rfl) (Nat.le_of_ble_eq_true rfl) (Nat.le_of_ble_eq_true rfl) 0 (Nat.le_of_ble_eq_true rfl) ?_
    rw [ss_TV]
    refine wp_w (w2 := mixW g (s_TV S (upd (upd (upd (upd (upd (upd (z_TV S) (4 + 2 * n + 0) a) (4 + 2 * n + 1) b) (16 + 2 * n + 0) x) (16 + 2 * n + 1) y) (28 + 2 * n + 0) 0) (28 + 2 * n + 1) 0))) rfl ?_
    refine q_aload_n dX7_pushCell_65 rfl ?_
    refine q_get (j := 0) (v := .ref 6) dX7_pushCell_66 (Nat.le_of_ble_eq_true rfl) rfl rfl iuX7 (Nat.le_of_ble_eq_true rfl) uw_87 rfl rfl ?_
    refine q_iconst (v := 0) dX7_pushCell_69 rfl ?_
    refine q_iload dX7_pushCell_70 rfl ?_
    refine q_iconst (v := 1) dX7_pushCell_72 rfl ?_
    refine q_iadd dX7_pushCell_73 ?_
    refine q_iast (f := (upd (upd (upd (upd (upd (upd (z_TV S) (4 + 2 * n + 0) a) (4 + 2 * n + 1) b) (16 + 2 * n + 0) x) (16 + 2 * n + 1) y) (28 + 2 * n + 0) 0) (28 + 2 * n + 1) 0)) dX7_pushCell_74 (Nat.le_of_ble_eq_true rfl) rfl (0) rfl (Nat.le_of_ble_eq_true rfl) (Nat.le_of_ble_eq_true rfl) ?_
    refine wp_w (u_TV g _ _) ?_
    rw [ss_TV]
    exact q_vret dX7_pushCell_75 rfl ⟨rfl, rfl⟩
  · have n12 := mt (nI_ltI (a := n) (b := 6) (by omega) (by omega)).mpr c12
    omega
set_option maxRecDepth 100000 in
set_option maxHeartbeats 4000000 in
theorem c_X7_popCell_5 {g : G0} (hG : Gd g) (S : SS)  (n : Nat) (h1 : (z_TV S) 0 = nI n) (h2 : 0 < n) (h3 : n < 7) : ctu g mX7_popCell [.ref 5] (mixW g S) (mixW g (s_TV S (upd (z_TV S) 0 (nI n - 1)))) := by
  refine ct_of hG [some (.ref 5)] rfl rfl rfl (Nat.le_of_ble_eq_true rfl) (fun h => ?_) rfl
  refine q_aload_n dX7_popCell_0 rfl ?_
  refine q_get (j := 0) (v := .ref 6) dX7_popCell_1 (Nat.le_of_ble_eq_true rfl) rfl rfl iuX7 (Nat.le_of_ble_eq_true rfl) uw_87 rfl rfl ?_
  refine q_iconst (v := 0) dX7_popCell_4 rfl ?_
  refine q_iald (f := (z_TV S)) dX7_popCell_5 (Nat.le_of_ble_eq_true rfl) rfl (0) rfl (Nat.le_of_ble_eq_true rfl) (Nat.le_of_ble_eq_true rfl) ?_
  rw [h1]
  refine q_if_le 19 dX7_popCell_6 rfl (fun c6 => ?_) (fun c6 => ?_)
  · have n6 := (nI_leI (a := n) (b := 0) (by omega) (by omega)).mp c6
    omega
  · have n6 := mt (nI_leI (a := n) (b := 0) (by omega) (by omega)).mpr c6
    refine q_aload_n dX7_popCell_9 rfl ?_
    refine q_get (j := 0) (v := .ref 6) dX7_popCell_10 (Nat.le_of_ble_eq_true rfl) rfl rfl iuX7 (Nat.le_of_ble_eq_true rfl) uw_87 rfl rfl ?_
    refine q_iconst (v := 0) dX7_popCell_13 rfl ?_
    refine q_dup2_11 dX7_popCell_14 rfl rfl ?_
    refine q_iald (f := (z_TV S)) dX7_popCell_15 (Nat.le_of_ble_eq_true rfl) rfl (0) rfl (Nat.le_of_ble_eq_true rfl) (Nat.le_of_ble_eq_true rfl) ?_
    rw [h1]
    refine q_iconst (v := 1) dX7_popCell_16 rfl ?_
    refine q_isub dX7_popCell_17 ?_
    refine q_iast (f := (z_TV S)) dX7_popCell_18 (Nat.le_of_ble_eq_true rfl) rfl (0) rfl (Nat.le_of_ble_eq_true rfl) (Nat.le_of_ble_eq_true rfl) ?_
    refine wp_w (u_TV g _ _) ?_
    exact q_vret dX7_popCell_19 rfl ⟨rfl, rfl⟩
set_option maxRecDepth 100000 in
set_option maxHeartbeats 4000000 in
theorem c_X7_dropCells_5 {g : G0} (hG : Gd g) (S : SS)    : ctu g mX7_dropCells [.ref 5] (mixW g S) (mixW g (s_TV S (upd (z_TV S) 0 0))) := by
  refine ct_of hG [some (.ref 5)] rfl rfl rfl (Nat.le_of_ble_eq_true rfl) (fun h => ?_) rfl
  refine q_aload_n dX7_dropCells_0 rfl ?_
  refine q_get (j := 0) (v := .ref 6) dX7_dropCells_1 (Nat.le_of_ble_eq_true rfl) rfl rfl iuX7 (Nat.le_of_ble_eq_true rfl) uw_87 rfl rfl ?_
  refine q_iconst (v := 0) dX7_dropCells_4 rfl ?_
  refine q_iconst (v := 0) dX7_dropCells_5 rfl ?_
  refine q_iast (f := (z_TV S)) dX7_dropCells_6 (Nat.le_of_ble_eq_true rfl) rfl (0) rfl (Nat.le_of_ble_eq_true rfl) (Nat.le_of_ble_eq_true rfl) ?_
  refine wp_w (u_TV g _ _) ?_
  exact q_vret dX7_dropCells_7 rfl ⟨rfl, rfl⟩
set_option maxRecDepth 100000 in
set_option maxHeartbeats 4000000 in
theorem c_X7_copyFrom_5 {g : G0} (hG : Gd g) (S : SS)    : ctu g mX7_copyFrom [.ref 5, .ref 3] (mixW g S) (mixW g (s_TV S (va_cpy (z_SV S) (z_TV S) 0 0 44))) := by
  refine ct_of hG [some (.ref 5), some (.ref 3)] rfl rfl rfl (Nat.le_of_ble_eq_true rfl) (fun h => ?_) rfl
  refine q_aload_n dX7_copyFrom_0 rfl ?_
  refine q_get (j := 0) (v := .ref 4) dX7_copyFrom_1 (Nat.le_of_ble_eq_true rfl) rfl rfl iuX7 (Nat.le_of_ble_eq_true rfl) uw_87 rfl rfl ?_
  refine q_iconst (v := 0) dX7_copyFrom_4 rfl ?_
  refine q_aload_n dX7_copyFrom_5 rfl ?_
  refine q_get (j := 0) (v := .ref 6) dX7_copyFrom_6 (Nat.le_of_ble_eq_true rfl) rfl rfl iuX7 (Nat.le_of_ble_eq_true rfl) uw_87 rfl rfl ?_
  refine q_iconst (v := 0) dX7_copyFrom_9 rfl ?_
  refine q_bipush (v := 44) dX7_copyFrom_10 rfl ?_
  refine q_copy (f := (z_SV S)) (f2 := (z_TV S)) dX7_copyFrom_12 uw_447 uw_306 uw_305 uw_56 (Nat.le_of_ble_eq_true rfl) (Nat.le_of_ble_eq_true rfl) rfl rfl (0) (0) (44) rfl rfl rfl (by omega) (by omega) ⟨(Nat.le_of_ble_eq_true rfl), (Nat.le_of_ble_eq_true rfl), (Nat.le_of_ble_eq_true rfl)⟩ (Nat.le_of_ble_eq_true rfl) (Nat.le_of_ble_eq_true rfl) ?_
  refine wp_w (u_TV g _ _) ?_
  exact q_vret dX7_copyFrom_15 rfl ⟨rfl, rfl⟩
