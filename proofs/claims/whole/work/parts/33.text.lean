def isDig (c : Nat) : Prop := 48 ≤ c ∧ c ≤ 57
def isCD (c : Nat) : Prop := 48 ≤ c ∧ c ≤ 53
def allowC (p c : Nat) : Prop := if p = 0 then c = 67 else if p < 5 then isDig c else isCD c ∨ c = 56 ∨ c = 57
def allow (a c : Nat) : Prop := if a = 0 then c = 70 else if a = 1 then isCD c else if a < 8 then isDig c else a - 8 < 42 ∧ allowC ((a - 8) % 7) c
noncomputable def pI (p : Prop) : Int32 := @ite _ p (Classical.propDecidable p) 1 0
theorem pI_t {p : Prop} (h : p) : pI p = 1 := @if_pos p (Classical.propDecidable p) h _ _ _
theorem pI_f {p : Prop} (h : ¬ p) : pI p = 0 := @if_neg p (Classical.propDecidable p) h _ _ _
theorem pI_0 {p : Prop} (h : pI p = 0) : ¬ p := fun z => absurd ((pI_t z).symm.trans h) (by decide)
theorem pI_1 {p : Prop} (h : ¬ pI p = 0) : p := by by_cases z : p; exact z; exact absurd (pI_f z) h
theorem pI_z {p : Prop} : narrow .boolean (.int (pI p)) = .int (pI p) := by by_cases z : p; rw [pI_t z]; rfl; rw [pI_f z]; rfl
theorem pI_iff {p q : Prop} (h : p ↔ q) : pI p = pI q := by by_cases z : p; rw [pI_t z, pI_t (h.mp z)]; rw [pI_f z, pI_f (fun y => z (h.mpr y))]
noncomputable def feF (t : Nat → Nat) (len : Nat) : Nat → Int32
  | 0 => if 8 ≤ len ∧ (len - 8) % 7 = 0 then -9 else nI len
  | n + 1 => if pI (allow (len - (n + 1)) (t (len - (n + 1)))) = 1 then feF t len n else nI (len - (n + 1))
theorem feF_t {t : Nat → Nat} {len n : Nat} (h : allow (len - (n + 1)) (t (len - (n + 1)))) : feF t len (n + 1) = feF t len n := if_pos (pI_t h)
theorem feF_f {t : Nat → Nat} {len n : Nat} (h : ¬ allow (len - (n + 1)) (t (len - (n + 1)))) : feF t len (n + 1) = nI (len - (n + 1)) := if_neg (by rw [pI_f h]; decide)
def dN (t : Nat → Nat) (a : Nat) : Nat → Nat
  | 0 => 0
  | k + 1 => 10 * dN t a k + (t (a + k) - 48)
def rdF (t : Nat → Nat) (f : Nat → Int32) : Nat → Nat → Int32
  | 0 => upd (upd (upd (zerF (upd f 0 0) 44) 1 (nI (dN t 1 1))) 2 (nI (dN t 2 3))) 3 (nI (dN t 5 3))
  | i + 1 => pushF (rdF t f i) i (nI (dN t (8 + 7 * i + 1) 2)) (nI (dN t (8 + 7 * i + 3) 2)) (nI (dN t (8 + 7 * i + 5) 1)) (nI (dN t (8 + 7 * i + 6) 1))
theorem rdF_0 (t : Nat → Nat) (f : Nat → Int32) : ∀ i, rdF t f i 0 = nI i
  | 0 => by simp [rdF, upd, zerF]; rfl
  | i + 1 => by simp only [rdF, pushF, upd, if_true]; exact nI_1 i
set_option maxRecDepth 100000 in
set_option maxHeartbeats 4000000 in
theorem c_X1_isDigit {g : G0} (hG : Gd g) (S : SS) (c : Nat)  (h1 : c < 65536) : ctv g mX1_isDigit [.int (nI c)] (mixW g S) (.int (pI (isDig c))) (mixW g S) := by
  refine ct_of hG [some (.int (nI c))] rfl rfl rfl (Nat.le_of_ble_eq_true rfl) (fun h => ?_) rfl
  refine q_iload_n dX1_isDigit_0 rfl ?_
  refine q_bipush (v := 48) dX1_isDigit_1 rfl ?_
  refine q_icmp_lt 16 dX1_isDigit_3 rfl (fun c3 => ?_) (fun c3 => ?_)
  · have n3 := (nI_ltI (a := c) (b := 48) (by omega) (by omega)).mp c3
    refine q_iconst (v := 0) dX1_isDigit_16 rfl ?_
    exact q_zret dX1_isDigit_17 rfl rfl ⟨by rw [pI_f (by unfold isDig; omega)], rfl⟩
  · have n3 := mt (nI_ltI (a := c) (b := 48) (by omega) (by omega)).mpr c3
    refine q_iload_n dX1_isDigit_6 rfl ?_
    refine q_bipush (v := 57) dX1_isDigit_7 rfl ?_
    refine q_icmp_gt 16 dX1_isDigit_9 rfl (fun c9 => ?_) (fun c9 => ?_)
    · have n9 := (nI_ltI (a := 57) (b := c) (by omega) (by omega)).mp c9
      refine q_iconst (v := 0) dX1_isDigit_16 rfl ?_
      exact q_zret dX1_isDigit_17 rfl rfl ⟨by rw [pI_f (by unfold isDig; omega)], rfl⟩
    · have n9 := mt (nI_ltI (a := 57) (b := c) (by omega) (by omega)).mpr c9
      refine q_iconst (v := 1) dX1_isDigit_12 rfl ?_
      refine q_goto 17 dX1_isDigit_13 rfl ?_
      exact q_zret dX1_isDigit_17 rfl rfl ⟨by rw [pI_t (by unfold isDig; omega)], rfl⟩
set_option maxRecDepth 100000 in
set_option maxHeartbeats 4000000 in
theorem c_X1_isCellDigit {g : G0} (hG : Gd g) (S : SS) (c : Nat)  (h1 : c < 65536) : ctv g mX1_isCellDigit [.int (nI c)] (mixW g S) (.int (pI (isCD c))) (mixW g S) := by
  refine ct_of hG [some (.int (nI c))] rfl rfl rfl (Nat.le_of_ble_eq_true rfl) (fun h => ?_) rfl
  refine q_iload_n dX1_isCellDigit_0 rfl ?_
  refine q_bipush (v := 48) dX1_isCellDigit_1 rfl ?_
  refine q_icmp_lt 16 dX1_isCellDigit_3 rfl (fun c3 => ?_) (fun c3 => ?_)
  · have n3 := (nI_ltI (a := c) (b := 48) (by omega) (by omega)).mp c3
    refine q_iconst (v := 0) dX1_isCellDigit_16 rfl ?_
    exact q_zret dX1_isCellDigit_17 rfl rfl ⟨by rw [pI_f (by unfold isCD; omega)], rfl⟩
  · have n3 := mt (nI_ltI (a := c) (b := 48) (by omega) (by omega)).mpr c3
    refine q_iload_n dX1_isCellDigit_6 rfl ?_
    refine q_bipush (v := 53) dX1_isCellDigit_7 rfl ?_
    refine q_icmp_gt 16 dX1_isCellDigit_9 rfl (fun c9 => ?_) (fun c9 => ?_)
    · have n9 := (nI_ltI (a := 53) (b := c) (by omega) (by omega)).mp c9
      refine q_iconst (v := 0) dX1_isCellDigit_16 rfl ?_
      exact q_zret dX1_isCellDigit_17 rfl rfl ⟨by rw [pI_f (by unfold isCD; omega)], rfl⟩
    · have n9 := mt (nI_ltI (a := 53) (b := c) (by omega) (by omega)).mpr c9
      refine q_iconst (v := 1) dX1_isCellDigit_12 rfl ?_
      refine q_goto 17 dX1_isCellDigit_13 rfl ?_
      exact q_zret dX1_isCellDigit_17 rfl rfl ⟨by rw [pI_t (by unfold isCD; omega)], rfl⟩
set_option maxRecDepth 100000 in
set_option maxHeartbeats 4000000 in
theorem c_X1_isAllowedInCell {g : G0} (hG : Gd g) (S : SS) (a : Nat) (c : Nat)  (h1 : a < 7) (h2 : c < 65536) : ctv g mX1_isAllowedInCell [.int (nI a), .int (nI c)] (mixW g S) (.int (pI (allowC a c))) (mixW g S) := by
  refine ct_of hG [some (.int (nI a)), some (.int (nI c))] rfl rfl rfl (Nat.le_of_ble_eq_true rfl) (fun h => ?_) rfl
  refine q_iload_n dX1_isAllowedInCell_0 rfl ?_
  refine q_if_ne 16 dX1_isAllowedInCell_1 rfl (fun c1 => ?_) (fun c1 => ?_)
  · have n1 := mt (nI_eq (a := a) (b := 0) (by omega) (by omega)).mpr c1
    refine q_iload_n dX1_isAllowedInCell_16 rfl ?_
    refine q_iconst (v := 5) dX1_isAllowedInCell_17 rfl ?_
    refine q_icmp_ge 28 dX1_isAllowedInCell_18 rfl (fun c18 => ?_) (fun c18 => ?_)
    · have n18 := (nI_leI (a := 5) (b := a) (by omega) (by omega)).mp c18
      refine q_iload_n dX1_isAllowedInCell_28 rfl ?_
      refine q_callSv (ν := mX1_isCellDigit) dX1_isAllowedInCell_29 uw_267 vX1_isCellDigit (c_X1_isCellDigit hG S (c) (by omega)) rfl rfl (Nat.le_of_ble_eq_true rfl) (Nat.le_of_ble_eq_true rfl) (Nat.le_of_ble_eq_true rfl) 0 (Nat.le_of_ble_eq_true rfl) ?_
      refine q_if_ne 47 dX1_isAllowedInCell_32 rfl (fun c32 => ?_) (fun c32 => ?_)
      · refine q_iconst (v := 1) dX1_isAllowedInCell_47 rfl ?_
        refine q_goto 52 dX1_isAllowedInCell_48 rfl ?_
        exact q_zret dX1_isAllowedInCell_52 rfl rfl ⟨by rw [pI_t (by unfold allowC; rw [if_neg n1, if_neg (by omega)]; first | exact Or.inl (pI_1 c32) | (unfold isCD; omega))], rfl⟩
      · refine q_iload_n dX1_isAllowedInCell_35 rfl ?_
        refine q_bipush (v := 56) dX1_isAllowedInCell_36 rfl ?_
        refine q_icmp_eq 47 dX1_isAllowedInCell_38 rfl (fun c38 => ?_) (fun c38 => ?_)
        · have n38 := (nI_eq (a := c) (b := 56) (by omega) (by omega)).mp c38
          refine q_iconst (v := 1) dX1_isAllowedInCell_47 rfl ?_
          refine q_goto 52 dX1_isAllowedInCell_48 rfl ?_
          exact q_zret dX1_isAllowedInCell_52 rfl rfl ⟨by rw [pI_t (by unfold allowC; rw [if_neg n1, if_neg (by omega)]; first | exact Or.inl (pI_1 c32) | (unfold isCD; omega))], rfl⟩
        · have n38 := mt (nI_eq (a := c) (b := 56) (by omega) (by omega)).mpr c38
          refine q_iload_n dX1_isAllowedInCell_41 rfl ?_
          refine q_bipush (v := 57) dX1_isAllowedInCell_42 rfl ?_
          refine q_icmp_ne 51 dX1_isAllowedInCell_44 rfl (fun c44 => ?_) (fun c44 => ?_)
          · have n44 := mt (nI_eq (a := c) (b := 57) (by omega) (by omega)).mpr c44
            refine q_iconst (v := 0) dX1_isAllowedInCell_51 rfl ?_
            exact q_zret dX1_isAllowedInCell_52 rfl rfl ⟨by rw [pI_f (by unfold allowC; rw [if_neg n1, if_neg (by omega)]; have := pI_0 c32; unfold isCD at *; omega)], rfl⟩
          · have n44 := (nI_eq (a := c) (b := 57) (by omega) (by omega)).mp c44
            refine q_iconst (v := 1) dX1_isAllowedInCell_47 rfl ?_
            refine q_goto 52 dX1_isAllowedInCell_48 rfl ?_
            exact q_zret dX1_isAllowedInCell_52 rfl rfl ⟨by rw [pI_t (by unfold allowC; rw [if_neg n1, if_neg (by omega)]; first | exact Or.inl (pI_1 c32) | (unfold isCD; omega))], rfl⟩
    · have n18 := mt (nI_leI (a := 5) (b := a) (by omega) (by omega)).mpr c18
      refine q_iload_n dX1_isAllowedInCell_21 rfl ?_
      refine q_callSv (ν := mX1_isDigit) dX1_isAllowedInCell_22 uw_270 vX1_isDigit (c_X1_isDigit hG S (c) (by omega)) rfl rfl (Nat.le_of_ble_eq_true rfl) (Nat.le_of_ble_eq_true rfl) (Nat.le_of_ble_eq_true rfl) 0 (Nat.le_of_ble_eq_true rfl) ?_
      refine q_goto 52 dX1_isAllowedInCell_25 rfl ?_
      exact q_zret dX1_isAllowedInCell_52 rfl pI_z ⟨by unfold allowC; rw [if_neg n1, if_pos (by omega)], rfl⟩
  · have n1 := (nI_eq (a := a) (b := 0) (by omega) (by omega)).mp c1
    refine q_iload_n dX1_isAllowedInCell_4 rfl ?_
    refine q_bipush (v := 67) dX1_isAllowedInCell_5 rfl ?_
    refine q_icmp_ne 14 dX1_isAllowedInCell_7 rfl (fun c7 => ?_) (fun c7 => ?_)
    · have n7 := mt (nI_eq (a := c) (b := 67) (by omega) (by omega)).mpr c7
      refine q_iconst (v := 0) dX1_isAllowedInCell_14 rfl ?_
      exact q_zret dX1_isAllowedInCell_15 rfl rfl ⟨by rw [pI_f (by unfold allowC; rw [if_pos n1]; omega)], rfl⟩
    · have n7 := (nI_eq (a := c) (b := 67) (by omega) (by omega)).mp c7
      refine q_iconst (v := 1) dX1_isAllowedInCell_10 rfl ?_
      refine q_goto 15 dX1_isAllowedInCell_11 rfl ?_
      exact q_zret dX1_isAllowedInCell_15 rfl rfl ⟨by rw [pI_t (by unfold allowC; rw [if_pos n1]; omega)], rfl⟩
set_option maxRecDepth 100000 in
set_option maxHeartbeats 4000000 in
theorem c_X1_isAllowed {g : G0} (hG : Gd g) (S : SS) (a : Nat) (c : Nat)  (h1 : a < 65536) (h2 : c < 65536) : ctv g mX1_isAllowed [.int (nI a), .int (nI c)] (mixW g S) (.int (pI (allow a c))) (mixW g S) := by
  refine ct_of hG [some (.int (nI a)), some (.int (nI c)), none] rfl rfl rfl (Nat.le_of_ble_eq_true rfl) (fun h => ?_) rfl
  refine q_iload_n dX1_isAllowed_0 rfl ?_
  refine q_if_ne 16 dX1_isAllowed_1 rfl (fun c1 => ?_) (fun c1 => ?_)
  · have n1 := mt (nI_eq (a := a) (b := 0) (by omega) (by omega)).mpr c1
    refine q_iload_n dX1_isAllowed_16 rfl ?_
    refine q_iconst (v := 1) dX1_isAllowed_17 rfl ?_
    refine q_icmp_ne 26 dX1_isAllowed_18 rfl (fun c18 => ?_) (fun c18 => ?_)
    · have n18 := mt (nI_eq (a := a) (b := 1) (by omega) (by omega)).mpr c18
      refine q_iload_n dX1_isAllowed_26 rfl ?_
      refine q_bipush (v := 8) dX1_isAllowed_27 rfl ?_
      refine q_icmp_ge 37 dX1_isAllowed_29 rfl (fun c29 => ?_) (fun c29 => ?_)
      · have n29 := (nI_leI (a := 8) (b := a) (by omega) (by omega)).mp c29
        refine q_iload_n dX1_isAllowed_37 rfl ?_
        refine q_bipush (v := 8) dX1_isAllowed_38 rfl ?_
        refine q_isub dX1_isAllowed_40 ?_
        refine wp_top (y := nI (a - 8)) (pk_sub (a := a) (b := 8) (by omega)) ?_
        refine q_ist2 dX1_isAllowed_41 (Nat.le_of_ble_eq_true rfl) rfl ?_
        refine q_iload_n dX1_isAllowed_42 rfl ?_
        refine q_bipush (v := 42) dX1_isAllowed_43 rfl ?_
        refine q_icmp_ge 63 dX1_isAllowed_45 rfl (fun c45 => ?_) (fun c45 => ?_)
        · have n45 := (nI_leI (a := 42) (b := (a - 8)) (by omega) (by omega)).mp c45
          refine q_iconst (v := 0) dX1_isAllowed_63 rfl ?_
          exact q_zret dX1_isAllowed_64 rfl rfl ⟨by rw [pI_f (by unfold allow; rw [if_neg n1, if_neg n18, if_neg (by omega)]; first | exact fun z => pI_0 c56 z.2 | omega)], rfl⟩
        · have n45 := mt (nI_leI (a := 42) (b := (a - 8)) (by omega) (by omega)).mpr c45
          refine q_iload_n dX1_isAllowed_48 rfl ?_
          refine q_bipush (v := 7) dX1_isAllowed_49 rfl ?_
          refine q_irem dX1_isAllowed_51 (by decide) ?_
          refine wp_top (y := nI ((a - 8) % 7)) (pk_rem (d := 7) (by omega) (by omega) (by omega)) ?_
          refine q_iload_n dX1_isAllowed_52 rfl ?_
          refine q_callSv (ν := mX1_isAllowedInCell) dX1_isAllowed_53 uw_273 vX1_isAllowedInCell (c_X1_isAllowedInCell hG S (((a - 8) % 7)) (c) (by omega) (by omega)) rfl rfl (Nat.le_of_ble_eq_true rfl) (Nat.le_of_ble_eq_true rfl) (Nat.le_of_ble_eq_true rfl) 0 (Nat.le_of_ble_eq_true rfl) ?_
          refine q_if_eq 63 dX1_isAllowed_56 rfl (fun c56 => ?_) (fun c56 => ?_)
          · refine q_iconst (v := 0) dX1_isAllowed_63 rfl ?_
            exact q_zret dX1_isAllowed_64 rfl rfl ⟨by rw [pI_f (by unfold allow; rw [if_neg n1, if_neg n18, if_neg (by omega)]; first | exact fun z => pI_0 c56 z.2 | omega)], rfl⟩
          · refine q_iconst (v := 1) dX1_isAllowed_59 rfl ?_
            refine q_goto 64 dX1_isAllowed_60 rfl ?_
            exact q_zret dX1_isAllowed_64 rfl rfl ⟨by rw [pI_t (by unfold allow; rw [if_neg n1, if_neg n18, if_neg (by omega)]; exact ⟨by omega, pI_1 c56⟩)], rfl⟩
      · have n29 := mt (nI_leI (a := 8) (b := a) (by omega) (by omega)).mpr c29
        refine q_iload_n dX1_isAllowed_32 rfl ?_
        refine q_callSv (ν := mX1_isDigit) dX1_isAllowed_33 uw_270 vX1_isDigit (c_X1_isDigit hG S (c) (by omega)) rfl rfl (Nat.le_of_ble_eq_true rfl) (Nat.le_of_ble_eq_true rfl) (Nat.le_of_ble_eq_true rfl) 0 (Nat.le_of_ble_eq_true rfl) ?_
        exact q_zret dX1_isAllowed_36 rfl pI_z ⟨by unfold allow; rw [if_neg n1, if_neg n18, if_pos (by omega)], rfl⟩
    · have n18 := (nI_eq (a := a) (b := 1) (by omega) (by omega)).mp c18
      refine q_iload_n dX1_isAllowed_21 rfl ?_
      refine q_callSv (ν := mX1_isCellDigit) dX1_isAllowed_22 uw_267 vX1_isCellDigit (c_X1_isCellDigit hG S (c) (by omega)) rfl rfl (Nat.le_of_ble_eq_true rfl) (Nat.le_of_ble_eq_true rfl) (Nat.le_of_ble_eq_true rfl) 0 (Nat.le_of_ble_eq_true rfl) ?_
      exact q_zret dX1_isAllowed_25 rfl pI_z ⟨by unfold allow; rw [if_neg n1, if_pos (by omega)], rfl⟩
  · have n1 := (nI_eq (a := a) (b := 0) (by omega) (by omega)).mp c1
    refine q_iload_n dX1_isAllowed_4 rfl ?_
    refine q_bipush (v := 70) dX1_isAllowed_5 rfl ?_
    refine q_icmp_ne 14 dX1_isAllowed_7 rfl (fun c7 => ?_) (fun c7 => ?_)
    · have n7 := mt (nI_eq (a := c) (b := 70) (by omega) (by omega)).mpr c7
      refine q_iconst (v := 0) dX1_isAllowed_14 rfl ?_
      exact q_zret dX1_isAllowed_15 rfl rfl ⟨by rw [pI_f (by unfold allow; rw [if_pos n1]; omega)], rfl⟩
    · have n7 := (nI_eq (a := c) (b := 70) (by omega) (by omega)).mp c7
      refine q_iconst (v := 1) dX1_isAllowed_10 rfl ?_
      refine q_goto 15 dX1_isAllowed_11 rfl ?_
      exact q_zret dX1_isAllowed_15 rfl rfl ⟨by rw [pI_t (by unfold allow; rw [if_pos n1]; omega)], rfl⟩
set_option maxRecDepth 100000 in
set_option maxHeartbeats 4000000 in
theorem c_X1_isFull {g : G0} (hG : Gd g) (S : SS)  (len : Nat) (h1 : (z_TL S) = nI len) (h2 : len ≤ 60) : ctv g mX1_isFull [.ref 1] (mixW g S) (.int (pI (60 ≤ len))) (mixW g S) := by
  refine ct_of hG [some (.ref 1)] rfl rfl rfl (Nat.le_of_ble_eq_true rfl) (fun h => ?_) rfl
  refine q_aload_n dX1_isFull_0 rfl ?_
  refine q_get (j := 1) (v := .int ((z_TL S))) dX1_isFull_1 (Nat.le_of_ble_eq_true rfl) rfl rfl iuX1 (Nat.le_of_ble_eq_true rfl) uw_74 rfl rfl ?_
  refine wp_top (y := nI len) h1 ?_
  refine q_bipush (v := 60) dX1_isFull_4 rfl ?_
  refine q_icmp_lt 13 dX1_isFull_6 rfl (fun c6 => ?_) (fun c6 => ?_)
  · have n6 := (nI_ltI (a := len) (b := 60) (by omega) (by omega)).mp c6
    refine q_iconst (v := 0) dX1_isFull_13 rfl ?_
    exact q_zret dX1_isFull_14 rfl rfl ⟨by rw [pI_f (by omega)], rfl⟩
  · have n6 := mt (nI_ltI (a := len) (b := 60) (by omega) (by omega)).mpr c6
    refine q_iconst (v := 1) dX1_isFull_9 rfl ?_
    refine q_goto 14 dX1_isFull_10 rfl ?_
    exact q_zret dX1_isFull_14 rfl rfl ⟨by rw [pI_t (by omega)], rfl⟩
set_option maxRecDepth 100000 in
set_option maxHeartbeats 4000000 in
theorem c_X1_add {g : G0} (hG : Gd g) (S : SS) (c : Nat) (len : Nat) (h1 : (z_TL S) = nI len) (h2 : len < 60) (h3 : c < 65536) : ctv g mX1_add [.ref 1, .int (nI c)] (mixW g S) (.int (nI (len + 1))) (mixW g (s_TL (s_TX S (upd (z_TX S) len (nI c))) (nI (len + 1)))) := by
  refine ct_of hG [some (.ref 1), some (.int (nI c))] rfl rfl rfl (Nat.le_of_ble_eq_true rfl) (fun h => ?_) rfl
  refine q_aload_n dX1_add_0 rfl ?_
  refine q_get (j := 1) (v := .int ((z_TL S))) dX1_add_1 (Nat.le_of_ble_eq_true rfl) rfl rfl iuX1 (Nat.le_of_ble_eq_true rfl) uw_74 rfl rfl ?_
  refine wp_top (y := nI len) h1 ?_
  refine q_bipush (v := 60) dX1_add_4 rfl ?_
  refine q_icmp_ge 29 dX1_add_6 rfl (fun c6 => ?_) (fun c6 => ?_)
  · have n6 := (nI_leI (a := 60) (b := len) (by omega) (by omega)).mp c6
    omega
  · have n6 := mt (nI_leI (a := 60) (b := len) (by omega) (by omega)).mpr c6
    refine q_aload_n dX1_add_9 rfl ?_
    refine q_get (j := 0) (v := .ref 2) dX1_add_10 (Nat.le_of_ble_eq_true rfl) rfl rfl iuX1 (Nat.le_of_ble_eq_true rfl) uw_73 rfl rfl ?_
    refine q_aload_n dX1_add_13 rfl ?_
    refine q_get (j := 1) (v := .int ((z_TL S))) dX1_add_14 (Nat.le_of_ble_eq_true rfl) rfl rfl iuX1 (Nat.le_of_ble_eq_true rfl) uw_74 rfl rfl ?_
    refine wp_top (y := nI len) h1 ?_
    refine q_iload_n dX1_add_17 rfl ?_
    refine q_cast (f := (z_TX S)) (y := nI c) dX1_add_18 (Nat.le_of_ble_eq_true rfl) rfl (len) rfl (by omega) (Nat.le_of_ble_eq_true rfl) (by rw [vp_nar, (pk_charN h3).1]) ?_
    refine wp_w (u_TX g _ _) ?_
    refine q_aload_n dX1_add_19 rfl ?_
    refine q_dup dX1_add_20 rfl ?_
    refine q_get (j := 1) (v := .int ((z_TL S))) dX1_add_21 (Nat.le_of_ble_eq_true rfl) rfl rfl iuX1 (Nat.le_of_ble_eq_true rfl) uw_74 rfl rfl ?_
    refine wp_top (y := nI len) h1 ?_
    refine q_iconst (v := 1) dX1_add_24 rfl ?_
    refine q_iadd dX1_add_25 ?_
    refine wp_top (y := nI (len + 1)) (nI_1 len) ?_
    refine q_put (j := 1) (ty := .int) dX1_add_26 (Nat.le_of_ble_eq_true rfl) rfl rfl iuX1 tyX1_ok nmX1 (Nat.le_of_ble_eq_true rfl) uw_74 rfl rfl rfl rfl rfl (Nat.le_of_ble_eq_true rfl) ?_
    refine wp_w (u_TL g _ _) ?_
    refine q_aload_n dX1_add_29 rfl ?_
    refine q_get (j := 1) (v := .int ((nI (len + 1)))) dX1_add_30 (Nat.le_of_ble_eq_true rfl) rfl rfl iuX1 (Nat.le_of_ble_eq_true rfl) uw_74 rfl rfl ?_
    exact q_iret dX1_add_33 rfl ⟨rfl, rfl⟩
set_option maxRecDepth 100000 in
set_option maxHeartbeats 4000000 in
theorem c_X1_empty {g : G0} (hG : Gd g) (S : SS)    : ctv g mX1_empty [.ref 1] (mixW g S) (.int ((z_TL S))) (mixW g (s_TL S (0))) := by
  refine ct_of hG [some (.ref 1), none] rfl rfl rfl (Nat.le_of_ble_eq_true rfl) (fun h => ?_) rfl
  refine q_aload_n dX1_empty_0 rfl ?_
  refine q_get (j := 1) (v := .int ((z_TL S))) dX1_empty_1 (Nat.le_of_ble_eq_true rfl) rfl rfl iuX1 (Nat.le_of_ble_eq_true rfl) uw_74 rfl rfl ?_
  refine q_ist1 dX1_empty_4 (Nat.le_of_ble_eq_true rfl) rfl ?_
  refine q_aload_n dX1_empty_5 rfl ?_
  refine q_iconst (v := 0) dX1_empty_6 rfl ?_
  refine q_put (j := 1) (ty := .int) dX1_empty_7 (Nat.le_of_ble_eq_true rfl) rfl rfl iuX1 tyX1_ok nmX1 (Nat.le_of_ble_eq_true rfl) uw_74 rfl rfl rfl rfl rfl (Nat.le_of_ble_eq_true rfl) ?_
  refine wp_w (u_TL g _ _) ?_
  refine q_iload_n dX1_empty_10 rfl ?_
  exact q_iret dX1_empty_11 rfl ⟨rfl, rfl⟩
set_option maxRecDepth 100000 in
set_option maxHeartbeats 4000000 in
theorem l_X1_firstError {g : G0} {h : G1} (hG : Gd g) (S : SS) {post : Option Value → (Nat → va_E) → Prop} {xp : String → (Nat → va_E) → Prop} (t : Nat → Nat) (len : Nat) (hl : z_TL S = nI len) (hl6 : len ≤ 60) (ht : ∀ j, j < len → z_TX S j = nI (t j) ∧ t j < 65536) : ∀ (n i : Nat), i + n = len → post (some (.int (feF t len n))) (mixW g S) → wp g h mX1_firstError (mixW g S) [some (.ref 1), some (.int (nI i))] [] 0 (QQ g h mX1_firstError post xp) 2 := by
  intro n
  induction n with
  | zero =>
    intro i h1 hp
    obtain rfl : len = i := by omega
    refine q_iload_n dX1_firstError_2 rfl ?_
    refine q_aload_n dX1_firstError_3 rfl ?_
    refine q_get (j := 1) (v := .int ((z_TL S))) dX1_firstError_4 (Nat.le_of_ble_eq_true rfl) rfl rfl iuX1 (Nat.le_of_ble_eq_true rfl) uw_74 rfl rfl ?_
    refine wp_top (y := nI len) hl ?_
    refine q_icmp_ge 31 dX1_firstError_7 rfl (fun c7 => ?_) (fun c7 => ?_)
    · have n7 := (nI_leI (a := len) (b := len) (by omega) (by omega)).mp c7
      refine q_aload_n dX1_firstError_31 rfl ?_
      refine q_get (j := 1) (v := .int ((z_TL S))) dX1_firstError_32 (Nat.le_of_ble_eq_true rfl) rfl rfl iuX1 (Nat.le_of_ble_eq_true rfl) uw_74 rfl rfl ?_
      refine wp_top (y := nI len) hl ?_
      refine q_bipush (v := 8) dX1_firstError_35 rfl ?_
      refine q_icmp_lt 57 dX1_firstError_37 rfl (fun c37 => ?_) (fun c37 => ?_)
      · have n37 := (nI_ltI (a := len) (b := 8) (by omega) (by omega)).mp c37
        refine q_iconst (v := 0) dX1_firstError_57 rfl ?_
        refine q_ist1 dX1_firstError_58 (Nat.le_of_ble_eq_true rfl) rfl ?_
        refine q_iload_n dX1_firstError_59 rfl ?_
        refine q_if_eq 68 dX1_firstError_60 rfl (fun c60 => ?_) (fun c60 => ?_)
        · refine q_aload_n dX1_firstError_68 rfl ?_
          refine q_get (j := 1) (v := .int ((z_TL S))) dX1_firstError_69 (Nat.le_of_ble_eq_true rfl) rfl rfl iuX1 (Nat.le_of_ble_eq_true rfl) uw_74 rfl rfl ?_
          refine wp_top (y := nI len) hl ?_
          exact q_iret dX1_firstError_72 rfl (by rw [feF, if_neg (by omega)] at hp; exact hp)
        · first | exact absurd (by decide) c60 | exact absurd c60 (by decide)
      · have n37 := mt (nI_ltI (a := len) (b := 8) (by omega) (by omega)).mpr c37
        refine q_aload_n dX1_firstError_40 rfl ?_
        refine q_get (j := 1) (v := .int ((z_TL S))) dX1_firstError_41 (Nat.le_of_ble_eq_true rfl) rfl rfl iuX1 (Nat.le_of_ble_eq_true rfl) uw_74 rfl rfl ?_
        refine wp_top (y := nI len) hl ?_
        refine q_bipush (v := 8) dX1_firstError_44 rfl ?_
        refine q_isub dX1_firstError_46 ?_
        refine wp_top (y := nI (len - 8)) (pk_sub (a := len) (b := 8) (by omega)) ?_
        refine q_bipush (v := 7) dX1_firstError_47 rfl ?_
        refine q_irem dX1_firstError_49 (by decide) ?_
        refine wp_top (y := nI ((len - 8) % 7)) (pk_rem (d := 7) (by omega) (by omega) (by omega)) ?_
        refine q_if_ne 57 dX1_firstError_50 rfl (fun c50 => ?_) (fun c50 => ?_)
        · have n50 := mt (nI_eq (a := ((len - 8) % 7)) (b := 0) (by omega) (by omega)).mpr c50
          refine q_iconst (v := 0) dX1_firstError_57 rfl ?_
          refine q_ist1 dX1_firstError_58 (Nat.le_of_ble_eq_true rfl) rfl ?_
          refine q_iload_n dX1_firstError_59 rfl ?_
          refine q_if_eq 68 dX1_firstError_60 rfl (fun c60 => ?_) (fun c60 => ?_)
          · refine q_aload_n dX1_firstError_68 rfl ?_
            refine q_get (j := 1) (v := .int ((z_TL S))) dX1_firstError_69 (Nat.le_of_ble_eq_true rfl) rfl rfl iuX1 (Nat.le_of_ble_eq_true rfl) uw_74 rfl rfl ?_
            refine wp_top (y := nI len) hl ?_
            exact q_iret dX1_firstError_72 rfl (by rw [feF, if_neg (by omega)] at hp; exact hp)
          · first | exact absurd (by decide) c60 | exact absurd c60 (by decide)
        · have n50 := (nI_eq (a := ((len - 8) % 7)) (b := 0) (by omega) (by omega)).mp c50
          refine q_iconst (v := 1) dX1_firstError_53 rfl ?_
          refine q_goto 58 dX1_firstError_54 rfl ?_
          refine q_ist1 dX1_firstError_58 (Nat.le_of_ble_eq_true rfl) rfl ?_
          refine q_iload_n dX1_firstError_59 rfl ?_
          refine q_if_eq 68 dX1_firstError_60 rfl (fun c60 => ?_) (fun c60 => ?_)
          · first | exact absurd (by decide) c60 | exact absurd c60 (by decide)
          · refine q_bipush (v := (-9)) dX1_firstError_63 rfl ?_
            refine q_goto 72 dX1_firstError_65 rfl ?_
            exact q_iret dX1_firstError_72 rfl (by rw [feF, if_pos (by omega)] at hp; exact hp)
    · have n7 := mt (nI_leI (a := len) (b := len) (by omega) (by omega)).mpr c7
      omega
  | succ n ih =>
    intro i h1 hp
    have hi : len - (n + 1) = i := by omega
    refine q_iload_n dX1_firstError_2 rfl ?_
    refine q_aload_n dX1_firstError_3 rfl ?_
    refine q_get (j := 1) (v := .int ((z_TL S))) dX1_firstError_4 (Nat.le_of_ble_eq_true rfl) rfl rfl iuX1 (Nat.le_of_ble_eq_true rfl) uw_74 rfl rfl ?_
    refine wp_top (y := nI len) hl ?_
    refine q_icmp_ge 31 dX1_firstError_7 rfl (fun c7 => ?_) (fun c7 => ?_)
    · have n7 := (nI_leI (a := len) (b := i) (by omega) (by omega)).mp c7
      omega
    · have n7 := mt (nI_leI (a := len) (b := i) (by omega) (by omega)).mpr c7
      refine q_iload_n dX1_firstError_10 rfl ?_
      refine q_aload_n dX1_firstError_11 rfl ?_
      refine q_get (j := 0) (v := .ref 2) dX1_firstError_12 (Nat.le_of_ble_eq_true rfl) rfl rfl iuX1 (Nat.le_of_ble_eq_true rfl) uw_73 rfl rfl ?_
      refine q_iload_n dX1_firstError_15 rfl ?_
      refine q_cald (f := (z_TX S)) dX1_firstError_16 (Nat.le_of_ble_eq_true rfl) rfl (i) rfl (by omega) (Nat.le_of_ble_eq_true rfl) ?_
      refine wp_top (y := nI (t i)) (ht i (by omega)).1 ?_
      refine q_callSv (ν := mX1_isAllowed) dX1_firstError_17 uw_264 vX1_isAllowed (c_X1_isAllowed hG S (i) ((t i)) (by omega) (ht i (by omega)).2) rfl rfl (Nat.le_of_ble_eq_true rfl) (Nat.le_of_ble_eq_true rfl) (Nat.le_of_ble_eq_true rfl) 0 (Nat.le_of_ble_eq_true rfl) ?_
      refine q_if_ne 25 dX1_firstError_20 rfl (fun c20 => ?_) (fun c20 => ?_)
      · refine q_iinc1 (k9 := 1) dX1_firstError_25 rfl (Nat.le_of_ble_eq_true rfl) rfl ?_
        refine wp_L (L2 := [some (.ref 1), some (.int (nI (i + 1)))]) (by rw [show nI i + 1 = nI (i + 1) from nI_1 _]) ?_
        refine q_goto 2 dX1_firstError_28 rfl ?_
        exact ih (i + 1) (by omega) (by rw [feF_t (by rw [hi]; exact pI_1 c20)] at hp; exact hp)
      · refine q_iload_n dX1_firstError_23 rfl ?_
        exact q_iret dX1_firstError_24 rfl (by rw [feF_f (by rw [hi]; exact pI_0 c20), hi] at hp; exact hp)
set_option maxRecDepth 100000 in
set_option maxHeartbeats 4000000 in
theorem c_X1_firstError {g : G0} (hG : Gd g) (S : SS)  (t : Nat → Nat) (len : Nat) (h1 : (z_TL S) = nI len) (h2 : len ≤ 60) (h3 : ∀ j, j < len → (z_TX S) j = nI (t j) ∧ t j < 65536) : ctv g mX1_firstError [.ref 1] (mixW g S) (.int (feF t len len)) (mixW g S) := by
  refine ct_of hG [some (.ref 1), none] rfl rfl rfl (Nat.le_of_ble_eq_true rfl) (fun h => ?_) rfl
  refine q_iconst (v := 0) dX1_firstError_0 rfl ?_
  refine q_ist1 dX1_firstError_1 (Nat.le_of_ble_eq_true rfl) rfl ?_
  exact l_X1_firstError hG S t len h1 h2 h3 len 0 (by omega) ⟨rfl, rfl⟩
set_option maxRecDepth 100000 in
set_option maxHeartbeats 4000000 in
theorem l_X1_number {g : G0} {h : G1} (hG : Gd g) (S : SS) {Q : State → Prop} (t : Nat → Nat) (len a d : Nat) (hl : z_TL S = nI len) (hl6 : len ≤ 60) (ha : a + d ≤ len) (ht : ∀ j, a ≤ j → j < a + d → z_TX S j = nI (t j) ∧ 48 ≤ t j ∧ t j ≤ 57) (k : wp g h mX1_number (mixW g S) [some (.ref 1), some (.int (nI a)), some (.int (nI d)), some (.int (nI (dN t a d))), some (.int (nI (a + d)))] [] 0 Q 44) : ∀ (n i : Nat), i + n = d → wp g h mX1_number (mixW g S) [some (.ref 1), some (.int (nI a)), some (.int (nI d)), some (.int (nI (dN t a i))), some (.int (nI (a + i)))] [] 0 Q 5 := by
  intro n
  induction n with
  | zero =>
    intro i hq1
    obtain rfl : d = i := by omega
    refine q_iload dX1_number_5 rfl ?_
    refine q_iload_n dX1_number_7 rfl ?_
    refine q_iload_n dX1_number_8 rfl ?_
    refine q_iadd dX1_number_9 ?_
    refine wp_top (y := nI (a + d)) (by simp only [fa_lit, pk_mul, nI_add]) ?_
    refine q_icmp_ge 44 dX1_number_10 rfl (fun c10 => ?_) (fun c10 => ?_)
    · have n10 := (nI_leI (a := (a + d)) (b := (a + d)) (by omega) (by omega)).mp c10
      exact k
    · have n10 := mt (nI_leI (a := (a + d)) (b := (a + d)) (by omega) (by omega)).mpr c10
      omega
  | succ n ih =>
    intro i hq1
    refine q_iload dX1_number_5 rfl ?_
    refine q_iload_n dX1_number_7 rfl ?_
    refine q_iload_n dX1_number_8 rfl ?_
    refine q_iadd dX1_number_9 ?_
    refine wp_top (y := nI (a + d)) (by simp only [fa_lit, pk_mul, nI_add]) ?_
    refine q_icmp_ge 44 dX1_number_10 rfl (fun c10 => ?_) (fun c10 => ?_)
    · have n10 := (nI_leI (a := (a + d)) (b := (a + i)) (by omega) (by omega)).mp c10
      omega
    · have n10 := mt (nI_leI (a := (a + d)) (b := (a + i)) (by omega) (by omega)).mpr c10
      refine q_iload dX1_number_13 rfl ?_
      refine q_aload_n dX1_number_15 rfl ?_
      refine q_get (j := 1) (v := .int ((z_TL S))) dX1_number_16 (Nat.le_of_ble_eq_true rfl) rfl rfl iuX1 (Nat.le_of_ble_eq_true rfl) uw_74 rfl rfl ?_
      refine wp_top (y := nI len) hl ?_
      refine q_icmp_ge 44 dX1_number_19 rfl (fun c19 => ?_) (fun c19 => ?_)
      · have n19 := (nI_leI (a := len) (b := (a + i)) (by omega) (by omega)).mp c19
        omega
      · have n19 := mt (nI_leI (a := len) (b := (a + i)) (by omega) (by omega)).mpr c19
        refine q_bipush (v := 10) dX1_number_22 rfl ?_
        refine q_iload_n dX1_number_24 rfl ?_
        refine q_imul dX1_number_25 ?_
        refine q_aload_n dX1_number_26 rfl ?_
        refine q_get (j := 0) (v := .ref 2) dX1_number_27 (Nat.le_of_ble_eq_true rfl) rfl rfl iuX1 (Nat.le_of_ble_eq_true rfl) uw_73 rfl rfl ?_
        refine q_iload dX1_number_30 rfl ?_
        refine q_cald (f := (z_TX S)) dX1_number_32 (Nat.le_of_ble_eq_true rfl) rfl ((a + i)) rfl (by omega) (Nat.le_of_ble_eq_true rfl) ?_
        refine wp_top (y := nI (t (a + i))) (ht (a + i) (by omega) (by omega)).1 ?_
        refine q_bipush (v := 48) dX1_number_33 rfl ?_
        have h48 := (ht (a + i) (by omega) (by omega)).2
        refine q_isub dX1_number_35 ?_
        refine wp_top (y := nI (t (a + i) - 48)) (pk_sub (b := 48) h48.1) ?_
        refine q_iadd dX1_number_36 ?_
        refine wp_top (y := nI (dN t a (i + 1))) (by simp only [fa_lit, pk_mul, nI_add]; rfl) ?_
        refine q_ist3 dX1_number_37 (Nat.le_of_ble_eq_true rfl) rfl ?_
        refine q_iinc4 (k9 := 1) dX1_number_38 rfl (Nat.le_of_ble_eq_true rfl) rfl ?_
        refine wp_L (L2 := [some (.ref 1), some (.int (nI a)), some (.int (nI d)), some (.int (nI (dN t a (i + 1)))), some (.int (nI ((a + i) + 1)))]) (by rw [show nI (a + i) + 1 = nI ((a + i) + 1) from nI_1 _]) ?_
        refine q_goto 5 dX1_number_41 rfl ?_
        refine wp_L (L2 := [some (.ref 1), some (.int (nI a)), some (.int (nI d)), some (.int (nI (dN t a (i + 1)))), some (.int (nI (a + (i + 1))))]) (by rw [show a + i + 1 = a + (i + 1) from rfl]) ?_
        exact ih (i + 1) (by omega)
set_option maxRecDepth 100000 in
set_option maxHeartbeats 4000000 in
theorem c_X1_number {g : G0} (hG : Gd g) (S : SS) (a : Nat) (d : Nat) (t : Nat → Nat) (len : Nat) (h1 : (z_TL S) = nI len) (h2 : len ≤ 60) (h3 : a + d ≤ len) (h4 : ∀ j, a ≤ j → j < a + d → (z_TX S) j = nI (t j) ∧ 48 ≤ t j ∧ t j ≤ 57) : ctv g mX1_number [.ref 1, .int (nI a), .int (nI d)] (mixW g S) (.int (nI (dN t a d))) (mixW g S) := by
  refine ct_of hG [some (.ref 1), some (.int (nI a)), some (.int (nI d)), none, none] rfl rfl rfl (Nat.le_of_ble_eq_true rfl) (fun h => ?_) rfl
  refine q_iconst (v := 0) dX1_number_0 rfl ?_
  refine q_ist3 dX1_number_1 (Nat.le_of_ble_eq_true rfl) rfl ?_
  refine q_iload_n dX1_number_2 rfl ?_
  refine q_ist4 dX1_number_3 (Nat.le_of_ble_eq_true rfl) rfl ?_
  refine wp_L (L2 := [some (.ref 1), some (.int (nI a)), some (.int (nI d)), some (.int (nI (dN t a 0))), some (.int (nI (a + 0)))]) rfl ?_
  refine l_X1_number hG S t len a d h1 h2 h3 h4 ?_ d 0 (by omega)
  refine q_iload_n dX1_number_44 rfl ?_
  exact q_iret dX1_number_45 rfl ⟨rfl, rfl⟩
set_option maxRecDepth 100000 in
set_option maxHeartbeats 4000000 in
theorem l_X1_readInto {g : G0} {h : G1} (hG : Gd g) (S : SS) {Q : State → Prop} (t : Nat → Nat) (len c : Nat) (h1 : z_TL S = nI len) (h2 : len = 8 + 7 * c) (h3 : c ≤ 6) (h4 : ∀ j, j < len → z_TX S j = nI (t j)) (h5 : ∀ j, 1 ≤ j → j < len → ¬ (8 ≤ j ∧ (j - 8) % 7 = 0) → 48 ≤ t j ∧ t j ≤ 57) (k : wp g h mX1_readInto (mixW g (s_SV S (rdF t (z_SV S) c))) [some (.ref 1), some (.ref 3), some (.int (nI (8 + 7 * c)))] [] 0 Q 84) : ∀ (n i : Nat), i + n = c → wp g h mX1_readInto (mixW g (s_SV S (rdF t (z_SV S) i))) [some (.ref 1), some (.ref 3), some (.int (nI (8 + 7 * i)))] [] 0 Q 33 := by
  intro n
  induction n with
  | zero =>
    intro i hq1
    obtain rfl : c = i := by omega
    refine q_iload_n dX1_readInto_33 rfl ?_
    refine q_aload_n dX1_readInto_34 rfl ?_
    refine q_get (j := 1) (v := .int ((z_TL S))) dX1_readInto_35 (Nat.le_of_ble_eq_true rfl) rfl rfl iuX1 (Nat.le_of_ble_eq_true rfl) uw_74 rfl rfl ?_
    refine wp_top (y := nI len) h1 ?_
    refine q_icmp_ge 84 dX1_readInto_38 rfl (fun c38 => ?_) (fun c38 => ?_)
    · have n38 := (nI_leI (a := len) (b := (8 + 7 * c)) (by omega) (by omega)).mp c38
      exact k
    · have n38 := mt (nI_leI (a := len) (b := (8 + 7 * c)) (by omega) (by omega)).mpr c38
      omega
  | succ n ih =>
    intro i hq1
    refine q_iload_n dX1_readInto_33 rfl ?_
    refine q_aload_n dX1_readInto_34 rfl ?_
    refine q_get (j := 1) (v := .int ((z_TL S))) dX1_readInto_35 (Nat.le_of_ble_eq_true rfl) rfl rfl iuX1 (Nat.le_of_ble_eq_true rfl) uw_74 rfl rfl ?_
    refine wp_top (y := nI len) h1 ?_
    refine q_icmp_ge 84 dX1_readInto_38 rfl (fun c38 => ?_) (fun c38 => ?_)
    · have n38 := (nI_leI (a := len) (b := (8 + 7 * i)) (by omega) (by omega)).mp c38
      omega
    · have n38 := mt (nI_leI (a := len) (b := (8 + 7 * i)) (by omega) (by omega)).mpr c38
      refine q_aload_n dX1_readInto_41 rfl ?_
      refine q_aload_n dX1_readInto_42 rfl ?_
      refine q_iload_n dX1_readInto_43 rfl ?_
      refine q_iconst (v := 1) dX1_readInto_44 rfl ?_
      refine q_iadd dX1_readInto_45 ?_
      refine wp_top (y := nI (8 + 7 * i + 1)) (nI_add _ 1) ?_
      refine q_iconst (v := 2) dX1_readInto_46 rfl ?_
      refine q_callVv (ν := mX1_number) dX1_readInto_47 uw_588 vX1_number (c_X1_number hG (s_SV S (rdF t (z_SV S) i)) ((8 + 7 * i + 1)) (2) (t) (len) h1 (by omega) (by omega) (fun j hj1 hj2 => ⟨h4 j (by omega), h5 j (by omega) (by omega) (by omega)⟩)) (Nat.le_of_ble_eq_true rfl) rfl rfl rfl rfl (Nat.le_of_ble_eq_true rfl) (Nat.le_of_ble_eq_true rfl) (Nat.le_of_ble_eq_true rfl) 0 (Nat.le_of_ble_eq_true rfl) ?_
      refine wp_eq (st2 := .int ((nI (dN t (8 + 7 * i + 1) 2))) :: _) rfl ?_
      refine q_aload_n dX1_readInto_50 rfl ?_
      refine q_iload_n dX1_readInto_51 rfl ?_
      refine q_iconst (v := 3) dX1_readInto_52 rfl ?_
      refine q_iadd dX1_readInto_53 ?_
      refine wp_top (y := nI (8 + 7 * i + 3)) (nI_add _ 3) ?_
      refine q_iconst (v := 2) dX1_readInto_54 rfl ?_
      refine q_callVv (ν := mX1_number) dX1_readInto_55 uw_588 vX1_number (c_X1_number hG (s_SV S (rdF t (z_SV S) i)) ((8 + 7 * i + 3)) (2) (t) (len) h1 (by omega) (by omega) (fun j hj1 hj2 => ⟨h4 j (by omega), h5 j (by omega) (by omega) (by omega)⟩)) (Nat.le_of_ble_eq_true rfl) rfl rfl rfl rfl (Nat.le_of_ble_eq_true rfl) (Nat.le_of_ble_eq_true rfl) (Nat.le_of_ble_eq_true rfl) 0 (Nat.le_of_ble_eq_true rfl) ?_
      refine wp_eq (st2 := .int ((nI (dN t (8 + 7 * i + 3) 2))) :: _) rfl ?_
      refine q_aload_n dX1_readInto_58 rfl ?_
      refine q_iload_n dX1_readInto_59 rfl ?_
      refine q_iconst (v := 5) dX1_readInto_60 rfl ?_
      refine q_iadd dX1_readInto_61 ?_
      refine wp_top (y := nI (8 + 7 * i + 5)) (nI_add _ 5) ?_
      refine q_iconst (v := 1) dX1_readInto_62 rfl ?_
      refine q_callVv (ν := mX1_number) dX1_readInto_63 uw_588 vX1_number (c_X1_number hG (s_SV S (rdF t (z_SV S) i)) ((8 + 7 * i + 5)) (1) (t) (len) h1 (by omega) (by omega) (fun j hj1 hj2 => ⟨h4 j (by omega), h5 j (by omega) (by omega) (by omega)⟩)) (Nat.le_of_ble_eq_true rfl) rfl rfl rfl rfl (Nat.le_of_ble_eq_true rfl) (Nat.le_of_ble_eq_true rfl) (Nat.le_of_ble_eq_true rfl) 0 (Nat.le_of_ble_eq_true rfl) ?_
      refine wp_eq (st2 := .int ((nI (dN t (8 + 7 * i + 5) 1))) :: _) rfl ?_
      refine q_aload_n dX1_readInto_66 rfl ?_
      refine q_iload_n dX1_readInto_67 rfl ?_
      refine q_bipush (v := 6) dX1_readInto_68 rfl ?_
      refine q_iadd dX1_readInto_70 ?_
      refine wp_top (y := nI (8 + 7 * i + 6)) (nI_add _ 6) ?_
      refine q_iconst (v := 1) dX1_readInto_71 rfl ?_
      refine q_callVv (ν := mX1_number) dX1_readInto_72 uw_588 vX1_number (c_X1_number hG (s_SV S (rdF t (z_SV S) i)) ((8 + 7 * i + 6)) (1) (t) (len) h1 (by omega) (by omega) (fun j hj1 hj2 => ⟨h4 j (by omega), h5 j (by omega) (by omega) (by omega)⟩)) (Nat.le_of_ble_eq_true rfl) rfl rfl rfl rfl (Nat.le_of_ble_eq_true rfl) (Nat.le_of_ble_eq_true rfl) (Nat.le_of_ble_eq_true rfl) 0 (Nat.le_of_ble_eq_true rfl) ?_
      refine wp_eq (st2 := .int ((nI (dN t (8 + 7 * i + 6) 1))) :: _) rfl ?_
      refine q_callVu (ν := mX7_pushCell) dX1_readInto_75 uw_596 vX7_pushCell (c_X7_pushCell_3 hG (s_SV S (rdF t (z_SV S) i)) (((nI (dN t (8 + 7 * i + 1) 2)))) (((nI (dN t (8 + 7 * i + 3) 2)))) (((nI (dN t (8 + 7 * i + 5) 1)))) (((nI (dN t (8 + 7 * i + 6) 1)))) (i) (rdF_0 t (z_SV S) i) (by omega)) (Nat.le_of_ble_eq_true rfl) rfl rfl rfl rfl (Nat.le_of_ble_eq_true rfl) (Nat.le_of_ble_eq_true rfl) (Nat.le_of_ble_eq_true rfl) 0 (Nat.le_of_ble_eq_true rfl) ?_
      rw [ss_SV]
      refine wp_w (w2 := mixW g (s_SV S (pushF (rdF t (z_SV S) i) i ((nI (dN t (8 + 7 * i + 1) 2))) ((nI (dN t (8 + 7 * i + 3) 2))) ((nI (dN t (8 + 7 * i + 5) 1))) ((nI (dN t (8 + 7 * i + 6) 1)))))) rfl ?_
      refine q_iinc2 (k9 := 7) dX1_readInto_78 rfl (Nat.le_of_ble_eq_true rfl) rfl ?_
      refine wp_L (L2 := [some (.ref 1), some (.ref 3), some (.int (nI ((8 + 7 * i) + 7)))]) (by rw [show nI (8 + 7 * i) + 7 = nI ((8 + 7 * i) + 7) from nI_add _ _]) ?_
      refine q_goto 33 dX1_readInto_81 rfl ?_
      refine wp_L (L2 := [some (.ref 1), some (.ref 3), some (.int (nI (8 + 7 * (i + 1))))]) (by rw [show 8 + 7 * i + 7 = 8 + 7 * (i + 1) by omega]) ?_
      refine wp_w (w2 := mixW g (s_SV S (rdF t (z_SV S) (i + 1)))) rfl ?_
      exact ih (i + 1) (by omega)
set_option maxRecDepth 100000 in
set_option maxHeartbeats 4000000 in
theorem c_X1_readInto {g : G0} (hG : Gd g) (S : SS)  (t : Nat → Nat) (len : Nat) (c : Nat) (h1 : (z_TL S) = nI len) (h2 : len = 8 + 7 * c) (h3 : c ≤ 6) (h4 : ∀ j, j < len → (z_TX S) j = nI (t j)) (h5 : ∀ j, 1 ≤ j → j < len → ¬ (8 ≤ j ∧ (j - 8) % 7 = 0) → 48 ≤ t j ∧ t j ≤ 57) : ctu g mX1_readInto [.ref 1, .ref 3] (mixW g S) (mixW g (s_SV S (rdF t (z_SV S) c))) := by
  refine ct_of hG [some (.ref 1), some (.ref 3), none] rfl rfl rfl (Nat.le_of_ble_eq_true rfl) (fun h => ?_) rfl
  refine q_aload_n dX1_readInto_0 rfl ?_
  refine q_callVu (ν := mX7_dropCells) dX1_readInto_1 uw_583 vX7_dropCells (c_X7_dropCells_3 hG S ) (Nat.le_of_ble_eq_true rfl) rfl rfl rfl rfl (Nat.le_of_ble_eq_true rfl) (Nat.le_of_ble_eq_true rfl) (Nat.le_of_ble_eq_true rfl) 0 (Nat.le_of_ble_eq_true rfl) ?_
  refine wp_w (w2 := mixW g (s_SV S (upd (z_SV S) 0 0))) rfl ?_
  refine q_aload_n dX1_readInto_4 rfl ?_
  refine q_callVu (ν := mX7_emptyAll) dX1_readInto_5 uw_587 vX7_emptyAll (c_X7_emptyAll_3 hG (s_SV S (upd (z_SV S) 0 0)) ) (Nat.le_of_ble_eq_true rfl) rfl rfl rfl rfl (Nat.le_of_ble_eq_true rfl) (Nat.le_of_ble_eq_true rfl) (Nat.le_of_ble_eq_true rfl) 0 (Nat.le_of_ble_eq_true rfl) ?_
  rw [ss_SV]
  refine wp_w (w2 := mixW g (s_SV S (zerF (upd (z_SV S) 0 0) 44))) rfl ?_
  refine q_aload_n dX1_readInto_8 rfl ?_
  refine q_aload_n dX1_readInto_9 rfl ?_
  refine q_iconst (v := 1) dX1_readInto_10 rfl ?_
  refine q_iconst (v := 1) dX1_readInto_11 rfl ?_
  refine q_callVv (ν := mX1_number) dX1_readInto_12 uw_588 vX1_number (c_X1_number hG (s_SV S (zerF (upd (z_SV S) 0 0) 44)) (1) (1) (t) (len) h1 (by omega) (by omega) (fun j hj1 hj2 => ⟨h4 j (by omega), h5 j (by omega) (by omega) (by omega)⟩)) (Nat.le_of_ble_eq_true rfl) rfl rfl rfl rfl (Nat.le_of_ble_eq_true rfl) (Nat.le_of_ble_eq_true rfl) (Nat.le_of_ble_eq_true rfl) 0 (Nat.le_of_ble_eq_true rfl) ?_
  refine wp_eq (st2 := .int ((nI (dN t 1 1))) :: _) rfl ?_
  refine q_aload_n dX1_readInto_15 rfl ?_
  refine q_iconst (v := 2) dX1_readInto_16 rfl ?_
  refine q_iconst (v := 3) dX1_readInto_17 rfl ?_
  refine q_callVv (ν := mX1_number) dX1_readInto_18 uw_588 vX1_number (c_X1_number hG (s_SV S (zerF (upd (z_SV S) 0 0) 44)) (2) (3) (t) (len) h1 (by omega) (by omega) (fun j hj1 hj2 => ⟨h4 j (by omega), h5 j (by omega) (by omega) (by omega)⟩)) (Nat.le_of_ble_eq_true rfl) rfl rfl rfl rfl (Nat.le_of_ble_eq_true rfl) (Nat.le_of_ble_eq_true rfl) (Nat.le_of_ble_eq_true rfl) 0 (Nat.le_of_ble_eq_true rfl) ?_
  refine wp_eq (st2 := .int ((nI (dN t 2 3))) :: _) rfl ?_
  refine q_aload_n dX1_readInto_21 rfl ?_
  refine q_iconst (v := 5) dX1_readInto_22 rfl ?_
  refine q_iconst (v := 3) dX1_readInto_23 rfl ?_
  refine q_callVv (ν := mX1_number) dX1_readInto_24 uw_588 vX1_number (c_X1_number hG (s_SV S (zerF (upd (z_SV S) 0 0) 44)) (5) (3) (t) (len) h1 (by omega) (by omega) (fun j hj1 hj2 => ⟨h4 j (by omega), h5 j (by omega) (by omega) (by omega)⟩)) (Nat.le_of_ble_eq_true rfl) rfl rfl rfl rfl (Nat.le_of_ble_eq_true rfl) (Nat.le_of_ble_eq_true rfl) (Nat.le_of_ble_eq_true rfl) 0 (Nat.le_of_ble_eq_true rfl) ?_
  refine wp_eq (st2 := .int ((nI (dN t 5 3))) :: _) rfl ?_
  refine q_callVu (ν := mX7_putFeed) dX1_readInto_27 uw_592 vX7_putFeed (c_X7_putFeed_3 hG (s_SV S (zerF (upd (z_SV S) 0 0) 44)) (((nI (dN t 1 1)))) (((nI (dN t 2 3)))) (((nI (dN t 5 3))))) (Nat.le_of_ble_eq_true rfl) rfl rfl rfl rfl (Nat.le_of_ble_eq_true rfl) (Nat.le_of_ble_eq_true rfl) (Nat.le_of_ble_eq_true rfl) 0 (Nat.le_of_ble_eq_true rfl) ?_
  rw [ss_SV]
  refine wp_w (w2 := mixW g (s_SV S (upd (upd (upd (zerF (upd (z_SV S) 0 0) 44) 1 ((nI (dN t 1 1)))) 2 ((nI (dN t 2 3)))) 3 ((nI (dN t 5 3)))))) rfl ?_
  refine q_bipush (v := 8) dX1_readInto_30 rfl ?_
  refine q_ist2 dX1_readInto_32 (Nat.le_of_ble_eq_true rfl) rfl ?_
  refine wp_w (w2 := mixW g (s_SV S (rdF t (z_SV S) 0))) rfl ?_
  refine wp_L (L2 := [some (.ref 1), some (.ref 3), some (.int (nI (8 + 7 * 0)))]) rfl ?_
  refine l_X1_readInto hG S t len c h1 h2 h3 h4 h5 ?_ c 0 (by omega)
  exact q_vret dX1_readInto_84 rfl ⟨rfl, rfl⟩
set_option maxRecDepth 100000 in
set_option maxHeartbeats 4000000 in
theorem c_X4_store {g : G0} (hG : Gd g) (S : SS) (k : Int32) (v : Int32) (p : Nat) (q : Nat) (h1 : (z_QN S) = nI p) (h2 : p < 5) (h3 : (z_QS S) = nI q) (h4 : q ≤ 5) : ctv g mX4_store [.ref 20, .int k, .int v] (mixW g S) (.int (nI (min (q + 1) 5))) (mixW g (s_QN (s_QS (s_QK (s_QV S (upd (z_QV S) p v)) (upd (z_QK S) p k)) (nI (min (q + 1) 5))) (nI ((p + 1) % 5)))) := by
  refine ct_of hG [some (.ref 20), some (.int (k)), some (.int (v))] rfl rfl rfl (Nat.le_of_ble_eq_true rfl) (fun h => ?_) rfl
  refine q_aload_n dX4_store_0 rfl ?_
  refine q_get (j := 0) (v := .ref 21) dX4_store_1 (Nat.le_of_ble_eq_true rfl) rfl rfl iuX4 (Nat.le_of_ble_eq_true rfl) uw_176 rfl rfl ?_
  refine q_aload_n dX4_store_4 rfl ?_
  refine q_get (j := 2) (v := .int ((z_QN S))) dX4_store_5 (Nat.le_of_ble_eq_true rfl) rfl rfl iuX4 (Nat.le_of_ble_eq_true rfl) uw_178 rfl rfl ?_
  refine wp_top (y := nI p) h1 ?_
  refine q_iload_n dX4_store_8 rfl ?_
  refine q_iast (f := (z_QK S)) dX4_store_9 (Nat.le_of_ble_eq_true rfl) rfl (p) rfl (by omega) (Nat.le_of_ble_eq_true rfl) ?_
  refine wp_w (u_QK g _ _) ?_
  refine q_aload_n dX4_store_10 rfl ?_
  refine q_get (j := 1) (v := .ref 22) dX4_store_11 (Nat.le_of_ble_eq_true rfl) rfl rfl iuX4 (Nat.le_of_ble_eq_true rfl) uw_177 rfl rfl ?_
  refine q_aload_n dX4_store_14 rfl ?_
  refine q_get (j := 2) (v := .int ((z_QN S))) dX4_store_15 (Nat.le_of_ble_eq_true rfl) rfl rfl iuX4 (Nat.le_of_ble_eq_true rfl) uw_178 rfl rfl ?_
  refine wp_top (y := nI p) h1 ?_
  refine q_iload_n dX4_store_18 rfl ?_
  refine q_iast (f := (z_QV S)) dX4_store_19 (Nat.le_of_ble_eq_true rfl) rfl (p) rfl (by omega) (Nat.le_of_ble_eq_true rfl) ?_
  refine wp_w (u_QV g _ _) ?_
  rw [sc_QV_QK]
  refine q_aload_n dX4_store_20 rfl ?_
  refine q_aload_n dX4_store_21 rfl ?_
  refine q_get (j := 2) (v := .int ((z_QN S))) dX4_store_22 (Nat.le_of_ble_eq_true rfl) rfl rfl iuX4 (Nat.le_of_ble_eq_true rfl) uw_178 rfl rfl ?_
  refine wp_top (y := nI p) h1 ?_
  refine q_iconst (v := 1) dX4_store_25 rfl ?_
  refine q_iadd dX4_store_26 ?_
  refine wp_top (y := nI (p + 1)) (nI_1 p) ?_
  refine q_iconst (v := 5) dX4_store_27 rfl ?_
  refine q_irem dX4_store_28 (by decide) ?_
  refine wp_top (y := nI ((p + 1) % 5)) (pk_rem (d := 5) (by omega) (by omega) (by omega)) ?_
  refine q_put (j := 2) (ty := .int) dX4_store_29 (Nat.le_of_ble_eq_true rfl) rfl rfl iuX4 tyX4_ok nmX4 (Nat.le_of_ble_eq_true rfl) uw_178 rfl rfl rfl rfl rfl (Nat.le_of_ble_eq_true rfl) ?_
  refine wp_w (u_QN g _ _) ?_
  refine q_aload_n dX4_store_32 rfl ?_
  refine q_aload_n dX4_store_33 rfl ?_
  refine q_get (j := 3) (v := .int ((z_QS S))) dX4_store_34 (Nat.le_of_ble_eq_true rfl) rfl rfl iuX4 (Nat.le_of_ble_eq_true rfl) uw_179 rfl rfl ?_
  refine wp_top (y := nI q) h3 ?_
  refine q_iconst (v := 1) dX4_store_37 rfl ?_
  refine q_iadd dX4_store_38 ?_
  refine wp_top (y := nI (q + 1)) (nI_1 q) ?_
  refine q_iconst (v := 5) dX4_store_39 rfl ?_
  refine q_mmin dX4_store_40 uw_876 (Nat.le_of_ble_eq_true rfl) (Nat.le_of_ble_eq_true rfl) (Nat.le_of_ble_eq_true rfl) ?_
  refine wp_top (y := nI (min (q + 1) 5)) (minI_nI (b := 5) (by omega) (by omega)) ?_
  refine q_put (j := 3) (ty := .int) dX4_store_43 (Nat.le_of_ble_eq_true rfl) rfl rfl iuX4 tyX4_ok nmX4 (Nat.le_of_ble_eq_true rfl) uw_179 rfl rfl rfl rfl rfl (Nat.le_of_ble_eq_true rfl) ?_
  refine wp_w (u_QS g _ _) ?_
  rw [sc_QS_QN]
  refine q_aload_n dX4_store_46 rfl ?_
  refine q_get (j := 3) (v := .int ((nI (min (q + 1) 5)))) dX4_store_47 (Nat.le_of_ble_eq_true rfl) rfl rfl iuX4 (Nat.le_of_ble_eq_true rfl) uw_179 rfl rfl ?_
  exact q_iret dX4_store_50 rfl ⟨rfl, rfl⟩
def agF (k v : Nat → Int32) (r s : Int32) (q : Nat) : Prop := ∀ j, j < q → v j = (if k j = 0 then r else s)
set_option maxRecDepth 100000 in
set_option maxHeartbeats 4000000 in
theorem l_X4_agree {g : G0} {h : G1} (hG : Gd g) (S : SS) {post : Option Value → (Nat → va_E) → Prop} {xp : String → (Nat → va_E) → Prop} (r s : Int32) (q : Nat) (hq : z_QS S = nI q) (hq5 : q ≤ 5) (hp : post (some (.int (pI (agF (z_QK S) (z_QV S) r s q)))) (mixW g S)) : ∀ (n i : Nat), i + n = q → agF (z_QK S) (z_QV S) r s i → wp g h mX4_agree (mixW g S) [some (.ref 20), some (.int (r)), some (.int (s)), some (.int (nI i))] [] 0 (QQ g h mX4_agree post xp) 2 := by
  intro n
  induction n with
  | zero =>
    intro i h1 ha
    obtain rfl : q = i := by omega
    refine q_iload_n dX4_agree_2 rfl ?_
    refine q_aload_n dX4_agree_3 rfl ?_
    refine q_get (j := 3) (v := .int ((z_QS S))) dX4_agree_4 (Nat.le_of_ble_eq_true rfl) rfl rfl iuX4 (Nat.le_of_ble_eq_true rfl) uw_179 rfl rfl ?_
    refine wp_top (y := nI q) hq ?_
    refine q_icmp_ge 41 dX4_agree_7 rfl (fun c7 => ?_) (fun c7 => ?_)
    · have n7 := (nI_leI (a := q) (b := q) (by omega) (by omega)).mp c7
      refine q_iconst (v := 1) dX4_agree_41 rfl ?_
      exact q_zret dX4_agree_42 rfl rfl (by rw [pI_t ha] at hp; exact hp)
    · have n7 := mt (nI_leI (a := q) (b := q) (by omega) (by omega)).mpr c7
      omega
  | succ n ih =>
    intro i h1 ha
    refine q_iload_n dX4_agree_2 rfl ?_
    refine q_aload_n dX4_agree_3 rfl ?_
    refine q_get (j := 3) (v := .int ((z_QS S))) dX4_agree_4 (Nat.le_of_ble_eq_true rfl) rfl rfl iuX4 (Nat.le_of_ble_eq_true rfl) uw_179 rfl rfl ?_
    refine wp_top (y := nI q) hq ?_
    refine q_icmp_ge 41 dX4_agree_7 rfl (fun c7 => ?_) (fun c7 => ?_)
    · have n7 := (nI_leI (a := q) (b := i) (by omega) (by omega)).mp c7
      omega
    · have n7 := mt (nI_leI (a := q) (b := i) (by omega) (by omega)).mpr c7
      refine q_aload_n dX4_agree_10 rfl ?_
      refine q_get (j := 1) (v := .ref 22) dX4_agree_11 (Nat.le_of_ble_eq_true rfl) rfl rfl iuX4 (Nat.le_of_ble_eq_true rfl) uw_177 rfl rfl ?_
      refine q_iload_n dX4_agree_14 rfl ?_
      refine q_iald (f := (z_QV S)) dX4_agree_15 (Nat.le_of_ble_eq_true rfl) rfl (i) rfl (by omega) (Nat.le_of_ble_eq_true rfl) ?_
      refine q_aload_n dX4_agree_16 rfl ?_
      refine q_get (j := 0) (v := .ref 21) dX4_agree_17 (Nat.le_of_ble_eq_true rfl) rfl rfl iuX4 (Nat.le_of_ble_eq_true rfl) uw_176 rfl rfl ?_
      refine q_iload_n dX4_agree_20 rfl ?_
      refine q_iald (f := (z_QK S)) dX4_agree_21 (Nat.le_of_ble_eq_true rfl) rfl (i) rfl (by omega) (Nat.le_of_ble_eq_true rfl) ?_
      refine q_if_ne 29 dX4_agree_22 rfl (fun c22 => ?_) (fun c22 => ?_)
      · refine q_iload_n dX4_agree_29 rfl ?_
        refine q_icmp_eq 35 dX4_agree_30 rfl (fun c30 => ?_) (fun c30 => ?_)
        · refine q_iinc3 (k9 := 1) dX4_agree_35 rfl (Nat.le_of_ble_eq_true rfl) rfl ?_
          refine wp_L (L2 := [some (.ref 20), some (.int (r)), some (.int (s)), some (.int (nI (i + 1)))]) (by rw [show nI i + 1 = nI (i + 1) from nI_1 _]) ?_
          refine q_goto 2 dX4_agree_38 rfl ?_
          exact ih (i + 1) (by omega) (by intro j hj; rcases Nat.lt_or_ge j i with e | e; exact ha j e; obtain rfl : j = i := (by omega); first | (rw [if_pos (by assumption)]; assumption) | (rw [if_neg (by assumption)]; assumption))
        · refine q_iconst (v := 0) dX4_agree_33 rfl ?_
          exact q_zret dX4_agree_34 rfl rfl (by rw [pI_f (fun z => by have z2 := z i (by omega); first | (rw [if_pos (by assumption)] at z2; exact absurd z2 (by assumption)) | (rw [if_neg (by assumption)] at z2; exact absurd z2 (by assumption)))] at hp; exact hp)
      · refine q_iload_n dX4_agree_25 rfl ?_
        refine q_goto 30 dX4_agree_26 rfl ?_
        refine q_icmp_eq 35 dX4_agree_30 rfl (fun c30 => ?_) (fun c30 => ?_)
        · refine q_iinc3 (k9 := 1) dX4_agree_35 rfl (Nat.le_of_ble_eq_true rfl) rfl ?_
          refine wp_L (L2 := [some (.ref 20), some (.int (r)), some (.int (s)), some (.int (nI (i + 1)))]) (by rw [show nI i + 1 = nI (i + 1) from nI_1 _]) ?_
          refine q_goto 2 dX4_agree_38 rfl ?_
          exact ih (i + 1) (by omega) (by intro j hj; rcases Nat.lt_or_ge j i with e | e; exact ha j e; obtain rfl : j = i := (by omega); first | (rw [if_pos (by assumption)]; assumption) | (rw [if_neg (by assumption)]; assumption))
        · refine q_iconst (v := 0) dX4_agree_33 rfl ?_
          exact q_zret dX4_agree_34 rfl rfl (by rw [pI_f (fun z => by have z2 := z i (by omega); first | (rw [if_pos (by assumption)] at z2; exact absurd z2 (by assumption)) | (rw [if_neg (by assumption)] at z2; exact absurd z2 (by assumption)))] at hp; exact hp)
set_option maxRecDepth 100000 in
set_option maxHeartbeats 4000000 in
theorem c_X4_agree {g : G0} (hG : Gd g) (S : SS) (r : Int32) (s : Int32) (q : Nat) (h1 : (z_QS S) = nI q) (h2 : q ≤ 5) : ctv g mX4_agree [.ref 20, .int r, .int s] (mixW g S) (.int (pI (agF (z_QK S) (z_QV S) r s q))) (mixW g S) := by
  refine ct_of hG [some (.ref 20), some (.int (r)), some (.int (s)), none] rfl rfl rfl (Nat.le_of_ble_eq_true rfl) (fun h => ?_) rfl
  refine q_iconst (v := 0) dX4_agree_0 rfl ?_
  refine q_ist3 dX4_agree_1 (Nat.le_of_ble_eq_true rfl) rfl ?_
  exact l_X4_agree hG S r s q h1 h2 ⟨rfl, rfl⟩ q 0 (by omega) (fun j hj => absurd hj (Nat.not_lt_zero j))
