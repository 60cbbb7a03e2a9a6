theorem nI48 {t : Nat} (h : t < 65536) : (nI t - 48).toInt = (t : Int) - 48 := pk_sub_toInt (b := 48) (by omega) (by omega)
theorem dig_iff {t : Nat} (h : t < 65536) : (0 ≤ nI t - 48 ∧ nI t - 48 ≤ 9) ↔ isDig t := by
  rw [fa_le, fa_le, nI48 h, show (0 : Int32).toInt = 0 from rfl, show (9 : Int32).toInt = 9 from rfl]
  unfold isDig
  omega
theorem gol_iff {t : Nat} (h : t < 65536) : ((nI t - 48 = 8 ∨ nI t - 48 = 9) ∨ (0 ≤ nI t - 48 ∧ nI t - 48 < 6)) ↔ (isCD t ∨ t = 56 ∨ t = 57) := by
  rw [fa_le, fa_lt, fa_eq, fa_eq, nI48 h, show (0 : Int32).toInt = 0 from rfl, show (8 : Int32).toInt = 8 from rfl, show (9 : Int32).toInt = 9 from rfl, show (6 : Int32).toInt = 6 from rfl]
  unfold isCD
  omega
theorem le5_iff {t : Nat} (h : t < 65536) : nI t - 48 ≤ 5 ↔ t ≤ 53 := by
  rw [fa_le, nI48 h, show (5 : Int32).toInt = 5 from rfl]
  omega
theorem m9_dig : ¬ ((0 : Int32) ≤ -9 ∧ (-9 : Int32) ≤ 9) := by decide
theorem m9_gol : ¬ (((-9 : Int32) = 8 ∨ (-9 : Int32) = 9) ∨ ((0 : Int32) ≤ -9 ∧ (-9 : Int32) < 6)) := by decide
/-- the first error is at s -/
def errAt (t : Nat → Nat) (len s : Nat) : Prop := s ≤ len ∧ (∀ j, j < s → allow j (t j)) ∧ ((s < len ∧ ¬ allow s (t s)) ∨ (s = len ∧ ¬ (8 ≤ len ∧ (len - 8) % 7 = 0)))
theorem feF_all {t : Nat → Nat} {len : Nat} : ∀ n, n ≤ len → (∀ j, len - n ≤ j → j < len → allow j (t j)) → feF t len n = if 8 ≤ len ∧ (len - 8) % 7 = 0 then -9 else nI len
  | 0, _, _ => rfl
  | n + 1, h, ha => by rw [feF_t (ha _ (by omega) (by omega))]; exact feF_all n (by omega) (fun j h1 h2 => ha j (by omega) h2)
theorem feF_err {t : Nat → Nat} {len s : Nat} (h : errAt t len s) : feF t len len = nI s := by
  obtain ⟨h1, h2, h3⟩ := h
  rcases h3 with ⟨h3, h4⟩ | ⟨rfl, h4⟩
  · have key : ∀ n, n ≤ len → len - s ≤ n → feF t len n = nI s := by
      intro n
      induction n with
      | zero => intro a b; omega
      | succ n ih =>
        intro a b
        by_cases e : len - (n + 1) = s
        · rw [feF_f (by rw [e]; exact h4), e]
        · rw [feF_t (h2 _ (by omega))]
          exact ih (by omega) (by omega)
    exact key len (Nat.le_refl _) (by omega)
  · rw [feF_all s (Nat.le_refl _) (fun j _ hj => h2 j hj), if_neg h4]
theorem feF_ok {t : Nat → Nat} {len : Nat} (h : ∀ j, j < len → allow j (t j)) (h2 : 8 ≤ len ∧ (len - 8) % 7 = 0) : feF t len len = -9 := by
  rw [feF_all len (Nat.le_refl _) (fun j _ hj => h j hj), if_pos h2]
def rdM (t : Nat → Nat) (f : Nat → Int32) : Nat → Nat → Int32
  | 0 => upd (upd (upd (filF f 0 44) 25 (nI (t 1 - 48))) 26 (nI (dN t 2 3))) 27 (nI (dN t 5 3))
  | c + 1 => pushM (rdM t f c) c (nI (dN t (8 + 7 * c + 1) 2)) (nI (dN t (8 + 7 * c + 3) 2)) (nI (t (8 + 7 * c + 5) - 48)) (nI (t (8 + 7 * c + 6) - 48))
theorem rdM_0 (t : Nat → Nat) (f : Nat → Int32) : ∀ i, rdM t f i 0 = nI i
  | 0 => by simp [rdM, upd, filF]; rfl
  | i + 1 => by simp only [rdM, pushM, upd, if_true]; exact nI_1 i
set_option maxRecDepth 100000 in
set_option maxHeartbeats 4000000 in
theorem c_X10_readLetter {g : G0} (hG : Gd g) (S : SS) (c : Nat) (t : Nat → Nat) (len : Nat) (i : Nat) (h1 : (z_SP S) = nI i) (h2 : i ≤ len) (h3 : (z_SS S) = nI len) (h4 : len ≤ 60) (h5 : ∀ j, j < len → (z_SC S) j = nI (t j) ∧ t j < 65536) (h6 : c < 65536) : ct g mX10_readLetter [.ref 26, .int (nI c)] (mixW g S) (fun v w1 => (v = some (.int 1) ∧ (i < len ∧ t i = c) ∧ w1 = mixW g (s_SP S (nI (i + 1)))) ∨ (v = some (.int 0) ∧ ¬ (i < len ∧ t i = c) ∧ w1 = mixW g (s_SP S (nI i)))) (fun _ _ => False) := by
  refine ct_of hG [some (.ref 26), some (.int (nI c)), none] rfl rfl rfl (Nat.le_of_ble_eq_true rfl) (fun h => ?_) rfl
  refine q_aload_n dX10_readLetter_0 rfl ?_
  refine q_get (j := 11) (v := .int ((z_SP S))) dX10_readLetter_1 (Nat.le_of_ble_eq_true rfl) rfl rfl iuX10 (Nat.le_of_ble_eq_true rfl) uw_935 rfl rfl ?_
  refine wp_top (y := nI i) h1 ?_
  refine q_aload_n dX10_readLetter_4 rfl ?_
  refine q_get (j := 10) (v := .int ((z_SS S))) dX10_readLetter_5 (Nat.le_of_ble_eq_true rfl) rfl rfl iuX10 (Nat.le_of_ble_eq_true rfl) uw_934 rfl rfl ?_
  refine wp_top (y := nI len) h3 ?_
  refine q_icmp_ge 28 dX10_readLetter_8 rfl (fun c8 => ?_) (fun c8 => ?_)
  · have n8 := (nI_leI (a := len) (b := i) (by omega) (by omega)).mp c8
    refine q_iconst (v := 0) dX10_readLetter_28 rfl ?_
    refine q_ist2 dX10_readLetter_29 (Nat.le_of_ble_eq_true rfl) rfl ?_
    refine q_aload_n dX10_readLetter_30 rfl ?_
    refine q_dup dX10_readLetter_31 rfl ?_
    refine q_get (j := 11) (v := .int ((z_SP S))) dX10_readLetter_32 (Nat.le_of_ble_eq_true rfl) rfl rfl iuX10 (Nat.le_of_ble_eq_true rfl) uw_935 rfl rfl ?_
    refine wp_top (y := nI i) h1 ?_
    refine q_iload_n dX10_readLetter_35 rfl ?_
    refine q_if_eq 43 dX10_readLetter_36 rfl (fun c36 => ?_) (fun c36 => ?_)
    · refine q_iconst (v := 0) dX10_readLetter_43 rfl ?_
      refine q_iadd dX10_readLetter_44 ?_
      refine wp_top (y := nI i) (nI_add i 0) ?_
      refine q_put (j := 11) (ty := .int) dX10_readLetter_45 (Nat.le_of_ble_eq_true rfl) rfl rfl iuX10 tyX10_ok nmX10 (Nat.le_of_ble_eq_true rfl) uw_935 rfl rfl rfl rfl rfl (Nat.le_of_ble_eq_true rfl) ?_
      refine wp_w (u_SP g _ _) ?_
      refine q_iload_n dX10_readLetter_48 rfl ?_
      exact q_zret dX10_readLetter_49 rfl rfl (Or.inr ⟨rfl, by omega, rfl⟩)
    · first | exact absurd (by decide) c36 | exact absurd c36 (by decide)
  · have n8 := mt (nI_leI (a := len) (b := i) (by omega) (by omega)).mpr c8
    refine q_aload_n dX10_readLetter_11 rfl ?_
    refine q_get (j := 9) (v := .ref 33) dX10_readLetter_12 (Nat.le_of_ble_eq_true rfl) rfl rfl iuX10 (Nat.le_of_ble_eq_true rfl) uw_933 rfl rfl ?_
    refine q_aload_n dX10_readLetter_15 rfl ?_
    refine q_get (j := 11) (v := .int ((z_SP S))) dX10_readLetter_16 (Nat.le_of_ble_eq_true rfl) rfl rfl iuX10 (Nat.le_of_ble_eq_true rfl) uw_935 rfl rfl ?_
    refine wp_top (y := nI i) h1 ?_
    refine q_iald (f := (z_SC S)) dX10_readLetter_19 (Nat.le_of_ble_eq_true rfl) rfl (i) rfl (by omega) (Nat.le_of_ble_eq_true rfl) ?_
    refine wp_top (y := nI (t i)) (h5 i (by omega)).1 ?_
    have h5i := (h5 i (by omega)).2
    refine q_iload_n dX10_readLetter_20 rfl ?_
    refine q_icmp_ne 28 dX10_readLetter_21 rfl (fun c21 => ?_) (fun c21 => ?_)
    · have n21 := mt (nI_eq (a := (t i)) (b := c) (by omega) (by omega)).mpr c21
      refine q_iconst (v := 0) dX10_readLetter_28 rfl ?_
      refine q_ist2 dX10_readLetter_29 (Nat.le_of_ble_eq_true rfl) rfl ?_
      refine q_aload_n dX10_readLetter_30 rfl ?_
      refine q_dup dX10_readLetter_31 rfl ?_
      refine q_get (j := 11) (v := .int ((z_SP S))) dX10_readLetter_32 (Nat.le_of_ble_eq_true rfl) rfl rfl iuX10 (Nat.le_of_ble_eq_true rfl) uw_935 rfl rfl ?_
      refine wp_top (y := nI i) h1 ?_
      refine q_iload_n dX10_readLetter_35 rfl ?_
      refine q_if_eq 43 dX10_readLetter_36 rfl (fun c36 => ?_) (fun c36 => ?_)
      · refine q_iconst (v := 0) dX10_readLetter_43 rfl ?_
        refine q_iadd dX10_readLetter_44 ?_
        refine wp_top (y := nI i) (nI_add i 0) ?_
        refine q_put (j := 11) (ty := .int) dX10_readLetter_45 (Nat.le_of_ble_eq_true rfl) rfl rfl iuX10 tyX10_ok nmX10 (Nat.le_of_ble_eq_true rfl) uw_935 rfl rfl rfl rfl rfl (Nat.le_of_ble_eq_true rfl) ?_
        refine wp_w (u_SP g _ _) ?_
        refine q_iload_n dX10_readLetter_48 rfl ?_
        exact q_zret dX10_readLetter_49 rfl rfl (Or.inr ⟨rfl, by omega, rfl⟩)
      · first | exact absurd (by decide) c36 | exact absurd c36 (by decide)
    · have n21 := (nI_eq (a := (t i)) (b := c) (by omega) (by omega)).mp c21
      refine q_iconst (v := 1) dX10_readLetter_24 rfl ?_
      refine q_goto 29 dX10_readLetter_25 rfl ?_
      refine q_ist2 dX10_readLetter_29 (Nat.le_of_ble_eq_true rfl) rfl ?_
      refine q_aload_n dX10_readLetter_30 rfl ?_
      refine q_dup dX10_readLetter_31 rfl ?_
      refine q_get (j := 11) (v := .int ((z_SP S))) dX10_readLetter_32 (Nat.le_of_ble_eq_true rfl) rfl rfl iuX10 (Nat.le_of_ble_eq_true rfl) uw_935 rfl rfl ?_
      refine wp_top (y := nI i) h1 ?_
      refine q_iload_n dX10_readLetter_35 rfl ?_
      refine q_if_eq 43 dX10_readLetter_36 rfl (fun c36 => ?_) (fun c36 => ?_)
      · first | exact absurd (by decide) c36 | exact absurd c36 (by decide)
      · refine q_iconst (v := 1) dX10_readLetter_39 rfl ?_
        refine q_goto 44 dX10_readLetter_40 rfl ?_
        refine q_iadd dX10_readLetter_44 ?_
        refine wp_top (y := nI (i + 1)) (nI_1 i) ?_
        refine q_put (j := 11) (ty := .int) dX10_readLetter_45 (Nat.le_of_ble_eq_true rfl) rfl rfl iuX10 tyX10_ok nmX10 (Nat.le_of_ble_eq_true rfl) uw_935 rfl rfl rfl rfl rfl (Nat.le_of_ble_eq_true rfl) ?_
        refine wp_w (u_SP g _ _) ?_
        refine q_iload_n dX10_readLetter_48 rfl ?_
        exact q_zret dX10_readLetter_49 rfl rfl (Or.inl ⟨rfl, ⟨by omega, n21⟩, rfl⟩)
set_option maxRecDepth 100000 in
set_option maxHeartbeats 4000000 in
theorem l_X10_readNumber {g : G0} {h : G1} (hG : Gd g) (S : SS) {post : Option Value → (Nat → va_E) → Prop} {xp : String → (Nat → va_E) → Prop} (t : Nat → Nat) (len i d pl : Nat) (h3 : z_SS S = nI len) (h4 : len ≤ 60) (h5 : ∀ j, j < len → z_SC S j = nI (t j) ∧ t j < 65536) (hd : d ≤ 3) (hpl : pl < 44) (hp1 : (i + d ≤ len ∧ ∀ j, i ≤ j → j < i + d → isDig (t j)) → post (some (.int 1)) (mixW g (s_SP (s_RD S (upd (z_RD S) pl (nI (dN t i d)))) (nI (i + d))))) (hp0 : ∀ s, i ≤ s → s < i + d → s ≤ len → (∀ j, i ≤ j → j < s → isDig (t j)) → (s < len → ¬ isDig (t s)) → post (some (.int 0)) (mixW g (s_SP S (nI s)))) : ∀ (n k : Nat), k + n = d → i + k ≤ len → (∀ j, i ≤ j → j < i + k → isDig (t j)) → wp g h mX10_readNumber (mixW g (s_SP S (nI (i + k)))) [some (.ref 26), some (.int (nI d)), some (.int (nI pl)), some (.int (nI (dN t i k))), some (.int (nI k)), none] [] 0 (QQ g h mX10_readNumber post xp) 5 := by
  intro n
  induction n with
  | zero =>
    intro k hq1 hk ha
    obtain rfl : d = k := by omega
    refine q_iload dX10_readNumber_5 rfl ?_
    refine q_iload_n dX10_readNumber_7 rfl ?_
    refine q_icmp_ge 80 dX10_readNumber_8 rfl (fun c8 => ?_) (fun c8 => ?_)
    · have n8 := (nI_leI (a := d) (b := d) (by omega) (by omega)).mp c8
      refine q_aload_n dX10_readNumber_80 rfl ?_
      refine q_get (j := 12) (v := .ref 34) dX10_readNumber_81 (Nat.le_of_ble_eq_true rfl) rfl rfl iuX10 (Nat.le_of_ble_eq_true rfl) uw_936 rfl rfl ?_
      refine q_iload_n dX10_readNumber_84 rfl ?_
      refine q_iload_n dX10_readNumber_85 rfl ?_
      refine q_iast (f := (z_RD S)) dX10_readNumber_86 (Nat.le_of_ble_eq_true rfl) rfl (pl) rfl (by omega) (Nat.le_of_ble_eq_true rfl) ?_
      refine wp_w (u_RD g _ _) ?_
      rw [sc_RD_SP]
      refine q_iconst (v := 1) dX10_readNumber_87 rfl ?_
      exact q_zret dX10_readNumber_88 rfl rfl (hp1 ⟨hk, ha⟩)
    · have n8 := mt (nI_leI (a := d) (b := d) (by omega) (by omega)).mpr c8
      omega
  | succ n ih =>
    intro k hq1 hk ha
    refine q_iload dX10_readNumber_5 rfl ?_
    refine q_iload_n dX10_readNumber_7 rfl ?_
    refine q_icmp_ge 80 dX10_readNumber_8 rfl (fun c8 => ?_) (fun c8 => ?_)
    · have n8 := (nI_leI (a := d) (b := k) (by omega) (by omega)).mp c8
      omega
    · have n8 := mt (nI_leI (a := d) (b := k) (by omega) (by omega)).mpr c8
      refine q_aload_n dX10_readNumber_11 rfl ?_
      refine q_get (j := 11) (v := .int ((nI (i + k)))) dX10_readNumber_12 (Nat.le_of_ble_eq_true rfl) rfl rfl iuX10 (Nat.le_of_ble_eq_true rfl) uw_935 rfl rfl ?_
      refine q_aload_n dX10_readNumber_15 rfl ?_
      refine q_get (j := 10) (v := .int ((z_SS S))) dX10_readNumber_16 (Nat.le_of_ble_eq_true rfl) rfl rfl iuX10 (Nat.le_of_ble_eq_true rfl) uw_934 rfl rfl ?_
      refine wp_top (y := nI len) h3 ?_
      refine q_icmp_ge 37 dX10_readNumber_19 rfl (fun c19 => ?_) (fun c19 => ?_)
      · have n19 := (nI_leI (a := len) (b := (i + k)) (by omega) (by omega)).mp c19
        refine q_bipush (v := (-9)) dX10_readNumber_37 rfl ?_
        refine q_ist5 dX10_readNumber_39 (Nat.le_of_ble_eq_true rfl) rfl ?_
        refine q_iload dX10_readNumber_41 rfl ?_
        refine q_i2l dX10_readNumber_43 ?_
        refine q_lconst (v := 0) dX10_readNumber_44 rfl ?_
        refine q_ldc2 dX10_readNumber_45 uw_1029 ?_
        refine q_callSv (ν := mX10_in) dX10_readNumber_48 uw_997 vX10_in (c_X10_in hG (s_SP S (nI (i + k))) ((((-9) : Int32).toInt64)) (0) (9)) rfl rfl (Nat.le_of_ble_eq_true rfl) (Nat.le_of_ble_eq_true rfl) (Nat.le_of_ble_eq_true rfl) 0 (Nat.le_of_ble_eq_true rfl) ?_
        refine wp_eq (st2 := .int ((pI (0 ≤ (((-9) : Int32).toInt64) ∧ (((-9) : Int32).toInt64) ≤ 9))) :: _) rfl ?_
        refine wp_top (y := pI (0 ≤ ((-9)) ∧ ((-9)) ≤ 9)) (inI (l2 := 0) (u2 := 9) rfl rfl) ?_
        refine q_if_ne 56 dX10_readNumber_51 rfl (fun c51 => ?_) (fun c51 => ?_)
        · exact absurd (pI_1 c51) m9_dig
        · refine q_iconst (v := 0) dX10_readNumber_54 rfl ?_
          exact q_zret dX10_readNumber_55 rfl rfl (hp0 (i + k) (by omega) (by omega) hk ha (by first | exact fun hl => fun z => pI_0 c51 ((dig_iff (h5 (i + k) (by omega)).2).mpr z) | exact fun hl => absurd hl (by omega)))
      · have n19 := mt (nI_leI (a := len) (b := (i + k)) (by omega) (by omega)).mpr c19
        refine q_aload_n dX10_readNumber_22 rfl ?_
        refine q_get (j := 9) (v := .ref 33) dX10_readNumber_23 (Nat.le_of_ble_eq_true rfl) rfl rfl iuX10 (Nat.le_of_ble_eq_true rfl) uw_933 rfl rfl ?_
        refine q_aload_n dX10_readNumber_26 rfl ?_
        refine q_get (j := 11) (v := .int ((nI (i + k)))) dX10_readNumber_27 (Nat.le_of_ble_eq_true rfl) rfl rfl iuX10 (Nat.le_of_ble_eq_true rfl) uw_935 rfl rfl ?_
        refine q_iald (f := (z_SC S)) dX10_readNumber_30 (Nat.le_of_ble_eq_true rfl) rfl ((i + k)) rfl (by omega) (Nat.le_of_ble_eq_true rfl) ?_
        refine wp_top (y := nI (t (i + k))) (h5 (i + k) (by omega)).1 ?_
        refine q_bipush (v := 48) dX10_readNumber_31 rfl ?_
        refine q_isub dX10_readNumber_33 ?_
        refine q_goto 39 dX10_readNumber_34 rfl ?_
        refine q_ist5 dX10_readNumber_39 (Nat.le_of_ble_eq_true rfl) rfl ?_
        refine q_iload dX10_readNumber_41 rfl ?_
        refine q_i2l dX10_readNumber_43 ?_
        refine q_lconst (v := 0) dX10_readNumber_44 rfl ?_
        refine q_ldc2 dX10_readNumber_45 uw_1029 ?_
        refine q_callSv (ν := mX10_in) dX10_readNumber_48 uw_997 vX10_in (c_X10_in hG (s_SP S (nI (i + k))) ((((nI (t (i + k)) - 48) : Int32).toInt64)) (0) (9)) rfl rfl (Nat.le_of_ble_eq_true rfl) (Nat.le_of_ble_eq_true rfl) (Nat.le_of_ble_eq_true rfl) 0 (Nat.le_of_ble_eq_true rfl) ?_
        refine wp_eq (st2 := .int ((pI (0 ≤ (((nI (t (i + k)) - 48) : Int32).toInt64) ∧ (((nI (t (i + k)) - 48) : Int32).toInt64) ≤ 9))) :: _) rfl ?_
        refine wp_top (y := pI (0 ≤ ((nI (t (i + k)) - 48)) ∧ ((nI (t (i + k)) - 48)) ≤ 9)) (inI (l2 := 0) (u2 := 9) rfl rfl) ?_
        refine q_if_ne 56 dX10_readNumber_51 rfl (fun c51 => ?_) (fun c51 => ?_)
        · have hdg := (dig_iff (h5 (i + k) (by omega)).2).mp (pI_1 c51)
          refine q_bipush (v := 10) dX10_readNumber_56 rfl ?_
          refine q_iload_n dX10_readNumber_58 rfl ?_
          refine q_imul dX10_readNumber_59 ?_
          refine q_iload dX10_readNumber_60 rfl ?_
          refine q_iadd dX10_readNumber_62 ?_
          refine wp_top (y := nI (dN t i (k + 1))) (by rw [show nI (t (i + k)) - 48 = nI (t (i + k) - 48) from pk_sub (b := 48) hdg.1]; simp only [fa_lit, pk_mul, nI_add]; rfl) ?_
          refine q_ist3 dX10_readNumber_63 (Nat.le_of_ble_eq_true rfl) rfl ?_
          refine q_aload_n dX10_readNumber_64 rfl ?_
          refine q_dup dX10_readNumber_65 rfl ?_
          refine q_get (j := 11) (v := .int ((nI (i + k)))) dX10_readNumber_66 (Nat.le_of_ble_eq_true rfl) rfl rfl iuX10 (Nat.le_of_ble_eq_true rfl) uw_935 rfl rfl ?_
          refine q_iconst (v := 1) dX10_readNumber_69 rfl ?_
          refine q_iadd dX10_readNumber_70 ?_
          refine wp_top (y := nI (i + (k + 1))) (nI_1 (i + k)) ?_
          refine q_put (j := 11) (ty := .int) dX10_readNumber_71 (Nat.le_of_ble_eq_true rfl) rfl rfl iuX10 tyX10_ok nmX10 (Nat.le_of_ble_eq_true rfl) uw_935 rfl rfl rfl rfl rfl (Nat.le_of_ble_eq_true rfl) ?_
          refine wp_w (u_SP g _ _) ?_
          rw [ss_SP]
          refine q_iinc4 (k9 := 1) dX10_readNumber_74 rfl (Nat.le_of_ble_eq_true rfl) rfl ?_
          refine wp_L (L2 := [some (.ref 26), some (.int (nI d)), some (.int (nI pl)), some (.int (nI (dN t i (k + 1)))), some (.int (nI (k + 1))), some (.int ((nI (t (i + k)) - 48)))]) (by rw [show nI k + 1 = nI (k + 1) from nI_1 _]) ?_
          refine q_goto 5 dX10_readNumber_77 rfl ?_
          refine wp_fg (L2 := [some (.ref 26), some (.int (nI d)), some (.int (nI pl)), some (.int (nI (dN t i (k + 1)))), some (.int (nI (k + 1))), none]) ⟨rfl, rfl, rfl, rfl, rfl, trivial⟩ ?_
          exact ih (k + 1) (by omega) (by omega) (fun j h1 h2 => by rcases Nat.lt_or_ge j (i + k) with q | q; exact ha j h1 q; obtain rfl : j = i + k := (by omega); exact hdg)
        · refine q_iconst (v := 0) dX10_readNumber_54 rfl ?_
          exact q_zret dX10_readNumber_55 rfl rfl (hp0 (i + k) (by omega) (by omega) hk ha (by first | exact fun hl => fun z => pI_0 c51 ((dig_iff (h5 (i + k) (by omega)).2).mpr z) | exact fun hl => absurd hl (by omega)))
set_option maxRecDepth 100000 in
set_option maxHeartbeats 4000000 in
theorem c_X10_readNumber {g : G0} (hG : Gd g) (S : SS) (d : Nat) (pl : Nat) (t : Nat → Nat) (len : Nat) (i : Nat) (h1 : (z_SP S) = nI i) (h2 : i ≤ len) (h3 : (z_SS S) = nI len) (h4 : len ≤ 60) (h5 : ∀ j, j < len → (z_SC S) j = nI (t j) ∧ t j < 65536) (h6 : d ≤ 3) (h7 : pl < 44) : ct g mX10_readNumber [.ref 26, .int (nI d), .int (nI pl)] (mixW g S) (fun v w1 => (v = some (.int 1) ∧ (i + d ≤ len ∧ ∀ j, i ≤ j → j < i + d → isDig (t j)) ∧ w1 = mixW g (s_SP (s_RD S (upd (z_RD S) pl (nI (dN t i d)))) (nI (i + d)))) ∨ (v = some (.int 0) ∧ ∃ s, (i ≤ s ∧ s < i + d ∧ s ≤ len ∧ (∀ j, i ≤ j → j < s → isDig (t j)) ∧ (s < len → ¬ isDig (t s))) ∧ w1 = mixW g (s_SP S (nI s)))) (fun _ _ => False) := by
  refine ct_of hG [some (.ref 26), some (.int (nI d)), some (.int (nI pl)), none, none, none] rfl rfl rfl (Nat.le_of_ble_eq_true rfl) (fun h => ?_) rfl
  refine q_iconst (v := 0) dX10_readNumber_0 rfl ?_
  refine q_ist3 dX10_readNumber_1 (Nat.le_of_ble_eq_true rfl) rfl ?_
  refine q_iconst (v := 0) dX10_readNumber_2 rfl ?_
  refine q_ist4 dX10_readNumber_3 (Nat.le_of_ble_eq_true rfl) rfl ?_
  refine wp_w (w2 := mixW g (s_SP S (nI (i + 0)))) (by rw [show nI (i + 0) = z_SP S from h1.symm, se_SP]) ?_
  refine wp_L (L2 := [some (.ref 26), some (.int (nI d)), some (.int (nI pl)), some (.int (nI (dN t i 0))), some (.int (nI 0)), none]) rfl ?_
  exact l_X10_readNumber hG S t len i d pl h3 h4 h5 h6 h7 (fun hh => Or.inl ⟨rfl, hh, rfl⟩) (fun s a1 a2 a3 a4 a5 => Or.inr ⟨rfl, s, ⟨a1, a2, a3, a4, a5⟩, rfl⟩) d 0 (by omega) (by omega) (fun j x y => absurd y (by omega))
set_option maxRecDepth 100000 in
set_option maxHeartbeats 4000000 in
theorem c_X10_readGoal_0 {g : G0} (hG : Gd g) (S : SS) (pl : Nat) (t : Nat → Nat) (len : Nat) (i : Nat) (h1 : (z_SP S) = nI i) (h2 : i ≤ len) (h3 : (z_SS S) = nI len) (h4 : len ≤ 60) (h5 : ∀ j, j < len → (z_SC S) j = nI (t j) ∧ t j < 65536) (h6 : pl < 44) : ct g mX10_readGoal [.ref 26, .int (nI pl), .int 0] (mixW g S) (fun v w1 => (v = some (.int 1) ∧ (i < len ∧ (isCD (t i) ∨ t i = 56 ∨ t i = 57)) ∧ w1 = mixW g (s_SP (s_RD S (upd (z_RD S) pl (nI (t i - 48)))) (nI (i + 1)))) ∨ (v = some (.int 0) ∧ ¬ (i < len ∧ (isCD (t i) ∨ t i = 56 ∨ t i = 57)) ∧ w1 = mixW g S)) (fun _ _ => False) := by
  refine ct_of hG [some (.ref 26), some (.int (nI pl)), some (.int (0)), none] rfl rfl rfl (Nat.le_of_ble_eq_true rfl) (fun h => ?_) rfl
  refine q_aload_n dX10_readGoal_0 rfl ?_
  refine q_get (j := 11) (v := .int ((z_SP S))) dX10_readGoal_1 (Nat.le_of_ble_eq_true rfl) rfl rfl iuX10 (Nat.le_of_ble_eq_true rfl) uw_935 rfl rfl ?_
  refine wp_top (y := nI i) h1 ?_
  refine q_aload_n dX10_readGoal_4 rfl ?_
  refine q_get (j := 10) (v := .int ((z_SS S))) dX10_readGoal_5 (Nat.le_of_ble_eq_true rfl) rfl rfl iuX10 (Nat.le_of_ble_eq_true rfl) uw_934 rfl rfl ?_
  refine wp_top (y := nI len) h3 ?_
  refine q_icmp_ge 26 dX10_readGoal_8 rfl (fun c8 => ?_) (fun c8 => ?_)
  · have n8 := (nI_leI (a := len) (b := i) (by omega) (by omega)).mp c8
    refine q_bipush (v := (-9)) dX10_readGoal_26 rfl ?_
    refine q_ist3 dX10_readGoal_28 (Nat.le_of_ble_eq_true rfl) rfl ?_
    refine q_iload_n dX10_readGoal_29 rfl ?_
    refine q_callSv (ν := mX10_isGoal) dX10_readGoal_30 uw_1024 vX10_isGoal (c_X10_isGoal hG S (((-9)))) rfl rfl (Nat.le_of_ble_eq_true rfl) (Nat.le_of_ble_eq_true rfl) (Nat.le_of_ble_eq_true rfl) 0 (Nat.le_of_ble_eq_true rfl) ?_
    refine q_if_eq 45 dX10_readGoal_33 rfl (fun c33 => ?_) (fun c33 => ?_)
    · refine q_iconst (v := 0) dX10_readGoal_45 rfl ?_
      exact q_zret dX10_readGoal_46 rfl rfl (Or.inr ⟨rfl, by first | (intro z; exact pI_0 c33 ((gol_iff (h5 i z.1).2).mpr z.2)) | (intro z; exact absurd z.1 (by omega)) | (intro z; have z1 := (le5_iff (h5 i z.1).2).mpr (by have := z.2; unfold isCD at this; omega); exact absurd z1 c42), rfl⟩)
    · refine q_iload_n dX10_readGoal_36 rfl ?_
      refine q_if_eq 47 dX10_readGoal_37 rfl (fun c37 => ?_) (fun c37 => ?_)
      · exact absurd (pI_1 c33) m9_gol
      · first | exact absurd (by decide) c37 | exact absurd c37 (by decide)
  · have n8 := mt (nI_leI (a := len) (b := i) (by omega) (by omega)).mpr c8
    refine q_aload_n dX10_readGoal_11 rfl ?_
    refine q_get (j := 9) (v := .ref 33) dX10_readGoal_12 (Nat.le_of_ble_eq_true rfl) rfl rfl iuX10 (Nat.le_of_ble_eq_true rfl) uw_933 rfl rfl ?_
    refine q_aload_n dX10_readGoal_15 rfl ?_
    refine q_get (j := 11) (v := .int ((z_SP S))) dX10_readGoal_16 (Nat.le_of_ble_eq_true rfl) rfl rfl iuX10 (Nat.le_of_ble_eq_true rfl) uw_935 rfl rfl ?_
    refine wp_top (y := nI i) h1 ?_
    refine q_iald (f := (z_SC S)) dX10_readGoal_19 (Nat.le_of_ble_eq_true rfl) rfl (i) rfl (by omega) (Nat.le_of_ble_eq_true rfl) ?_
    refine wp_top (y := nI (t i)) (h5 i (by omega)).1 ?_
    refine q_bipush (v := 48) dX10_readGoal_20 rfl ?_
    refine q_isub dX10_readGoal_22 ?_
    refine q_goto 28 dX10_readGoal_23 rfl ?_
    refine q_ist3 dX10_readGoal_28 (Nat.le_of_ble_eq_true rfl) rfl ?_
    refine q_iload_n dX10_readGoal_29 rfl ?_
    refine q_callSv (ν := mX10_isGoal) dX10_readGoal_30 uw_1024 vX10_isGoal (c_X10_isGoal hG S (((nI (t i) - 48)))) rfl rfl (Nat.le_of_ble_eq_true rfl) (Nat.le_of_ble_eq_true rfl) (Nat.le_of_ble_eq_true rfl) 0 (Nat.le_of_ble_eq_true rfl) ?_
    refine q_if_eq 45 dX10_readGoal_33 rfl (fun c33 => ?_) (fun c33 => ?_)
    · refine q_iconst (v := 0) dX10_readGoal_45 rfl ?_
      exact q_zret dX10_readGoal_46 rfl rfl (Or.inr ⟨rfl, by first | (intro z; exact pI_0 c33 ((gol_iff (h5 i z.1).2).mpr z.2)) | (intro z; exact absurd z.1 (by omega)) | (intro z; have z1 := (le5_iff (h5 i z.1).2).mpr (by have := z.2; unfold isCD at this; omega); exact absurd z1 c42), rfl⟩)
    · refine q_iload_n dX10_readGoal_36 rfl ?_
      refine q_if_eq 47 dX10_readGoal_37 rfl (fun c37 => ?_) (fun c37 => ?_)
      · have hil : i < len := by omega
        have hg := (gol_iff (h5 i hil).2).mp (pI_1 c33)
        have h48 : 48 ≤ t i := by unfold isCD at hg; omega
        refine wp_L (L2 := [some (.ref 26), some (.int (nI pl)), some (.int (0)), some (.int (nI (t i - 48)))]) (by rw [show nI (t i) - 48 = nI (t i - 48) from pk_sub (b := 48) h48]) ?_
        refine q_aload_n dX10_readGoal_47 rfl ?_
        refine q_get (j := 12) (v := .ref 34) dX10_readGoal_48 (Nat.le_of_ble_eq_true rfl) rfl rfl iuX10 (Nat.le_of_ble_eq_true rfl) uw_936 rfl rfl ?_
        refine q_iload_n dX10_readGoal_51 rfl ?_
        refine q_iload_n dX10_readGoal_52 rfl ?_
        refine q_iast (f := (z_RD S)) dX10_readGoal_53 (Nat.le_of_ble_eq_true rfl) rfl (pl) rfl (by omega) (Nat.le_of_ble_eq_true rfl) ?_
        refine wp_w (u_RD g _ _) ?_
        refine q_aload_n dX10_readGoal_54 rfl ?_
        refine q_dup dX10_readGoal_55 rfl ?_
        refine q_get (j := 11) (v := .int ((z_SP S))) dX10_readGoal_56 (Nat.le_of_ble_eq_true rfl) rfl rfl iuX10 (Nat.le_of_ble_eq_true rfl) uw_935 rfl rfl ?_
        refine wp_top (y := nI i) h1 ?_
        refine q_iconst (v := 1) dX10_readGoal_59 rfl ?_
        refine q_iadd dX10_readGoal_60 ?_
        refine wp_top (y := nI (i + 1)) (nI_1 i) ?_
        refine q_put (j := 11) (ty := .int) dX10_readGoal_61 (Nat.le_of_ble_eq_true rfl) rfl rfl iuX10 tyX10_ok nmX10 (Nat.le_of_ble_eq_true rfl) uw_935 rfl rfl rfl rfl rfl (Nat.le_of_ble_eq_true rfl) ?_
        refine wp_w (u_SP g _ _) ?_
        refine q_iconst (v := 1) dX10_readGoal_64 rfl ?_
        exact q_zret dX10_readGoal_65 rfl rfl (Or.inl ⟨rfl, ⟨hil, hg⟩, rfl⟩)
      · first | exact absurd (by decide) c37 | exact absurd c37 (by decide)
set_option maxRecDepth 100000 in
set_option maxHeartbeats 4000000 in
theorem c_X10_readGoal_1 {g : G0} (hG : Gd g) (S : SS) (pl : Nat) (t : Nat → Nat) (len : Nat) (i : Nat) (h1 : (z_SP S) = nI i) (h2 : i ≤ len) (h3 : (z_SS S) = nI len) (h4 : len ≤ 60) (h5 : ∀ j, j < len → (z_SC S) j = nI (t j) ∧ t j < 65536) (h6 : pl < 44) : ct g mX10_readGoal [.ref 26, .int (nI pl), .int 1] (mixW g S) (fun v w1 => (v = some (.int 1) ∧ (i < len ∧ (isCD (t i))) ∧ w1 = mixW g (s_SP (s_RD S (upd (z_RD S) pl (nI (t i - 48)))) (nI (i + 1)))) ∨ (v = some (.int 0) ∧ ¬ (i < len ∧ (isCD (t i))) ∧ w1 = mixW g S)) (fun _ _ => False) := by
  refine ct_of hG [some (.ref 26), some (.int (nI pl)), some (.int (1)), none] rfl rfl rfl (Nat.le_of_ble_eq_true rfl) (fun h => ?_) rfl
  refine q_aload_n dX10_readGoal_0 rfl ?_
  refine q_get (j := 11) (v := .int ((z_SP S))) dX10_readGoal_1 (Nat.le_of_ble_eq_true rfl) rfl rfl iuX10 (Nat.le_of_ble_eq_true rfl) uw_935 rfl rfl ?_
  refine wp_top (y := nI i) h1 ?_
  refine q_aload_n dX10_readGoal_4 rfl ?_
  refine q_get (j := 10) (v := .int ((z_SS S))) dX10_readGoal_5 (Nat.le_of_ble_eq_true rfl) rfl rfl iuX10 (Nat.le_of_ble_eq_true rfl) uw_934 rfl rfl ?_
  refine wp_top (y := nI len) h3 ?_
  refine q_icmp_ge 26 dX10_readGoal_8 rfl (fun c8 => ?_) (fun c8 => ?_)
  · have n8 := (nI_leI (a := len) (b := i) (by omega) (by omega)).mp c8
    refine q_bipush (v := (-9)) dX10_readGoal_26 rfl ?_
    refine q_ist3 dX10_readGoal_28 (Nat.le_of_ble_eq_true rfl) rfl ?_
    refine q_iload_n dX10_readGoal_29 rfl ?_
    refine q_callSv (ν := mX10_isGoal) dX10_readGoal_30 uw_1024 vX10_isGoal (c_X10_isGoal hG S (((-9)))) rfl rfl (Nat.le_of_ble_eq_true rfl) (Nat.le_of_ble_eq_true rfl) (Nat.le_of_ble_eq_true rfl) 0 (Nat.le_of_ble_eq_true rfl) ?_
    refine q_if_eq 45 dX10_readGoal_33 rfl (fun c33 => ?_) (fun c33 => ?_)
    · refine q_iconst (v := 0) dX10_readGoal_45 rfl ?_
      exact q_zret dX10_readGoal_46 rfl rfl (Or.inr ⟨rfl, by first | (intro z; exact pI_0 c33 ((gol_iff (h5 i z.1).2).mpr (Or.inl z.2))) | (intro z; exact absurd z.1 (by omega)) | (intro z; have z1 := (le5_iff (h5 i z.1).2).mpr (by have := z.2; unfold isCD at this; omega); exact absurd z1 c42), rfl⟩)
    · refine q_iload_n dX10_readGoal_36 rfl ?_
      refine q_if_eq 47 dX10_readGoal_37 rfl (fun c37 => ?_) (fun c37 => ?_)
      · first | exact absurd (by decide) c37 | exact absurd c37 (by decide)
      · refine q_iload_n dX10_readGoal_40 rfl ?_
        refine q_iconst (v := 5) dX10_readGoal_41 rfl ?_
        refine q_icmp_le 47 dX10_readGoal_42 rfl (fun c42 => ?_) (fun c42 => ?_)
        · exact absurd (pI_1 c33) m9_gol
        · first | exact absurd (by decide) c42 | exact absurd c42 (by decide)
  · have n8 := mt (nI_leI (a := len) (b := i) (by omega) (by omega)).mpr c8
    refine q_aload_n dX10_readGoal_11 rfl ?_
    refine q_get (j := 9) (v := .ref 33) dX10_readGoal_12 (Nat.le_of_ble_eq_true rfl) rfl rfl iuX10 (Nat.le_of_ble_eq_true rfl) uw_933 rfl rfl ?_
    refine q_aload_n dX10_readGoal_15 rfl ?_
    refine q_get (j := 11) (v := .int ((z_SP S))) dX10_readGoal_16 (Nat.le_of_ble_eq_true rfl) rfl rfl iuX10 (Nat.le_of_ble_eq_true rfl) uw_935 rfl rfl ?_
    refine wp_top (y := nI i) h1 ?_
    refine q_iald (f := (z_SC S)) dX10_readGoal_19 (Nat.le_of_ble_eq_true rfl) rfl (i) rfl (by omega) (Nat.le_of_ble_eq_true rfl) ?_
    refine wp_top (y := nI (t i)) (h5 i (by omega)).1 ?_
    refine q_bipush (v := 48) dX10_readGoal_20 rfl ?_
    refine q_isub dX10_readGoal_22 ?_
    refine q_goto 28 dX10_readGoal_23 rfl ?_
    refine q_ist3 dX10_readGoal_28 (Nat.le_of_ble_eq_true rfl) rfl ?_
    refine q_iload_n dX10_readGoal_29 rfl ?_
    refine q_callSv (ν := mX10_isGoal) dX10_readGoal_30 uw_1024 vX10_isGoal (c_X10_isGoal hG S (((nI (t i) - 48)))) rfl rfl (Nat.le_of_ble_eq_true rfl) (Nat.le_of_ble_eq_true rfl) (Nat.le_of_ble_eq_true rfl) 0 (Nat.le_of_ble_eq_true rfl) ?_
    refine q_if_eq 45 dX10_readGoal_33 rfl (fun c33 => ?_) (fun c33 => ?_)
    · refine q_iconst (v := 0) dX10_readGoal_45 rfl ?_
      exact q_zret dX10_readGoal_46 rfl rfl (Or.inr ⟨rfl, by first | (intro z; exact pI_0 c33 ((gol_iff (h5 i z.1).2).mpr (Or.inl z.2))) | (intro z; exact absurd z.1 (by omega)) | (intro z; have z1 := (le5_iff (h5 i z.1).2).mpr (by have := z.2; unfold isCD at this; omega); exact absurd z1 c42), rfl⟩)
    · refine q_iload_n dX10_readGoal_36 rfl ?_
      refine q_if_eq 47 dX10_readGoal_37 rfl (fun c37 => ?_) (fun c37 => ?_)
      · first | exact absurd (by decide) c37 | exact absurd c37 (by decide)
      · refine q_iload_n dX10_readGoal_40 rfl ?_
        refine q_iconst (v := 5) dX10_readGoal_41 rfl ?_
        refine q_icmp_le 47 dX10_readGoal_42 rfl (fun c42 => ?_) (fun c42 => ?_)
        · have hil : i < len := by omega
          have hg := (gol_iff (h5 i hil).2).mp (pI_1 c33)
          have h48 : 48 ≤ t i := by unfold isCD at hg; omega
          have hl5 := (le5_iff (h5 i hil).2).mp c42
          refine wp_L (L2 := [some (.ref 26), some (.int (nI pl)), some (.int (1)), some (.int (nI (t i - 48)))]) (by rw [show nI (t i) - 48 = nI (t i - 48) from pk_sub (b := 48) h48]) ?_
          refine q_aload_n dX10_readGoal_47 rfl ?_
          refine q_get (j := 12) (v := .ref 34) dX10_readGoal_48 (Nat.le_of_ble_eq_true rfl) rfl rfl iuX10 (Nat.le_of_ble_eq_true rfl) uw_936 rfl rfl ?_
          refine q_iload_n dX10_readGoal_51 rfl ?_
          refine q_iload_n dX10_readGoal_52 rfl ?_
          refine q_iast (f := (z_RD S)) dX10_readGoal_53 (Nat.le_of_ble_eq_true rfl) rfl (pl) rfl (by omega) (Nat.le_of_ble_eq_true rfl) ?_
          refine wp_w (u_RD g _ _) ?_
          refine q_aload_n dX10_readGoal_54 rfl ?_
          refine q_dup dX10_readGoal_55 rfl ?_
          refine q_get (j := 11) (v := .int ((z_SP S))) dX10_readGoal_56 (Nat.le_of_ble_eq_true rfl) rfl rfl iuX10 (Nat.le_of_ble_eq_true rfl) uw_935 rfl rfl ?_
          refine wp_top (y := nI i) h1 ?_
          refine q_iconst (v := 1) dX10_readGoal_59 rfl ?_
          refine q_iadd dX10_readGoal_60 ?_
          refine wp_top (y := nI (i + 1)) (nI_1 i) ?_
          refine q_put (j := 11) (ty := .int) dX10_readGoal_61 (Nat.le_of_ble_eq_true rfl) rfl rfl iuX10 tyX10_ok nmX10 (Nat.le_of_ble_eq_true rfl) uw_935 rfl rfl rfl rfl rfl (Nat.le_of_ble_eq_true rfl) ?_
          refine wp_w (u_SP g _ _) ?_
          refine q_iconst (v := 1) dX10_readGoal_64 rfl ?_
          exact q_zret dX10_readGoal_65 rfl rfl (Or.inl ⟨rfl, ⟨hil, by unfold isCD at hg ⊢; omega⟩, rfl⟩)
        · refine q_iconst (v := 0) dX10_readGoal_45 rfl ?_
          exact q_zret dX10_readGoal_46 rfl rfl (Or.inr ⟨rfl, by first | (intro z; exact pI_0 c33 ((gol_iff (h5 i z.1).2).mpr (Or.inl z.2))) | (intro z; exact absurd z.1 (by omega)) | (intro z; have z1 := (le5_iff (h5 i z.1).2).mpr (by have := z.2; unfold isCD at this; omega); exact absurd z1 c42), rfl⟩)
def golC (x : Nat) : Prop := isCD x ∨ x = 56 ∨ x = 57
theorem al_C {c k x : Nat} (hc : c < 6) (hk : k < 7) : allow (8 + 7 * c + k) x ↔ allowC k x := by
  unfold allow
  rw [if_neg (by omega), if_neg (by omega), if_neg (by omega), show (8 + 7 * c + k - 8) % 7 = k from by omega]
  exact ⟨fun h => h.2, fun h => ⟨by omega, h⟩⟩
theorem ac_0 {x : Nat} : allowC 0 x ↔ x = 67 := by unfold allowC; rw [if_pos rfl]
theorem ac_d {k x : Nat} (h1 : 1 ≤ k) (h2 : k < 5) : allowC k x ↔ isDig x := by unfold allowC; rw [if_neg (by omega), if_pos h2]
theorem ac_g {k x : Nat} (h1 : 5 ≤ k) : allowC k x ↔ (isCD x ∨ x = 56 ∨ x = 57) := by unfold allowC; rw [if_neg (by omega), if_neg (by omega)]
theorem haC {t : Nat → Nat} {I k : Nat} (hk : k ≤ 7) (h0 : 0 < k → t I = 67) (h1 : ∀ j, I + 1 ≤ j → j < I + 1 + 2 → j < I + k → isDig (t j)) (h2 : ∀ j, I + 1 + 2 ≤ j → j < I + 1 + 2 + 2 → j < I + k → isDig (t j)) (h3 : 5 < k → (isCD (t (I + 5)) ∨ t (I + 5) = 56 ∨ t (I + 5) = 57)) (h4 : 6 < k → (isCD (t (I + 6)) ∨ t (I + 6) = 56 ∨ t (I + 6) = 57)) : ∀ j, j < k → allowC j (t (I + j)) := by
  intro j hj
  rcases Nat.lt_or_ge j 1 with q | q
  · obtain rfl : j = 0 := by omega
    exact ac_0.mpr (h0 hj)
  rcases Nat.lt_or_ge j 5 with q2 | q2
  · refine (ac_d q q2).mpr ?_
    rcases Nat.lt_or_ge j 3 with q3 | q3
    · exact h1 _ (by omega) (by omega) (by omega)
    · exact h2 _ (by omega) (by omega) (by omega)
  refine (ac_g q2).mpr ?_
  rcases Nat.lt_or_ge j 6 with q3 | q3
  · obtain rfl : j = 5 := by omega
    exact h3 hj
  · obtain rfl : j = 6 := by omega
    exact h4 hj
def failP (t : Nat → Nat) (len i s : Nat) : Prop := i ≤ s ∧ s ≤ len ∧ (∀ j, i ≤ j → j < s → allow j (t j)) ∧ (s < len → ¬ allow s (t s)) ∧ (s = len → i < s ∧ s < i + 7)
theorem okC {t : Nat → Nat} {c k : Nat} (hc : c < 6) (hk : k ≤ 7) (ha : ∀ j, j < k → allowC j (t (8 + 7 * c + j))) : ∀ j, 8 + 7 * c ≤ j → j < 8 + 7 * c + k → allow j (t j) := by
  intro j h1 h2
  obtain ⟨e, rfl⟩ : ∃ e, j = 8 + 7 * c + e := ⟨j - (8 + 7 * c), by omega⟩
  exact (al_C hc (by omega)).mpr (ha e (by omega))
theorem failC {t : Nat → Nat} {len c s : Nat} (hc : c < 6) (h1 : 8 + 7 * c ≤ s) (hk : s < 8 + 7 * c + 7) (hl : s ≤ len) (h0 : 8 + 7 * c < len) (ha : ∀ j, j < s - (8 + 7 * c) → allowC j (t (8 + 7 * c + j))) (hn : s < len → ¬ allowC (s - (8 + 7 * c)) (t s)) : failP t len (8 + 7 * c) s := by
  refine ⟨h1, hl, fun j a b => okC hc (k := s - (8 + 7 * c)) (by omega) ha j a (by omega), fun q z => hn q ?_, fun e => by omega⟩
  have e := (al_C (x := t s) hc (k := s - (8 + 7 * c)) (by omega)).mp (by rw [show 8 + 7 * c + (s - (8 + 7 * c)) = s from by omega]; exact z)
  exact e
theorem fail6 {t : Nat → Nat} {len c : Nat} (hc : 6 ≤ c) (h0 : 8 + 7 * c < len) : failP t len (8 + 7 * c) (8 + 7 * c) := by
  refine ⟨Nat.le_refl _, by omega, fun j a b => absurd b (by omega), fun q z => ?_, fun e => by omega⟩
  unfold allow at z
  rw [if_neg (by omega), if_neg (by omega), if_neg (by omega)] at z
  omega
set_option maxRecDepth 100000 in
set_option maxHeartbeats 4000000 in
theorem c_X10_readCell {g : G0} (hG : Gd g) (S : SS)  (t : Nat → Nat) (len : Nat) (c : Nat) (h1 : (z_SP S) = nI (8 + 7 * c)) (h2 : 8 + 7 * c < len) (h3 : (z_SS S) = nI len) (h4 : len ≤ 60) (h5 : ∀ j, j < len → (z_SC S) j = nI (t j) ∧ t j < 65536) (h6 : (z_RD S) 0 = nI c) (h7 : c ≤ 6) : ct g mX10_readCell [.ref 26] (mixW g S) (fun v w1 => (v = some (.int 1) ∧ (c < 6 ∧ (8 + 7 * c) + 7 ≤ len ∧ ∀ j, (8 + 7 * c) ≤ j → j < (8 + 7 * c) + 7 → allow j (t j)) ∧ w1 = mixW g (s_SP (s_RD S (pushM (z_RD S) c (nI (dN t ((8 + 7 * c) + 1) 2)) (nI (dN t ((8 + 7 * c) + 1 + 2) 2)) (nI (t ((8 + 7 * c) + 1 + 2 + 2) - 48)) (nI (t ((8 + 7 * c) + 1 + 2 + 2 + 1) - 48)))) (nI ((8 + 7 * c) + 1 + 2 + 2 + 1 + 1)))) ∨ (v = some (.int 0) ∧ ∃ s rd, failP t len (8 + 7 * c) s ∧ w1 = mixW g (s_SP (s_RD S rd) (nI s)))) (fun _ _ => False) := by
  refine ct_of hG [some (.ref 26), none, none] rfl rfl rfl (Nat.le_of_ble_eq_true rfl) (fun h => ?_) rfl
  refine q_aload_n dX10_readCell_0 rfl ?_
  refine q_get (j := 12) (v := .ref 34) dX10_readCell_1 (Nat.le_of_ble_eq_true rfl) rfl rfl iuX10 (Nat.le_of_ble_eq_true rfl) uw_936 rfl rfl ?_
  refine q_iconst (v := 0) dX10_readCell_4 rfl ?_
  refine q_iald (f := (z_RD S)) dX10_readCell_5 (Nat.le_of_ble_eq_true rfl) rfl (0) rfl (Nat.le_of_ble_eq_true rfl) (Nat.le_of_ble_eq_true rfl) ?_
  refine wp_top (y := nI c) h6 ?_
  refine q_ist1 dX10_readCell_6 (Nat.le_of_ble_eq_true rfl) rfl ?_
  refine q_iload_n dX10_readCell_7 rfl ?_
  refine q_bipush (v := 6) dX10_readCell_8 rfl ?_
  refine q_icmp_ge 84 dX10_readCell_10 rfl (fun c10 => ?_) (fun c10 => ?_)
  · have n10 := (nI_leI (a := 6) (b := c) (by omega) (by omega)).mp c10
    refine wp_w (w2 := mixW g (s_SP S (nI (8 + 7 * c)))) (by rw [← h1, se_SP]) ?_
    refine q_iconst (v := 0) dX10_readCell_84 rfl ?_
    refine q_ist2 dX10_readCell_85 (Nat.le_of_ble_eq_true rfl) rfl ?_
    refine q_aload_n dX10_readCell_86 rfl ?_
    refine q_get (j := 12) (v := .ref 34) dX10_readCell_87 (Nat.le_of_ble_eq_true rfl) rfl rfl iuX10 (Nat.le_of_ble_eq_true rfl) uw_936 rfl rfl ?_
    refine q_iconst (v := 0) dX10_readCell_90 rfl ?_
    refine q_dup2_11 dX10_readCell_91 rfl rfl ?_
    refine q_iald (f := (z_RD S)) dX10_readCell_92 (Nat.le_of_ble_eq_true rfl) rfl (0) rfl (Nat.le_of_ble_eq_true rfl) (Nat.le_of_ble_eq_true rfl) ?_
    refine q_iload_n dX10_readCell_93 rfl ?_
    refine q_if_eq 101 dX10_readCell_94 rfl (fun c94 => ?_) (fun c94 => ?_)
    · refine q_iconst (v := 0) dX10_readCell_101 rfl ?_
      refine q_iadd dX10_readCell_102 ?_
      refine q_iast (f := (z_RD S)) dX10_readCell_103 (Nat.le_of_ble_eq_true rfl) rfl (0) rfl (Nat.le_of_ble_eq_true rfl) (Nat.le_of_ble_eq_true rfl) ?_
      refine wp_w (u_RD g _ _) ?_
      rw [sc_RD_SP]
      refine q_iload_n dX10_readCell_104 rfl ?_
      exact q_zret dX10_readCell_105 rfl rfl (Or.inr ⟨rfl, (8 + 7 * c), _, (fail6 (by omega) h2), rfl⟩)
    · first | exact absurd (by decide) c94 | exact absurd c94 (by decide)
  · have n10 := mt (nI_leI (a := 6) (b := c) (by omega) (by omega)).mpr c10
    refine q_aload_n dX10_readCell_13 rfl ?_
    refine q_bipush (v := 67) dX10_readCell_14 rfl ?_
    refine q_callVg (ν := mX10_readLetter) dX10_readCell_16 uw_1016 vX10_readLetter (c_X10_readLetter hG S (67) (t) (len) ((8 + 7 * c)) h1 (by omega) h3 h4 h5 (by omega)) (Nat.le_of_ble_eq_true rfl) rfl rfl rfl rfl (Nat.le_of_ble_eq_true rfl) (Nat.le_of_ble_eq_true rfl) (Nat.le_of_ble_eq_true rfl) 0 (Nat.le_of_ble_eq_true rfl) rfl (fun _ _ z => z.elim) (fun v w1 hv => ?_)
    rcases hv with ⟨rfl, a16, rfl⟩ | ⟨rfl, a16, rfl⟩
    · refine wp_eq (st2 := [.int (1)]) rfl ?_
      refine q_if_eq 84 dX10_readCell_19 rfl (fun c19 => ?_) (fun c19 => ?_)
      · first | exact absurd (by decide) c19 | exact absurd c19 (by decide)
      · refine q_aload_n dX10_readCell_22 rfl ?_
        refine q_iconst (v := 2) dX10_readCell_23 rfl ?_
        refine q_iconst (v := 1) dX10_readCell_24 rfl ?_
        refine q_iconst (v := 2) dX10_readCell_25 rfl ?_
        refine q_iload_n dX10_readCell_26 rfl ?_
        refine q_imul dX10_readCell_27 ?_
        refine q_iadd dX10_readCell_28 ?_
        refine wp_eq (st2 := .int (nI ((1 + (2 * c)))) :: .int (2) :: .ref 26 :: _) (by rw [show (1 + (2 * nI c)) = nI ((1 + (2 * c))) from by simp only [fa_lit, pk_mul, nI_add]]) ?_
        refine q_callVg (ν := mX10_readNumber) dX10_readCell_29 uw_1030 vX10_readNumber (c_X10_readNumber hG (s_SP S (nI ((8 + 7 * c) + 1))) (2) ((1 + (2 * c))) (t) (len) ((8 + 7 * c) + 1) rfl (by omega) h3 h4 h5 (by omega) (by omega)) (Nat.le_of_ble_eq_true rfl) rfl rfl rfl rfl (Nat.le_of_ble_eq_true rfl) (Nat.le_of_ble_eq_true rfl) (Nat.le_of_ble_eq_true rfl) 0 (Nat.le_of_ble_eq_true rfl) rfl (fun _ _ z => z.elim) (fun v w1 hv => ?_)
        rcases hv with ⟨rfl, a29, rfl⟩ | ⟨rfl, s29, a29, rfl⟩
        · refine wp_eq (st2 := [.int (1)]) rfl ?_
          rw [sc_RD_SP, ss_SP]
          refine q_if_eq 84 dX10_readCell_32 rfl (fun c32 => ?_) (fun c32 => ?_)
          · first | exact absurd (by decide) c32 | exact absurd c32 (by decide)
          · refine q_aload_n dX10_readCell_35 rfl ?_
            refine q_iconst (v := 2) dX10_readCell_36 rfl ?_
            refine q_iconst (v := 1) dX10_readCell_37 rfl ?_
            refine q_iconst (v := 2) dX10_readCell_38 rfl ?_
            refine q_iload_n dX10_readCell_39 rfl ?_
            refine q_imul dX10_readCell_40 ?_
            refine q_iadd dX10_readCell_41 ?_
            refine q_iconst (v := 1) dX10_readCell_42 rfl ?_
            refine q_iadd dX10_readCell_43 ?_
            refine wp_eq (st2 := .int (nI (((1 + (2 * c)) + 1))) :: .int (2) :: .ref 26 :: _) (by rw [show ((1 + (2 * nI c)) + 1) = nI (((1 + (2 * c)) + 1)) from by simp only [fa_lit, pk_mul, nI_add]]) ?_
            refine q_callVg (ν := mX10_readNumber) dX10_readCell_44 uw_1030 vX10_readNumber (c_X10_readNumber hG (s_SP (s_RD S (upd (z_RD S) (1 + (2 * c)) (nI (dN t ((8 + 7 * c) + 1) 2)))) (nI ((8 + 7 * c) + 1 + 2))) (2) (((1 + (2 * c)) + 1)) (t) (len) ((8 + 7 * c) + 1 + 2) rfl (by omega) h3 h4 h5 (by omega) (by omega)) (Nat.le_of_ble_eq_true rfl) rfl rfl rfl rfl (Nat.le_of_ble_eq_true rfl) (Nat.le_of_ble_eq_true rfl) (Nat.le_of_ble_eq_true rfl) 0 (Nat.le_of_ble_eq_true rfl) rfl (fun _ _ z => z.elim) (fun v w1 hv => ?_)
            rcases hv with ⟨rfl, a44, rfl⟩ | ⟨rfl, s44, a44, rfl⟩
            · refine wp_eq (st2 := [.int (1)]) rfl ?_
              rw [sc_RD_SP, ss_RD, ss_SP]
              refine q_if_eq 84 dX10_readCell_47 rfl (fun c47 => ?_) (fun c47 => ?_)
              · first | exact absurd (by decide) c47 | exact absurd c47 (by decide)
              · refine q_aload_n dX10_readCell_50 rfl ?_
                refine q_bipush (v := 13) dX10_readCell_51 rfl ?_
                refine q_iconst (v := 2) dX10_readCell_53 rfl ?_
                refine q_iload_n dX10_readCell_54 rfl ?_
                refine q_imul dX10_readCell_55 ?_
                refine q_iadd dX10_readCell_56 ?_
                refine q_iconst (v := 0) dX10_readCell_57 rfl ?_
                refine wp_eq (st2 := .int (0) :: .int (nI ((13 + (2 * c)))) :: .ref 26 :: _) (by rw [show (13 + (2 * nI c)) = nI ((13 + (2 * c))) from by simp only [fa_lit, pk_mul, nI_add]]) ?_
                refine q_callVg (ν := mX10_readGoal) dX10_readCell_58 uw_1020 vX10_readGoal (c_X10_readGoal_0 hG (s_SP (s_RD S (upd (upd (z_RD S) (1 + (2 * c)) (nI (dN t ((8 + 7 * c) + 1) 2))) ((1 + (2 * c)) + 1) (nI (dN t ((8 + 7 * c) + 1 + 2) 2)))) (nI ((8 + 7 * c) + 1 + 2 + 2))) ((13 + (2 * c))) (t) (len) ((8 + 7 * c) + 1 + 2 + 2) rfl (by omega) h3 h4 h5 (by omega)) (Nat.le_of_ble_eq_true rfl) rfl rfl rfl rfl (Nat.le_of_ble_eq_true rfl) (Nat.le_of_ble_eq_true rfl) (Nat.le_of_ble_eq_true rfl) 0 (Nat.le_of_ble_eq_true rfl) rfl (fun _ _ z => z.elim) (fun v w1 hv => ?_)
                rcases hv with ⟨rfl, a58, rfl⟩ | ⟨rfl, a58, rfl⟩
                · refine wp_eq (st2 := [.int (1)]) rfl ?_
                  rw [sc_RD_SP, ss_RD, ss_SP]
                  refine q_if_eq 84 dX10_readCell_61 rfl (fun c61 => ?_) (fun c61 => ?_)
                  · first | exact absurd (by decide) c61 | exact absurd c61 (by decide)
                  · refine q_aload_n dX10_readCell_64 rfl ?_
                    refine q_bipush (v := 13) dX10_readCell_65 rfl ?_
                    refine q_iconst (v := 2) dX10_readCell_67 rfl ?_
                    refine q_iload_n dX10_readCell_68 rfl ?_
                    refine q_imul dX10_readCell_69 ?_
                    refine q_iadd dX10_readCell_70 ?_
                    refine q_iconst (v := 1) dX10_readCell_71 rfl ?_
                    refine q_iadd dX10_readCell_72 ?_
                    refine q_iconst (v := 0) dX10_readCell_73 rfl ?_
                    refine wp_eq (st2 := .int (0) :: .int (nI (((13 + (2 * c)) + 1))) :: .ref 26 :: _) (by rw [show ((13 + (2 * nI c)) + 1) = nI (((13 + (2 * c)) + 1)) from by simp only [fa_lit, pk_mul, nI_add]]) ?_
                    refine q_callVg (ν := mX10_readGoal) dX10_readCell_74 uw_1020 vX10_readGoal (c_X10_readGoal_0 hG (s_SP (s_RD S (upd (upd (upd (z_RD S) (1 + (2 * c)) (nI (dN t ((8 + 7 * c) + 1) 2))) ((1 + (2 * c)) + 1) (nI (dN t ((8 + 7 * c) + 1 + 2) 2))) (13 + (2 * c)) (nI (t ((8 + 7 * c) + 1 + 2 + 2) - 48)))) (nI ((8 + 7 * c) + 1 + 2 + 2 + 1))) (((13 + (2 * c)) + 1)) (t) (len) ((8 + 7 * c) + 1 + 2 + 2 + 1) rfl (by omega) h3 h4 h5 (by omega)) (Nat.le_of_ble_eq_true rfl) rfl rfl rfl rfl (Nat.le_of_ble_eq_true rfl) (Nat.le_of_ble_eq_true rfl) (Nat.le_of_ble_eq_true rfl) 0 (Nat.le_of_ble_eq_true rfl) rfl (fun _ _ z => z.elim) (fun v w1 hv => ?_)
                    rcases hv with ⟨rfl, a74, rfl⟩ | ⟨rfl, a74, rfl⟩
                    · refine wp_eq (st2 := [.int (1)]) rfl ?_
                      rw [sc_RD_SP, ss_RD, ss_SP]
                      refine q_if_eq 84 dX10_readCell_77 rfl (fun c77 => ?_) (fun c77 => ?_)
                      · first | exact absurd (by decide) c77 | exact absurd c77 (by decide)
                      · refine q_iconst (v := 1) dX10_readCell_80 rfl ?_
                        refine q_goto 85 dX10_readCell_81 rfl ?_
                        refine q_ist2 dX10_readCell_85 (Nat.le_of_ble_eq_true rfl) rfl ?_
                        refine q_aload_n dX10_readCell_86 rfl ?_
                        refine q_get (j := 12) (v := .ref 34) dX10_readCell_87 (Nat.le_of_ble_eq_true rfl) rfl rfl iuX10 (Nat.le_of_ble_eq_true rfl) uw_936 rfl rfl ?_
                        refine q_iconst (v := 0) dX10_readCell_90 rfl ?_
                        refine q_dup2_11 dX10_readCell_91 rfl rfl ?_
                        refine q_iald (f := (upd (upd (upd (upd (z_RD S) (1 + (2 * c)) (nI (dN t ((8 + 7 * c) + 1) 2))) ((1 + (2 * c)) + 1) (nI (dN t ((8 + 7 * c) + 1 + 2) 2))) (13 + (2 * c)) (nI (t ((8 + 7 * c) + 1 + 2 + 2) - 48))) ((13 + (2 * c)) + 1) (nI (t ((8 + 7 * c) + 1 + 2 + 2 + 1) - 48)))) dX10_readCell_92 (Nat.le_of_ble_eq_true rfl) rfl (0) rfl (Nat.le_of_ble_eq_true rfl) (Nat.le_of_ble_eq_true rfl) ?_
                        refine wp_top (y := nI c) (by simp only [upd]; rw [if_neg (by omega), if_neg (by omega), if_neg (by omega), if_neg (by omega)]; exact h6) ?_
                        refine q_iload_n dX10_readCell_93 rfl ?_
                        refine q_if_eq 101 dX10_readCell_94 rfl (fun c94 => ?_) (fun c94 => ?_)
                        · first | exact absurd (by decide) c94 | exact absurd c94 (by decide)
                        · refine q_iconst (v := 1) dX10_readCell_97 rfl ?_
                          refine q_goto 102 dX10_readCell_98 rfl ?_
                          refine q_iadd dX10_readCell_102 ?_
                          refine q_iast (f := (upd (upd (upd (upd (z_RD S) (1 + (2 * c)) (nI (dN t ((8 + 7 * c) + 1) 2))) ((1 + (2 * c)) + 1) (nI (dN t ((8 + 7 * c) + 1 + 2) 2))) (13 + (2 * c)) (nI (t ((8 + 7 * c) + 1 + 2 + 2) - 48))) ((13 + (2 * c)) + 1) (nI (t ((8 + 7 * c) + 1 + 2 + 2 + 1) - 48)))) dX10_readCell_103 (Nat.le_of_ble_eq_true rfl) rfl (0) rfl (Nat.le_of_ble_eq_true rfl) (Nat.le_of_ble_eq_true rfl) ?_
                          refine wp_w (u_RD g _ _) ?_
                          rw [sc_RD_SP, ss_RD]
                          refine q_iload_n dX10_readCell_104 rfl ?_
                          exact q_zret dX10_readCell_105 rfl rfl (Or.inl ⟨rfl, ⟨by omega, by omega, okC (k := 7) (by omega) (by omega) (haC (by omega) (fun _ => a16.2) (fun j z1 z2 _ => a29.2 j z1 z2) (fun j z1 z2 _ => a44.2 j z1 z2) (fun _ => a58.2) (fun _ => a74.2))⟩, rfl⟩)
                    · refine wp_eq (st2 := [.int (0)]) rfl ?_
                      refine q_if_eq 84 dX10_readCell_77 rfl (fun c77 => ?_) (fun c77 => ?_)
                      · refine q_iconst (v := 0) dX10_readCell_84 rfl ?_
                        refine q_ist2 dX10_readCell_85 (Nat.le_of_ble_eq_true rfl) rfl ?_
                        refine q_aload_n dX10_readCell_86 rfl ?_
                        refine q_get (j := 12) (v := .ref 34) dX10_readCell_87 (Nat.le_of_ble_eq_true rfl) rfl rfl iuX10 (Nat.le_of_ble_eq_true rfl) uw_936 rfl rfl ?_
                        refine q_iconst (v := 0) dX10_readCell_90 rfl ?_
                        refine q_dup2_11 dX10_readCell_91 rfl rfl ?_
                        refine q_iald (f := (upd (upd (upd (z_RD S) (1 + (2 * c)) (nI (dN t ((8 + 7 * c) + 1) 2))) ((1 + (2 * c)) + 1) (nI (dN t ((8 + 7 * c) + 1 + 2) 2))) (13 + (2 * c)) (nI (t ((8 + 7 * c) + 1 + 2 + 2) - 48)))) dX10_readCell_92 (Nat.le_of_ble_eq_true rfl) rfl (0) rfl (Nat.le_of_ble_eq_true rfl) (Nat.le_of_ble_eq_true rfl) ?_
                        refine q_iload_n dX10_readCell_93 rfl ?_
                        refine q_if_eq 101 dX10_readCell_94 rfl (fun c94 => ?_) (fun c94 => ?_)
                        · refine q_iconst (v := 0) dX10_readCell_101 rfl ?_
                          refine q_iadd dX10_readCell_102 ?_
                          refine q_iast (f := (upd (upd (upd (z_RD S) (1 + (2 * c)) (nI (dN t ((8 + 7 * c) + 1) 2))) ((1 + (2 * c)) + 1) (nI (dN t ((8 + 7 * c) + 1 + 2) 2))) (13 + (2 * c)) (nI (t ((8 + 7 * c) + 1 + 2 + 2) - 48)))) dX10_readCell_103 (Nat.le_of_ble_eq_true rfl) rfl (0) rfl (Nat.le_of_ble_eq_true rfl) (Nat.le_of_ble_eq_true rfl) ?_
                          refine wp_w (u_RD g _ _) ?_
                          rw [sc_RD_SP, ss_RD]
                          refine q_iload_n dX10_readCell_104 rfl ?_
                          exact q_zret dX10_readCell_105 rfl rfl (Or.inr ⟨rfl, ((8 + 7 * c) + 1 + 2 + 2 + 1), _, (failC (by omega) (by omega) (by omega) (by omega) h2 (haC (by omega) (fun _ => a16.2) (fun j z1 z2 _ => a29.2 j z1 z2) (fun j z1 z2 _ => a44.2 j z1 z2) (fun _ => a58.2) (fun z => absurd z (by omega))) (fun q z => a74 ⟨q, (ac_g (by omega)).mp z⟩)), rfl⟩)
                        · first | exact absurd (by decide) c94 | exact absurd c94 (by decide)
                      · first | exact absurd (by decide) c77 | exact absurd c77 (by decide)
                · refine wp_eq (st2 := [.int (0)]) rfl ?_
                  refine q_if_eq 84 dX10_readCell_61 rfl (fun c61 => ?_) (fun c61 => ?_)
                  · refine q_iconst (v := 0) dX10_readCell_84 rfl ?_
                    refine q_ist2 dX10_readCell_85 (Nat.le_of_ble_eq_true rfl) rfl ?_
                    refine q_aload_n dX10_readCell_86 rfl ?_
                    refine q_get (j := 12) (v := .ref 34) dX10_readCell_87 (Nat.le_of_ble_eq_true rfl) rfl rfl iuX10 (Nat.le_of_ble_eq_true rfl) uw_936 rfl rfl ?_
                    refine q_iconst (v := 0) dX10_readCell_90 rfl ?_
                    refine q_dup2_11 dX10_readCell_91 rfl rfl ?_
                    refine q_iald (f := (upd (upd (z_RD S) (1 + (2 * c)) (nI (dN t ((8 + 7 * c) + 1) 2))) ((1 + (2 * c)) + 1) (nI (dN t ((8 + 7 * c) + 1 + 2) 2)))) dX10_readCell_92 (Nat.le_of_ble_eq_true rfl) rfl (0) rfl (Nat.le_of_ble_eq_true rfl) (Nat.le_of_ble_eq_true rfl) ?_
                    refine q_iload_n dX10_readCell_93 rfl ?_
                    refine q_if_eq 101 dX10_readCell_94 rfl (fun c94 => ?_) (fun c94 => ?_)
                    · refine q_iconst (v := 0) dX10_readCell_101 rfl ?_
                      refine q_iadd dX10_readCell_102 ?_
                      refine q_iast (f := (upd (upd (z_RD S) (1 + (2 * c)) (nI (dN t ((8 + 7 * c) + 1) 2))) ((1 + (2 * c)) + 1) (nI (dN t ((8 + 7 * c) + 1 + 2) 2)))) dX10_readCell_103 (Nat.le_of_ble_eq_true rfl) rfl (0) rfl (Nat.le_of_ble_eq_true rfl) (Nat.le_of_ble_eq_true rfl) ?_
                      refine wp_w (u_RD g _ _) ?_
                      rw [sc_RD_SP, ss_RD]
                      refine q_iload_n dX10_readCell_104 rfl ?_
                      exact q_zret dX10_readCell_105 rfl rfl (Or.inr ⟨rfl, ((8 + 7 * c) + 1 + 2 + 2), _, (failC (by omega) (by omega) (by omega) (by omega) h2 (haC (by omega) (fun _ => a16.2) (fun j z1 z2 _ => a29.2 j z1 z2) (fun j z1 z2 _ => a44.2 j z1 z2) (fun z => absurd z (by omega)) (fun z => absurd z (by omega))) (fun q z => a58 ⟨q, (ac_g (by omega)).mp z⟩)), rfl⟩)
                    · first | exact absurd (by decide) c94 | exact absurd c94 (by decide)
                  · first | exact absurd (by decide) c61 | exact absurd c61 (by decide)
            · refine wp_eq (st2 := [.int (0)]) rfl ?_
              rw [ss_SP]
              refine q_if_eq 84 dX10_readCell_47 rfl (fun c47 => ?_) (fun c47 => ?_)
              · refine q_iconst (v := 0) dX10_readCell_84 rfl ?_
                refine q_ist2 dX10_readCell_85 (Nat.le_of_ble_eq_true rfl) rfl ?_
                refine q_aload_n dX10_readCell_86 rfl ?_
                refine q_get (j := 12) (v := .ref 34) dX10_readCell_87 (Nat.le_of_ble_eq_true rfl) rfl rfl iuX10 (Nat.le_of_ble_eq_true rfl) uw_936 rfl rfl ?_
                refine q_iconst (v := 0) dX10_readCell_90 rfl ?_
                refine q_dup2_11 dX10_readCell_91 rfl rfl ?_
                refine q_iald (f := (upd (z_RD S) (1 + (2 * c)) (nI (dN t ((8 + 7 * c) + 1) 2)))) dX10_readCell_92 (Nat.le_of_ble_eq_true rfl) rfl (0) rfl (Nat.le_of_ble_eq_true rfl) (Nat.le_of_ble_eq_true rfl) ?_
                refine q_iload_n dX10_readCell_93 rfl ?_
                refine q_if_eq 101 dX10_readCell_94 rfl (fun c94 => ?_) (fun c94 => ?_)
                · refine q_iconst (v := 0) dX10_readCell_101 rfl ?_
                  refine q_iadd dX10_readCell_102 ?_
                  refine q_iast (f := (upd (z_RD S) (1 + (2 * c)) (nI (dN t ((8 + 7 * c) + 1) 2)))) dX10_readCell_103 (Nat.le_of_ble_eq_true rfl) rfl (0) rfl (Nat.le_of_ble_eq_true rfl) (Nat.le_of_ble_eq_true rfl) ?_
                  refine wp_w (u_RD g _ _) ?_
                  rw [sc_RD_SP, ss_RD]
                  refine q_iload_n dX10_readCell_104 rfl ?_
                  exact q_zret dX10_readCell_105 rfl rfl (Or.inr ⟨rfl, s44, _, (failC (by omega) (by omega) (by omega) (by omega) h2 (haC (by omega) (fun _ => a16.2) (fun j z1 z2 _ => a29.2 j z1 z2) (fun j z1 z2 z3 => a44.2.2.2.1 j z1 (by omega)) (fun z => absurd z (by omega)) (fun z => absurd z (by omega))) (fun q z => a44.2.2.2.2 q ((ac_d (by omega) (by omega)).mp z))), rfl⟩)
                · first | exact absurd (by decide) c94 | exact absurd c94 (by decide)
              · first | exact absurd (by decide) c47 | exact absurd c47 (by decide)
        · refine wp_eq (st2 := [.int (0)]) rfl ?_
          rw [ss_SP]
          refine q_if_eq 84 dX10_readCell_32 rfl (fun c32 => ?_) (fun c32 => ?_)
          · refine q_iconst (v := 0) dX10_readCell_84 rfl ?_
            refine q_ist2 dX10_readCell_85 (Nat.le_of_ble_eq_true rfl) rfl ?_
            refine q_aload_n dX10_readCell_86 rfl ?_
            refine q_get (j := 12) (v := .ref 34) dX10_readCell_87 (Nat.le_of_ble_eq_true rfl) rfl rfl iuX10 (Nat.le_of_ble_eq_true rfl) uw_936 rfl rfl ?_
            refine q_iconst (v := 0) dX10_readCell_90 rfl ?_
            refine q_dup2_11 dX10_readCell_91 rfl rfl ?_
            refine q_iald (f := (z_RD S)) dX10_readCell_92 (Nat.le_of_ble_eq_true rfl) rfl (0) rfl (Nat.le_of_ble_eq_true rfl) (Nat.le_of_ble_eq_true rfl) ?_
            refine q_iload_n dX10_readCell_93 rfl ?_
            refine q_if_eq 101 dX10_readCell_94 rfl (fun c94 => ?_) (fun c94 => ?_)
            · refine q_iconst (v := 0) dX10_readCell_101 rfl ?_
              refine q_iadd dX10_readCell_102 ?_
              refine q_iast (f := (z_RD S)) dX10_readCell_103 (Nat.le_of_ble_eq_true rfl) rfl (0) rfl (Nat.le_of_ble_eq_true rfl) (Nat.le_of_ble_eq_true rfl) ?_
              refine wp_w (u_RD g _ _) ?_
              rw [sc_RD_SP]
              refine q_iload_n dX10_readCell_104 rfl ?_
              exact q_zret dX10_readCell_105 rfl rfl (Or.inr ⟨rfl, s29, _, (failC (by omega) (by omega) (by omega) (by omega) h2 (haC (by omega) (fun _ => a16.2) (fun j z1 z2 z3 => a29.2.2.2.1 j z1 (by omega)) (fun j z1 z2 z3 => absurd z3 (by omega)) (fun z => absurd z (by omega)) (fun z => absurd z (by omega))) (fun q z => a29.2.2.2.2 q ((ac_d (by omega) (by omega)).mp z))), rfl⟩)
            · first | exact absurd (by decide) c94 | exact absurd c94 (by decide)
          · first | exact absurd (by decide) c32 | exact absurd c32 (by decide)
    · refine wp_eq (st2 := [.int (0)]) rfl ?_
      refine q_if_eq 84 dX10_readCell_19 rfl (fun c19 => ?_) (fun c19 => ?_)
      · refine q_iconst (v := 0) dX10_readCell_84 rfl ?_
        refine q_ist2 dX10_readCell_85 (Nat.le_of_ble_eq_true rfl) rfl ?_
        refine q_aload_n dX10_readCell_86 rfl ?_
        refine q_get (j := 12) (v := .ref 34) dX10_readCell_87 (Nat.le_of_ble_eq_true rfl) rfl rfl iuX10 (Nat.le_of_ble_eq_true rfl) uw_936 rfl rfl ?_
        refine q_iconst (v := 0) dX10_readCell_90 rfl ?_
        refine q_dup2_11 dX10_readCell_91 rfl rfl ?_
        refine q_iald (f := (z_RD S)) dX10_readCell_92 (Nat.le_of_ble_eq_true rfl) rfl (0) rfl (Nat.le_of_ble_eq_true rfl) (Nat.le_of_ble_eq_true rfl) ?_
        refine q_iload_n dX10_readCell_93 rfl ?_
        refine q_if_eq 101 dX10_readCell_94 rfl (fun c94 => ?_) (fun c94 => ?_)
        · refine q_iconst (v := 0) dX10_readCell_101 rfl ?_
          refine q_iadd dX10_readCell_102 ?_
          refine q_iast (f := (z_RD S)) dX10_readCell_103 (Nat.le_of_ble_eq_true rfl) rfl (0) rfl (Nat.le_of_ble_eq_true rfl) (Nat.le_of_ble_eq_true rfl) ?_
          refine wp_w (u_RD g _ _) ?_
          rw [sc_RD_SP]
          refine q_iload_n dX10_readCell_104 rfl ?_
          exact q_zret dX10_readCell_105 rfl rfl (Or.inr ⟨rfl, ((8 + 7 * c)), _, (failC (by omega) (by omega) (by omega) (by omega) h2 (haC (by omega) (fun z => absurd z (by omega)) (fun j z1 z2 z3 => absurd z3 (by omega)) (fun j z1 z2 z3 => absurd z3 (by omega)) (fun z => absurd z (by omega)) (fun z => absurd z (by omega))) (fun q z => a16 ⟨q, by first | exact ac_0.mp z | exact ac_0.mp (by rw [Nat.sub_self] at z; exact z)⟩)), rfl⟩)
        · first | exact absurd (by decide) c94 | exact absurd c94 (by decide)
      · first | exact absurd (by decide) c19 | exact absurd c19 (by decide)
theorem failH {t : Nat → Nat} {len s : Nat} (hl : s ≤ len) (hs : s < 8) (h0 : 0 < s → t 0 = 70) (h1 : 1 < s → isCD (t 1)) (h2 : ∀ j, 2 ≤ j → j < s → isDig (t j)) (hn0 : s = 0 → s < len → t 0 ≠ 70) (hn1 : s = 1 → s < len → ¬ isCD (t 1)) (hn2 : 2 ≤ s → s < len → ¬ isDig (t s)) : errAt t len s := by
  refine ⟨hl, fun j hj => ?_, ?_⟩
  · unfold allow
    by_cases e : j = 0
    · rw [if_pos e, e]; exact h0 (by omega)
    · rw [if_neg e]
      by_cases e1 : j = 1
      · rw [if_pos e1, e1]; exact h1 (by omega)
      · rw [if_neg e1, if_pos (by omega)]; exact h2 j (by omega) hj
  · rcases Nat.lt_or_ge s len with q | q
    · refine Or.inl ⟨q, ?_⟩
      unfold allow
      by_cases e : s = 0
      · rw [if_pos e, e]; exact hn0 e q
      · rw [if_neg e]
        by_cases e1 : s = 1
        · rw [if_pos e1, e1]; exact hn1 e1 q
        · rw [if_neg e1, if_pos hs]; exact hn2 (by omega) q
    · exact Or.inr ⟨by omega, by omega⟩
theorem okH {t : Nat → Nat} (h0 : t 0 = 70) (h1 : isCD (t 1)) (h2 : ∀ j, 2 ≤ j → j < 8 → isDig (t j)) : ∀ j, j < 8 → allow j (t j) := by
  intro j hj
  unfold allow
  by_cases e : j = 0
  · rw [if_pos e, e]; exact h0
  · rw [if_neg e]
    by_cases e1 : j = 1
    · rw [if_pos e1, e1]; exact h1
    · rw [if_neg e1, if_pos (by omega)]; exact h2 j (by omega) hj
theorem failT {t : Nat → Nat} {len c s : Nat} (ha : ∀ j, j < 8 + 7 * c → allow j (t j)) (h : failP t len (8 + 7 * c) s) : errAt t len s := by
  obtain ⟨h1, h2, h3, h4, h5⟩ := h
  refine ⟨h2, fun j hj => ?_, ?_⟩
  · rcases Nat.lt_or_ge j (8 + 7 * c) with q | q
    · exact ha j q
    · exact h3 j q hj
  · rcases Nat.lt_or_ge s len with q | q
    · exact Or.inl ⟨q, h4 q⟩
    · have e : s = len := by omega
      have := h5 e
      exact Or.inr ⟨e, by omega⟩
set_option maxRecDepth 100000 in
set_option maxHeartbeats 4000000 in
theorem l_X10_readText_2 {g : G0} {h : G1} (hG : Gd g) (S : SS) {Q : State → Prop}  (k21 : wp g h mX10_readText (mixW g (s_RD S (filF (z_RD S) 0 44))) [some (.ref 26), none] [] 0 Q 21) : ∀ (n i : Nat), i + n = 44 → wp g h mX10_readText (mixW g (s_RD S (filF (z_RD S) 0 i))) [some (.ref 26), some (.int (nI i))] [] 0 Q 2 := by
  intro n
  induction n with
  | zero =>
    intro i hq1
    obtain rfl : 44 = i := by omega
    refine q_iload_n dX10_readText_2 rfl ?_
    refine q_bipush (v := 44) dX10_readText_3 rfl ?_
    refine q_icmp_ge 21 dX10_readText_5 rfl (fun c5 => ?_) (fun c5 => ?_)
    · have n5 := (nI_leI (a := 44) (b := 44) (by omega) (by omega)).mp c5
      refine wp_fg (L2 := [some (.ref 26), none]) ⟨rfl, trivial⟩ ?_
      exact k21
    · have n5 := mt (nI_leI (a := 44) (b := 44) (by omega) (by omega)).mpr c5
      exact absurd (nI_leI (a := 44) (b := 44) (by omega) (by omega) |>.mpr (by omega)) c5
  | succ n ih =>
    intro i hq1
    refine q_iload_n dX10_readText_2 rfl ?_
    refine q_bipush (v := 44) dX10_readText_3 rfl ?_
    refine q_icmp_ge 21 dX10_readText_5 rfl (fun c5 => ?_) (fun c5 => ?_)
    · have n5 := (nI_leI (a := 44) (b := i) (by omega) (by omega)).mp c5
      omega
    · have n5 := mt (nI_leI (a := 44) (b := i) (by omega) (by omega)).mpr c5
      refine q_aload_n dX10_readText_8 rfl ?_
      refine q_get (j := 12) (v := .ref 34) dX10_readText_9 (Nat.le_of_ble_eq_true rfl) rfl rfl iuX10 (Nat.le_of_ble_eq_true rfl) uw_936 rfl rfl ?_
      refine q_iload_n dX10_readText_12 rfl ?_
      refine q_iconst (v := 0) dX10_readText_13 rfl ?_
      refine q_iast (f := (filF (z_RD S) 0 i)) dX10_readText_14 (Nat.le_of_ble_eq_true rfl) rfl (i) rfl (by omega) (Nat.le_of_ble_eq_true rfl) ?_
      refine wp_w (u_RD g _ _) ?_
      rw [ss_RD]
      refine q_iinc1 (k9 := 1) dX10_readText_15 rfl (Nat.le_of_ble_eq_true rfl) rfl ?_
      refine wp_L (L2 := [some (.ref 26), some (.int (nI (i + 1)))]) (by rw [show nI i + 1 = nI (i + 1) from nI_1 _]) ?_
      refine q_goto 2 dX10_readText_18 rfl ?_
      refine wp_w (w2 := mixW g (s_RD S (filF (z_RD S) 0 (i + 1)))) (by rw [fil_up]) ?_
      exact ih (i + 1) (by omega)
set_option maxRecDepth 100000 in
set_option maxHeartbeats 4000000 in
theorem l_X10_readText {g : G0} {h : G1} (hG : Gd g) (S : SS) {post : Option Value → (Nat → va_E) → Prop} {xp : String → (Nat → va_E) → Prop} (t : Nat → Nat) (len : Nat) (h3 : z_SS S = nI len) (h4 : len ≤ 60) (h5 : ∀ j, j < len → z_SC S j = nI (t j) ∧ t j < 65536) (hp1 : ∀ c, (c ≤ 6 ∧ len = 8 + 7 * c ∧ ∀ j, j < len → allow j (t j)) → post (some (.int (-9))) (mixW g (s_SP (s_RD S (rdM t (z_RD S) c)) (nI (8 + 7 * c))))) (hp0 : ∀ s rd, errAt t len s → post (some (.int (nI s))) (mixW g (s_SP (s_RD S rd) (nI s)))) : ∀ (n c : Nat), c + n = 6 → 8 + 7 * c ≤ len → (∀ j, j < 8 + 7 * c → allow j (t j)) → wp g h mX10_readText (mixW g (s_SP (s_RD S (rdM t (z_RD S) c)) (nI (8 + 7 * c)))) [some (.ref 26), none] [] 0 (QQ g h mX10_readText post xp) 70 := by
  intro n
  induction n with
  | zero =>
    intro c hq1 hk ha
    refine q_aload_n dX10_readText_70 rfl ?_
    refine q_get (j := 11) (v := .int ((nI (8 + 7 * c)))) dX10_readText_71 (Nat.le_of_ble_eq_true rfl) rfl rfl iuX10 (Nat.le_of_ble_eq_true rfl) uw_935 rfl rfl ?_
    refine q_aload_n dX10_readText_74 rfl ?_
    refine q_get (j := 10) (v := .int ((z_SS S))) dX10_readText_75 (Nat.le_of_ble_eq_true rfl) rfl rfl iuX10 (Nat.le_of_ble_eq_true rfl) uw_934 rfl rfl ?_
    refine wp_top (y := nI len) h3 ?_
    refine q_icmp_ge 93 dX10_readText_78 rfl (fun c78 => ?_) (fun c78 => ?_)
    · have n78 := (nI_leI (a := len) (b := (8 + 7 * c)) (by omega) (by omega)).mp c78
      refine q_bipush (v := (-9)) dX10_readText_93 rfl ?_
      exact q_iret dX10_readText_95 rfl (hp1 c ⟨by omega, by omega, fun j hj => ha j (by omega)⟩)
    · have n78 := mt (nI_leI (a := len) (b := (8 + 7 * c)) (by omega) (by omega)).mpr c78
      refine q_aload_n dX10_readText_81 rfl ?_
      refine q_callVg (ν := mX10_readCell) dX10_readText_82 uw_1034 vX10_readCell (c_X10_readCell hG (s_SP (s_RD S (rdM t (z_RD S) c)) (nI (8 + 7 * c))) (t) (len) (c) rfl (by omega) h3 h4 h5 (rdM_0 t (z_RD S) c) (by omega)) (Nat.le_of_ble_eq_true rfl) rfl rfl rfl rfl (Nat.le_of_ble_eq_true rfl) (Nat.le_of_ble_eq_true rfl) (Nat.le_of_ble_eq_true rfl) 0 (Nat.le_of_ble_eq_true rfl) rfl (fun _ _ z => z.elim) (fun v w1 hv => ?_)
      rcases hv with ⟨rfl, a82, rfl⟩ | ⟨rfl, s, rd, a82, rfl⟩
      · refine wp_eq (st2 := [.int (1)]) rfl ?_
        rw [sc_RD_SP, ss_SP, ss_RD]
        refine q_if_ne 70 dX10_readText_85 rfl (fun c85 => ?_) (fun c85 => ?_)
        · omega
        · first | exact absurd (by decide) c85 | exact absurd c85 (by decide)
      · refine wp_eq (st2 := [.int (0)]) rfl ?_
        rw [sc_RD_SP, ss_SP, ss_RD]
        refine q_if_ne 70 dX10_readText_85 rfl (fun c85 => ?_) (fun c85 => ?_)
        · first | exact absurd (by decide) c85 | exact absurd c85 (by decide)
        · refine q_aload_n dX10_readText_88 rfl ?_
          refine q_get (j := 11) (v := .int ((nI s))) dX10_readText_89 (Nat.le_of_ble_eq_true rfl) rfl rfl iuX10 (Nat.le_of_ble_eq_true rfl) uw_935 rfl rfl ?_
          exact q_iret dX10_readText_92 rfl (hp0 s rd (failT ha a82))
  | succ n ih =>
    intro c hq1 hk ha
    refine q_aload_n dX10_readText_70 rfl ?_
    refine q_get (j := 11) (v := .int ((nI (8 + 7 * c)))) dX10_readText_71 (Nat.le_of_ble_eq_true rfl) rfl rfl iuX10 (Nat.le_of_ble_eq_true rfl) uw_935 rfl rfl ?_
    refine q_aload_n dX10_readText_74 rfl ?_
    refine q_get (j := 10) (v := .int ((z_SS S))) dX10_readText_75 (Nat.le_of_ble_eq_true rfl) rfl rfl iuX10 (Nat.le_of_ble_eq_true rfl) uw_934 rfl rfl ?_
    refine wp_top (y := nI len) h3 ?_
    refine q_icmp_ge 93 dX10_readText_78 rfl (fun c78 => ?_) (fun c78 => ?_)
    · have n78 := (nI_leI (a := len) (b := (8 + 7 * c)) (by omega) (by omega)).mp c78
      refine q_bipush (v := (-9)) dX10_readText_93 rfl ?_
      exact q_iret dX10_readText_95 rfl (hp1 c ⟨by omega, by omega, fun j hj => ha j (by omega)⟩)
    · have n78 := mt (nI_leI (a := len) (b := (8 + 7 * c)) (by omega) (by omega)).mpr c78
      refine q_aload_n dX10_readText_81 rfl ?_
      refine q_callVg (ν := mX10_readCell) dX10_readText_82 uw_1034 vX10_readCell (c_X10_readCell hG (s_SP (s_RD S (rdM t (z_RD S) c)) (nI (8 + 7 * c))) (t) (len) (c) rfl (by omega) h3 h4 h5 (rdM_0 t (z_RD S) c) (by omega)) (Nat.le_of_ble_eq_true rfl) rfl rfl rfl rfl (Nat.le_of_ble_eq_true rfl) (Nat.le_of_ble_eq_true rfl) (Nat.le_of_ble_eq_true rfl) 0 (Nat.le_of_ble_eq_true rfl) rfl (fun _ _ z => z.elim) (fun v w1 hv => ?_)
      rcases hv with ⟨rfl, a82, rfl⟩ | ⟨rfl, s, rd, a82, rfl⟩
      · refine wp_eq (st2 := [.int (1)]) rfl ?_
        rw [sc_RD_SP, ss_SP, ss_RD]
        refine q_if_ne 70 dX10_readText_85 rfl (fun c85 => ?_) (fun c85 => ?_)
        · refine wp_w (w2 := mixW g (s_SP (s_RD S (rdM t (z_RD S) (c + 1))) (nI (8 + 7 * (c + 1))))) rfl ?_
          exact ih (c + 1) (by omega) (by omega) (fun j hj => by rcases Nat.lt_or_ge j (8 + 7 * c) with q | q; exact ha j q; exact a82.2.2 j q (by omega))
        · first | exact absurd (by decide) c85 | exact absurd c85 (by decide)
      · refine wp_eq (st2 := [.int (0)]) rfl ?_
        rw [sc_RD_SP, ss_SP, ss_RD]
        refine q_if_ne 70 dX10_readText_85 rfl (fun c85 => ?_) (fun c85 => ?_)
        · first | exact absurd (by decide) c85 | exact absurd c85 (by decide)
        · refine q_aload_n dX10_readText_88 rfl ?_
          refine q_get (j := 11) (v := .int ((nI s))) dX10_readText_89 (Nat.le_of_ble_eq_true rfl) rfl rfl iuX10 (Nat.le_of_ble_eq_true rfl) uw_935 rfl rfl ?_
          exact q_iret dX10_readText_92 rfl (hp0 s rd (failT ha a82))
set_option maxRecDepth 100000 in
set_option maxHeartbeats 4000000 in
theorem c_X10_readText {g : G0} (hG : Gd g) (S : SS)  (t : Nat → Nat) (len : Nat) (h1 : (z_SS S) = nI len) (h2 : len ≤ 60) (h3 : ∀ j, j < len → (z_SC S) j = nI (t j) ∧ t j < 65536) : ct g mX10_readText [.ref 26] (mixW g S) (fun v w1 => (∃ c, v = some (.int (-9)) ∧ (c ≤ 6 ∧ len = 8 + 7 * c ∧ ∀ j, j < len → allow j (t j)) ∧ w1 = mixW g (s_SP (s_RD S (rdM t (z_RD S) c)) (nI (8 + 7 * c)))) ∨ (∃ s rd, v = some (.int (nI s)) ∧ errAt t len s ∧ w1 = mixW g (s_SP (s_RD S rd) (nI s)))) (fun _ _ => False) := by
  refine ct_of hG [some (.ref 26), none] rfl rfl rfl (Nat.le_of_ble_eq_true rfl) (fun h => ?_) rfl
  refine q_iconst (v := 0) dX10_readText_0 rfl ?_
  refine q_ist1 dX10_readText_1 (Nat.le_of_ble_eq_true rfl) rfl ?_
  refine wp_w (w2 := mixW g (s_RD S (filF (z_RD S) 0 0))) (by rw [fil_0, se_RD]) ?_
  refine wp_L (L2 := [some (.ref 26), some (.int (nI 0))]) rfl ?_
  refine l_X10_readText_2 hG S ?_ 44 0 rfl
  refine q_aload_n dX10_readText_21 rfl ?_
  refine q_iconst (v := 0) dX10_readText_22 rfl ?_
  refine q_put (j := 11) (ty := .int) dX10_readText_23 (Nat.le_of_ble_eq_true rfl) rfl rfl iuX10 tyX10_ok nmX10 (Nat.le_of_ble_eq_true rfl) uw_935 rfl rfl rfl rfl rfl (Nat.le_of_ble_eq_true rfl) ?_
  refine wp_w (u_SP g _ _) ?_
  refine q_aload_n dX10_readText_26 rfl ?_
  refine q_bipush (v := 70) dX10_readText_27 rfl ?_
  refine q_callVg (ν := mX10_readLetter) dX10_readText_29 uw_1016 vX10_readLetter (c_X10_readLetter hG (s_SP (s_RD S (filF (z_RD S) 0 44)) (0)) (70) (t) (len) (0) rfl (by omega) h1 h2 h3 (by omega)) (Nat.le_of_ble_eq_true rfl) rfl rfl rfl rfl (Nat.le_of_ble_eq_true rfl) (Nat.le_of_ble_eq_true rfl) (Nat.le_of_ble_eq_true rfl) 0 (Nat.le_of_ble_eq_true rfl) rfl (fun _ _ z => z.elim) (fun v w1 hv => ?_)
  rcases hv with ⟨rfl, a29, rfl⟩ | ⟨rfl, a29, rfl⟩
  · refine wp_eq (st2 := [.int (1)]) rfl ?_
    rw [ss_SP]
    refine q_if_eq 65 dX10_readText_32 rfl (fun c32 => ?_) (fun c32 => ?_)
    · first | exact absurd (by decide) c32 | exact absurd c32 (by decide)
    · refine q_aload_n dX10_readText_35 rfl ?_
      refine q_bipush (v := 25) dX10_readText_36 rfl ?_
      refine q_iconst (v := 1) dX10_readText_38 rfl ?_
      refine q_callVg (ν := mX10_readGoal) dX10_readText_39 uw_1020 vX10_readGoal (c_X10_readGoal_1 hG (s_SP (s_RD S (filF (z_RD S) 0 44)) (nI (0 + 1))) (25) (t) (len) (0 + 1) rfl (by omega) h1 h2 h3 (by omega)) (Nat.le_of_ble_eq_true rfl) rfl rfl rfl rfl (Nat.le_of_ble_eq_true rfl) (Nat.le_of_ble_eq_true rfl) (Nat.le_of_ble_eq_true rfl) 0 (Nat.le_of_ble_eq_true rfl) rfl (fun _ _ z => z.elim) (fun v w1 hv => ?_)
      rcases hv with ⟨rfl, a39, rfl⟩ | ⟨rfl, a39, rfl⟩
      · refine wp_eq (st2 := [.int (1)]) rfl ?_
        rw [sc_RD_SP, ss_RD, ss_SP]
        refine q_if_eq 65 dX10_readText_42 rfl (fun c42 => ?_) (fun c42 => ?_)
        · first | exact absurd (by decide) c42 | exact absurd c42 (by decide)
        · refine q_aload_n dX10_readText_45 rfl ?_
          refine q_iconst (v := 3) dX10_readText_46 rfl ?_
          refine q_bipush (v := 26) dX10_readText_47 rfl ?_
          refine q_callVg (ν := mX10_readNumber) dX10_readText_49 uw_1030 vX10_readNumber (c_X10_readNumber hG (s_SP (s_RD S (upd (filF (z_RD S) 0 44) 25 (nI (t (0 + 1) - 48)))) (nI (0 + 1 + 1))) (3) (26) (t) (len) (0 + 1 + 1) rfl (by omega) h1 h2 h3 (by omega) (by omega)) (Nat.le_of_ble_eq_true rfl) rfl rfl rfl rfl (Nat.le_of_ble_eq_true rfl) (Nat.le_of_ble_eq_true rfl) (Nat.le_of_ble_eq_true rfl) 0 (Nat.le_of_ble_eq_true rfl) rfl (fun _ _ z => z.elim) (fun v w1 hv => ?_)
          rcases hv with ⟨rfl, a49, rfl⟩ | ⟨rfl, s49, a49, rfl⟩
          · refine wp_eq (st2 := [.int (1)]) rfl ?_
            rw [sc_RD_SP, ss_RD, ss_SP]
            refine q_if_eq 65 dX10_readText_52 rfl (fun c52 => ?_) (fun c52 => ?_)
            · first | exact absurd (by decide) c52 | exact absurd c52 (by decide)
            · refine q_aload_n dX10_readText_55 rfl ?_
              refine q_iconst (v := 3) dX10_readText_56 rfl ?_
              refine q_bipush (v := 27) dX10_readText_57 rfl ?_
              refine q_callVg (ν := mX10_readNumber) dX10_readText_59 uw_1030 vX10_readNumber (c_X10_readNumber hG (s_SP (s_RD S (upd (upd (filF (z_RD S) 0 44) 25 (nI (t (0 + 1) - 48))) 26 (nI (dN t (0 + 1 + 1) 3)))) (nI (0 + 1 + 1 + 3))) (3) (27) (t) (len) (0 + 1 + 1 + 3) rfl (by omega) h1 h2 h3 (by omega) (by omega)) (Nat.le_of_ble_eq_true rfl) rfl rfl rfl rfl (Nat.le_of_ble_eq_true rfl) (Nat.le_of_ble_eq_true rfl) (Nat.le_of_ble_eq_true rfl) 0 (Nat.le_of_ble_eq_true rfl) rfl (fun _ _ z => z.elim) (fun v w1 hv => ?_)
              rcases hv with ⟨rfl, a59, rfl⟩ | ⟨rfl, s59, a59, rfl⟩
              · refine wp_eq (st2 := [.int (1)]) rfl ?_
                rw [sc_RD_SP, ss_RD, ss_SP]
                refine q_if_ne 70 dX10_readText_62 rfl (fun c62 => ?_) (fun c62 => ?_)
                · refine wp_w (w2 := mixW g (s_SP (s_RD S (rdM t (z_RD S) 0)) (nI (8 + 7 * 0)))) rfl ?_
                  refine l_X10_readText hG S t len h1 h2 h3 ?_ ?_ 6 0 (by omega) (by omega) (okH a29.2 a39.2 (fun j x y => by rcases Nat.lt_or_ge j 5 with q | q; exact a49.2 j x (by omega); exact a59.2 j q (by omega)))
                  exact fun c hc => Or.inl ⟨c, rfl, hc, rfl⟩
                  exact fun s rd hs => Or.inr ⟨s, rd, rfl, hs, rfl⟩
                · first | exact absurd (by decide) c62 | exact absurd c62 (by decide)
              · refine wp_eq (st2 := [.int (0)]) rfl ?_
                rw [ss_SP]
                refine q_if_ne 70 dX10_readText_62 rfl (fun c62 => ?_) (fun c62 => ?_)
                · first | exact absurd (by decide) c62 | exact absurd c62 (by decide)
                · refine q_aload_n dX10_readText_65 rfl ?_
                  refine q_get (j := 11) (v := .int ((nI s59))) dX10_readText_66 (Nat.le_of_ble_eq_true rfl) rfl rfl iuX10 (Nat.le_of_ble_eq_true rfl) uw_935 rfl rfl ?_
                  exact q_iret dX10_readText_69 rfl (Or.inr ⟨s59, _, rfl, failH (by omega) (by omega) (fun _ => a29.2) (fun _ => a39.2) (fun j x y => by rcases Nat.lt_or_ge j 5 with q | q; exact a49.2 j x (by omega); exact a59.2.2.2.1 j q y) (fun z _ => absurd z (by omega)) (fun z _ => absurd z (by omega)) (fun _ q => a59.2.2.2.2 q), rfl⟩)
          · refine wp_eq (st2 := [.int (0)]) rfl ?_
            rw [ss_SP]
            refine q_if_eq 65 dX10_readText_52 rfl (fun c52 => ?_) (fun c52 => ?_)
            · refine q_aload_n dX10_readText_65 rfl ?_
              refine q_get (j := 11) (v := .int ((nI s49))) dX10_readText_66 (Nat.le_of_ble_eq_true rfl) rfl rfl iuX10 (Nat.le_of_ble_eq_true rfl) uw_935 rfl rfl ?_
              exact q_iret dX10_readText_69 rfl (Or.inr ⟨s49, _, rfl, failH (by omega) (by omega) (fun _ => a29.2) (fun _ => a39.2) (fun j x y => a49.2.2.2.1 j x y) (fun z _ => absurd z (by omega)) (fun z _ => absurd z (by omega)) (fun _ q => a49.2.2.2.2 q), rfl⟩)
            · first | exact absurd (by decide) c52 | exact absurd c52 (by decide)
      · refine wp_eq (st2 := [.int (0)]) rfl ?_
        refine q_if_eq 65 dX10_readText_42 rfl (fun c42 => ?_) (fun c42 => ?_)
        · refine q_aload_n dX10_readText_65 rfl ?_
          refine q_get (j := 11) (v := .int ((nI (0 + 1)))) dX10_readText_66 (Nat.le_of_ble_eq_true rfl) rfl rfl iuX10 (Nat.le_of_ble_eq_true rfl) uw_935 rfl rfl ?_
          exact q_iret dX10_readText_69 rfl (Or.inr ⟨(0 + 1), _, rfl, failH (by omega) (by omega) (fun _ => a29.2) (fun z => absurd z (by omega)) (fun j x y => absurd y (by omega)) (fun z _ => absurd z (by omega)) (fun _ q z => a39 ⟨q, z⟩) (fun z _ => absurd z (by omega)), rfl⟩)
        · first | exact absurd (by decide) c42 | exact absurd c42 (by decide)
  · refine wp_eq (st2 := [.int (0)]) rfl ?_
    rw [ss_SP]
    refine q_if_eq 65 dX10_readText_32 rfl (fun c32 => ?_) (fun c32 => ?_)
    · refine q_aload_n dX10_readText_65 rfl ?_
      refine q_get (j := 11) (v := .int ((nI (0)))) dX10_readText_66 (Nat.le_of_ble_eq_true rfl) rfl rfl iuX10 (Nat.le_of_ble_eq_true rfl) uw_935 rfl rfl ?_
      exact q_iret dX10_readText_69 rfl (Or.inr ⟨(0), _, rfl, failH (by omega) (by omega) (fun z => absurd z (by omega)) (fun z => absurd z (by omega)) (fun j x y => absurd y (by omega)) (fun _ q z => a29 ⟨q, z⟩) (fun z _ => absurd z (by omega)) (fun z _ => absurd z (by omega)), rfl⟩)
    · first | exact absurd (by decide) c32 | exact absurd c32 (by decide)
set_option maxRecDepth 100000 in
set_option maxHeartbeats 4000000 in
theorem c_X10_errorPosition {g : G0} (hG : Gd g) (S : SS)  (t : Nat → Nat) (len : Nat) (h1 : (z_SS S) = nI len) (h2 : len ≤ 60) (h3 : ∀ j, j < len → (z_SC S) j = nI (t j) ∧ t j < 65536) : ct g mX10_errorPosition [.ref 26] (mixW g S) (fun v w1 => v = some (.int (feF t len len)) ∧ ∃ s rd, w1 = mixW g (s_RF (s_SP (s_RD S rd) s) 0)) (fun _ _ => False) := by
  refine ct_of hG [some (.ref 26)] rfl rfl rfl (Nat.le_of_ble_eq_true rfl) (fun h => ?_) rfl
  refine q_aload_n dX10_errorPosition_0 rfl ?_
  refine q_iconst (v := 0) dX10_errorPosition_1 rfl ?_
  refine q_put (j := 0) (ty := .int) dX10_errorPosition_2 (Nat.le_of_ble_eq_true rfl) rfl rfl iuX10 tyX10_ok nmX10 (Nat.le_of_ble_eq_true rfl) uw_924 rfl rfl rfl rfl rfl (Nat.le_of_ble_eq_true rfl) ?_
  refine wp_w (u_RF g _ _) ?_
  refine q_aload_n dX10_errorPosition_5 rfl ?_
  refine q_callVg (ν := mX10_readText) dX10_errorPosition_6 uw_1012 vX10_readText (c_X10_readText hG (s_RF S (0)) (t) (len) h1 h2 h3) (Nat.le_of_ble_eq_true rfl) rfl rfl rfl rfl (Nat.le_of_ble_eq_true rfl) (Nat.le_of_ble_eq_true rfl) (Nat.le_of_ble_eq_true rfl) 0 (Nat.le_of_ble_eq_true rfl) rfl (fun _ _ z => z.elim) (fun v w1 hv => ?_)
  rcases hv with ⟨c, rfl, ac, rfl⟩ | ⟨s, rd, rfl, ac, rfl⟩
  · refine wp_eq (st2 := [.int ((-9))]) rfl ?_
    rw [sc_RD_RF, sc_SP_RF]
    exact q_iret dX10_errorPosition_9 rfl ⟨by rw [feF_ok ac.2.2 (by omega)], _, _, rfl⟩
  · refine wp_eq (st2 := [.int (nI s)]) rfl ?_
    rw [sc_RD_RF, sc_SP_RF]
    have hs60 : s ≤ 60 := by have := ac.1; omega
    exact q_iret dX10_errorPosition_9 rfl ⟨by rw [feF_err ac], _, _, rfl⟩
theorem nI_m9 {s : Nat} (h : s ≤ 60) : ¬ nI s = -9 := by rw [fa_eq, nI_toInt (by omega), show (-9 : Int32).toInt = -9 from rfl]; omega
set_option maxRecDepth 100000 in
set_option maxHeartbeats 4000000 in
theorem c_X10_load {g : G0} (hG : Gd g) (S : SS)  (t : Nat → Nat) (len : Nat) (h1 : (z_SS S) = nI len) (h2 : len ≤ 60) (h3 : ∀ j, j < len → (z_SC S) j = nI (t j) ∧ t j < 65536) : ct g mX10_load [.ref 26] (mixW g S) (fun v w1 => (∃ c, v = some (.int (nI c)) ∧ (c ≤ 6 ∧ len = 8 + 7 * c ∧ ∀ j, j < len → allow j (t j)) ∧ w1 = mixW g (s_RF (s_AC (s_SP (s_NW (s_IK (s_RD S (rdM t (z_RD S) c)) (upd (upd (z_IK S) 0 0) 1 0)) (va_cpy (rdM t (z_RD S) c) (z_NW S) 0 0 44)) (nI (8 + 7 * c))) 0) 0)) ∨ (∃ s rd, v = some (.int 0) ∧ errAt t len s ∧ w1 = mixW g (s_RF (s_SP (s_RD S rd) (nI s)) 1))) (fun _ _ => False) := by
  refine ct_of hG [some (.ref 26)] rfl rfl rfl (Nat.le_of_ble_eq_true rfl) (fun h => ?_) rfl
  refine q_aload_n dX10_load_0 rfl ?_
  refine q_aload_n dX10_load_1 rfl ?_
  refine q_callVg (ν := mX10_readText) dX10_load_2 uw_1012 vX10_readText (c_X10_readText hG S (t) (len) h1 h2 h3) (Nat.le_of_ble_eq_true rfl) rfl rfl rfl rfl (Nat.le_of_ble_eq_true rfl) (Nat.le_of_ble_eq_true rfl) (Nat.le_of_ble_eq_true rfl) 0 (Nat.le_of_ble_eq_true rfl) rfl (fun _ _ z => z.elim) (fun v w1 hv => ?_)
  rcases hv with ⟨c, rfl, ac, rfl⟩ | ⟨s, rd, rfl, ac, rfl⟩
  · refine wp_eq (st2 := [.int ((-9)), .ref 26]) rfl ?_
    refine q_bipush (v := (-9)) dX10_load_5 rfl ?_
    refine q_icmp_ne 14 dX10_load_7 rfl (fun c7 => ?_) (fun c7 => ?_)
    · exact absurd rfl c7
    · refine q_iconst (v := 0) dX10_load_10 rfl ?_
      refine q_goto 15 dX10_load_11 rfl ?_
      refine q_callVv (ν := mX10_refused) dX10_load_15 uw_1000 vX10_refused (c_X10_refused hG (s_SP (s_RD S (rdM t (z_RD S) c)) (nI (8 + 7 * c))) (0)) (Nat.le_of_ble_eq_true rfl) rfl rfl rfl rfl (Nat.le_of_ble_eq_true rfl) (Nat.le_of_ble_eq_true rfl) (Nat.le_of_ble_eq_true rfl) 0 (Nat.le_of_ble_eq_true rfl) ?_
      refine wp_eq (st2 := .int ((pI (0 < 0))) :: _) rfl ?_
      refine wp_w (w2 := mixW g (s_RF (s_SP (s_RD S (rdM t (z_RD S) c)) (nI (8 + 7 * c))) (0))) rfl ?_
      refine wp_top (y := 0) (pI_f (by decide)) ?_
      refine q_if_eq 23 dX10_load_18 rfl (fun c18 => ?_) (fun c18 => ?_)
      · refine q_aload_n dX10_load_23 rfl ?_
        refine q_get (j := 12) (v := .ref 34) dX10_load_24 (Nat.le_of_ble_eq_true rfl) rfl rfl iuX10 (Nat.le_of_ble_eq_true rfl) uw_936 rfl rfl ?_
        refine q_aload_n dX10_load_27 rfl ?_
        refine q_get (j := 1) (v := .ref 27) dX10_load_28 (Nat.le_of_ble_eq_true rfl) rfl rfl iuX10 (Nat.le_of_ble_eq_true rfl) uw_925 rfl rfl ?_
        refine q_callSu (ν := mX10_copy) dX10_load_31 uw_1042 vX10_copy (c_X10_copy_34_27 hG (s_RF (s_SP (s_RD S (rdM t (z_RD S) c)) (nI (8 + 7 * c))) (0)) ) rfl rfl (Nat.le_of_ble_eq_true rfl) (Nat.le_of_ble_eq_true rfl) (Nat.le_of_ble_eq_true rfl) 0 (Nat.le_of_ble_eq_true rfl) ?_
        rw [sc_NW_RF, sc_NW_SP]
        refine wp_w (w2 := mixW g (s_RF (s_SP (s_NW (s_RD S (rdM t (z_RD S) c)) (va_cpy (rdM t (z_RD S) c) (z_NW S) 0 0 44)) (nI (8 + 7 * c))) (0))) rfl ?_
        refine q_aload_n dX10_load_34 rfl ?_
        refine q_iconst (v := 0) dX10_load_35 rfl ?_
        refine q_put (j := 5) (ty := .int) dX10_load_36 (Nat.le_of_ble_eq_true rfl) rfl rfl iuX10 tyX10_ok nmX10 (Nat.le_of_ble_eq_true rfl) uw_929 rfl rfl rfl rfl rfl (Nat.le_of_ble_eq_true rfl) ?_
        refine wp_w (u_AC g _ _) ?_
        rw [sc_AC_RF]
        refine q_aload_n dX10_load_39 rfl ?_
        refine q_get (j := 8) (v := .ref 32) dX10_load_40 (Nat.le_of_ble_eq_true rfl) rfl rfl iuX10 (Nat.le_of_ble_eq_true rfl) uw_932 rfl rfl ?_
        refine q_iconst (v := 0) dX10_load_43 rfl ?_
        refine q_iconst (v := 0) dX10_load_44 rfl ?_
        refine q_zast (f := (z_IK S)) (y := 0) dX10_load_45 (Nat.le_of_ble_eq_true rfl) rfl (0) rfl (Nat.le_of_ble_eq_true rfl) (Nat.le_of_ble_eq_true rfl) rfl ?_
        refine wp_w (u_IK g _ _) ?_
        rw [sc_IK_RF, sc_IK_AC, sc_IK_SP, sc_IK_NW]
        refine q_aload_n dX10_load_46 rfl ?_
        refine q_get (j := 8) (v := .ref 32) dX10_load_47 (Nat.le_of_ble_eq_true rfl) rfl rfl iuX10 (Nat.le_of_ble_eq_true rfl) uw_932 rfl rfl ?_
        refine q_iconst (v := 1) dX10_load_50 rfl ?_
        refine q_iconst (v := 0) dX10_load_51 rfl ?_
        refine q_zast (f := (upd (z_IK S) (0) (0))) (y := 0) dX10_load_52 (Nat.le_of_ble_eq_true rfl) rfl (1) rfl (Nat.le_of_ble_eq_true rfl) (Nat.le_of_ble_eq_true rfl) rfl ?_
        refine wp_w (u_IK g _ _) ?_
        rw [sc_IK_RF, sc_IK_AC, sc_IK_SP, sc_IK_NW, ss_IK]
        refine q_aload_n dX10_load_53 rfl ?_
        refine q_get (j := 1) (v := .ref 27) dX10_load_54 (Nat.le_of_ble_eq_true rfl) rfl rfl iuX10 (Nat.le_of_ble_eq_true rfl) uw_925 rfl rfl ?_
        refine q_iconst (v := 0) dX10_load_57 rfl ?_
        refine q_iald (f := (va_cpy (rdM t (z_RD S) c) (z_NW S) 0 0 44)) dX10_load_58 (Nat.le_of_ble_eq_true rfl) rfl (0) rfl (Nat.le_of_ble_eq_true rfl) (Nat.le_of_ble_eq_true rfl) ?_
        refine wp_top (y := nI c) (by rw [va_cpy, if_pos (by omega)]; exact rdM_0 _ _ _) ?_
        exact q_iret dX10_load_59 rfl (Or.inl ⟨c, rfl, ac, rfl⟩)
      · first | exact absurd (by decide) c18 | exact absurd c18 (by decide)
  · refine wp_eq (st2 := [.int (nI s), .ref 26]) rfl ?_
    have hs60 : s ≤ 60 := by have := ac.1; omega
    refine q_bipush (v := (-9)) dX10_load_5 rfl ?_
    refine q_icmp_ne 14 dX10_load_7 rfl (fun c7 => ?_) (fun c7 => ?_)
    · refine q_iconst (v := 1) dX10_load_14 rfl ?_
      refine q_callVv (ν := mX10_refused) dX10_load_15 uw_1000 vX10_refused (c_X10_refused hG (s_SP (s_RD S rd) (nI s)) (1)) (Nat.le_of_ble_eq_true rfl) rfl rfl rfl rfl (Nat.le_of_ble_eq_true rfl) (Nat.le_of_ble_eq_true rfl) (Nat.le_of_ble_eq_true rfl) 0 (Nat.le_of_ble_eq_true rfl) ?_
      refine wp_eq (st2 := .int ((pI (0 < 1))) :: _) rfl ?_
      refine wp_w (w2 := mixW g (s_RF (s_SP (s_RD S rd) (nI s)) (1))) rfl ?_
      refine wp_top (y := 1) (pI_t (by decide)) ?_
      refine q_if_eq 23 dX10_load_18 rfl (fun c18 => ?_) (fun c18 => ?_)
      · first | exact absurd (by decide) c18 | exact absurd c18 (by decide)
      · refine q_iconst (v := 0) dX10_load_21 rfl ?_
        exact q_iret dX10_load_22 rfl (Or.inr ⟨s, rd, rfl, ac, rfl⟩)
    · first | exact absurd c7 (nI_m9 hs60) | exact absurd (Classical.not_not.mp c7) (nI_m9 hs60)
