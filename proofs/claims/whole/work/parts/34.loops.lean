def adL (n : Int32) (r : Nat → Int32) (c : Nat) (t : Int32) : Nat → Int32 := if 0 ≤ t ∧ t < n then upd r c (r c ||| (1 <<< (t &&& 31))) else r
def tr1 (f r : Nat → Int32) : Nat → Nat → Int32
  | 0 => filF r 0 6
  | i + 1 => adL (f 0) (adL (f 0) (tr1 f r i) i (presF (f 0) (f (16 + 2 * i + 0)))) i (presF (f 0) (f (16 + 2 * i + 1)))
def leads (r : Nat → Int32) (i j : Nat) : Prop := ¬ (r i &&& (1 <<< (nI j &&& 31))) = 0
noncomputable def wI (r : Nat → Int32) (v : Nat) : Nat → Nat → Int32
  | 0 => r
  | j + 1 => if pI (leads (wI r v j) j v) = 1 then upd (wI r v j) j (wI r v j j ||| wI r v j v) else wI r v j
theorem wI_t {r : Nat → Int32} {v j : Nat} (h : leads (wI r v j) j v) : wI r v (j + 1) = upd (wI r v j) j (wI r v j j ||| wI r v j v) := if_pos (pI_t h)
theorem wI_f {r : Nat → Int32} {v j : Nat} (h : ¬ leads (wI r v j) j v) : wI r v (j + 1) = wI r v j := if_neg (by rw [pI_f h]; decide)
noncomputable def wO (r : Nat → Int32) (n : Nat) : Nat → Nat → Int32
  | 0 => r
  | v + 1 => wI (wO r n v) v n
def shr (r : Nat → Int32) (c : Nat) : Prop := ∃ e, e < c ∧ leads r c e ∧ leads r e c
noncomputable def nbF (r : Nat → Int32) : Nat → Int32
  | 0 => 0
  | i + 1 => if pI (leads r i i ∧ ¬ shr r i) = 1 then nbF r i + 1 else nbF r i
theorem nbF_t {r : Nat → Int32} {i : Nat} (h : leads r i i ∧ ¬ shr r i) : nbF r (i + 1) = nbF r i + 1 := if_pos (pI_t h)
theorem nbF_f {r : Nat → Int32} {i : Nat} (h : ¬ (leads r i i ∧ ¬ shr r i)) : nbF r (i + 1) = nbF r i := if_neg (by rw [pI_f h]; decide)
set_option maxRecDepth 100000 in
set_option maxHeartbeats 4000000 in
theorem c_X3_addLink {g : G0} (hG : Gd g) (S : SS) (c : Nat) (t : Int32)  (h1 : c < 6) : ctu g mX3_addLink [.ref 18, .ref 3, .int (nI c), .int t] (mixW g S) (mixW g (s_RE S (adL ((z_SV S) 0) (z_RE S) c t))) := by
  refine ct_of hG [some (.ref 18), some (.ref 3), some (.int (nI c)), some (.int (t))] rfl rfl rfl (Nat.le_of_ble_eq_true rfl) (fun h => ?_) rfl
  refine q_aload_n dX3_addLink_0 rfl ?_
  refine q_iload_n dX3_addLink_1 rfl ?_
  refine q_callVv (ν := mX7_has) dX3_addLink_2 uw_414 vX7_has (c_X7_has_3 hG S (t)) (Nat.le_of_ble_eq_true rfl) rfl rfl rfl rfl (Nat.le_of_ble_eq_true rfl) (Nat.le_of_ble_eq_true rfl) (Nat.le_of_ble_eq_true rfl) 0 (Nat.le_of_ble_eq_true rfl) ?_
  refine q_if_eq 20 dX3_addLink_5 rfl (fun c5 => ?_) (fun c5 => ?_)
  · try unfold adL
    exact q_vret dX3_addLink_20 rfl ⟨rfl, by rw [if_neg (bI_0 c5), se_RE]⟩
  · refine q_aload_n dX3_addLink_8 rfl ?_
    refine q_get (j := 0) (v := .ref 19) dX3_addLink_9 (Nat.le_of_ble_eq_true rfl) rfl rfl iuX3 (Nat.le_of_ble_eq_true rfl) uw_166 rfl rfl ?_
    refine q_iload_n dX3_addLink_12 rfl ?_
    refine q_dup2_11 dX3_addLink_13 rfl rfl ?_
    refine q_iald (f := (z_RE S)) dX3_addLink_14 (Nat.le_of_ble_eq_true rfl) rfl (c) rfl (by omega) (Nat.le_of_ble_eq_true rfl) ?_
    refine q_iconst (v := 1) dX3_addLink_15 rfl ?_
    refine q_iload_n dX3_addLink_16 rfl ?_
    refine q_ishl dX3_addLink_17 ?_
    refine q_ior dX3_addLink_18 ?_
    refine q_iast (f := (z_RE S)) dX3_addLink_19 (Nat.le_of_ble_eq_true rfl) rfl (c) rfl (by omega) (Nat.le_of_ble_eq_true rfl) ?_
    refine wp_w (u_RE g _ _) ?_
    try unfold adL
    exact q_vret dX3_addLink_20 rfl ⟨rfl, by rw [if_pos (bI_1 c5)]⟩
set_option maxRecDepth 100000 in
set_option maxHeartbeats 4000000 in
theorem c_X3_leads {g : G0} (hG : Gd g) (S : SS) (i : Nat) (j : Nat)  (h1 : i < 6) : ctv g mX3_leads [.ref 18, .int (nI i), .int (nI j)] (mixW g S) (.int (pI (leads (z_RE S) i j))) (mixW g S) := by
  refine ct_of hG [some (.ref 18), some (.int (nI i)), some (.int (nI j))] rfl rfl rfl (Nat.le_of_ble_eq_true rfl) (fun h => ?_) rfl
  refine q_aload_n dX3_leads_0 rfl ?_
  refine q_get (j := 0) (v := .ref 19) dX3_leads_1 (Nat.le_of_ble_eq_true rfl) rfl rfl iuX3 (Nat.le_of_ble_eq_true rfl) uw_166 rfl rfl ?_
  refine q_iload_n dX3_leads_4 rfl ?_
  refine q_iald (f := (z_RE S)) dX3_leads_5 (Nat.le_of_ble_eq_true rfl) rfl (i) rfl (by omega) (Nat.le_of_ble_eq_true rfl) ?_
  refine q_iconst (v := 1) dX3_leads_6 rfl ?_
  refine q_iload_n dX3_leads_7 rfl ?_
  refine q_ishl dX3_leads_8 ?_
  refine q_iand dX3_leads_9 ?_
  refine q_if_eq 17 dX3_leads_10 rfl (fun c10 => ?_) (fun c10 => ?_)
  · refine q_iconst (v := 0) dX3_leads_17 rfl ?_
    exact q_zret dX3_leads_18 rfl rfl ⟨by rw [pI_f (fun z => z c10)], rfl⟩
  · refine q_iconst (v := 1) dX3_leads_13 rfl ?_
    refine q_goto 18 dX3_leads_14 rfl ?_
    exact q_zret dX3_leads_18 rfl rfl ⟨by rw [pI_t (p := leads (z_RE S) i j) c10], rfl⟩
set_option maxRecDepth 100000 in
set_option maxHeartbeats 4000000 in
theorem c_X3_returnsTo {g : G0} (hG : Gd g) (S : SS) (i : Nat)  (h1 : i < 6) : ctv g mX3_returnsTo [.ref 18, .int (nI i)] (mixW g S) (.int (pI (leads (z_RE S) i i))) (mixW g S) := by
  refine ct_of hG [some (.ref 18), some (.int (nI i))] rfl rfl rfl (Nat.le_of_ble_eq_true rfl) (fun h => ?_) rfl
  refine q_aload_n dX3_returnsTo_0 rfl ?_
  refine q_iload_n dX3_returnsTo_1 rfl ?_
  refine q_iload_n dX3_returnsTo_2 rfl ?_
  refine q_callVv (ν := mX3_leads) dX3_returnsTo_3 uw_415 vX3_leads (c_X3_leads hG S (i) (i) (by omega)) (Nat.le_of_ble_eq_true rfl) rfl rfl rfl rfl (Nat.le_of_ble_eq_true rfl) (Nat.le_of_ble_eq_true rfl) (Nat.le_of_ble_eq_true rfl) 0 (Nat.le_of_ble_eq_true rfl) ?_
  exact q_zret dX3_returnsTo_6 rfl pI_z ⟨rfl, rfl⟩
set_option maxRecDepth 100000 in
set_option maxHeartbeats 4000000 in
theorem l_X3_shares {g : G0} {h : G1} (hG : Gd g) (S : SS) {post : Option Value → (Nat → va_E) → Prop} {xp : String → (Nat → va_E) → Prop} (c : Nat) (hc : c < 6) (hp : post (some (.int (pI (shr (z_RE S) c)))) (mixW g S)) : ∀ (n i : Nat), i + n = c → (∀ e, e < i → ¬ (leads (z_RE S) c e ∧ leads (z_RE S) e c)) → wp g h mX3_sharesLoopWithEarlier (mixW g S) [some (.ref 18), some (.int (nI c)), some (.int (nI i))] [] 0 (QQ g h mX3_sharesLoopWithEarlier post xp) 2 := by
  intro n
  induction n with
  | zero =>
    intro i h1 ha
    obtain rfl : c = i := by omega
    refine q_iload_n dX3_sharesLoopWithEarlier_2 rfl ?_
    refine q_iload_n dX3_sharesLoopWithEarlier_3 rfl ?_
    refine q_icmp_ge 33 dX3_sharesLoopWithEarlier_4 rfl (fun c4 => ?_) (fun c4 => ?_)
    · have n4 := (nI_leI (a := c) (b := c) (by omega) (by omega)).mp c4
      refine q_iconst (v := 0) dX3_sharesLoopWithEarlier_33 rfl ?_
      exact q_zret dX3_sharesLoopWithEarlier_34 rfl rfl (by rw [pI_f (fun z => by obtain ⟨e, h1, h2⟩ := z; exact ha e h1 h2)] at hp; exact hp)
    · have n4 := mt (nI_leI (a := c) (b := c) (by omega) (by omega)).mpr c4
      omega
  | succ n ih =>
    intro i h1 ha
    refine q_iload_n dX3_sharesLoopWithEarlier_2 rfl ?_
    refine q_iload_n dX3_sharesLoopWithEarlier_3 rfl ?_
    refine q_icmp_ge 33 dX3_sharesLoopWithEarlier_4 rfl (fun c4 => ?_) (fun c4 => ?_)
    · have n4 := (nI_leI (a := c) (b := i) (by omega) (by omega)).mp c4
      omega
    · have n4 := mt (nI_leI (a := c) (b := i) (by omega) (by omega)).mpr c4
      refine q_aload_n dX3_sharesLoopWithEarlier_7 rfl ?_
      refine q_iload_n dX3_sharesLoopWithEarlier_8 rfl ?_
      refine q_iload_n dX3_sharesLoopWithEarlier_9 rfl ?_
      refine q_callVv (ν := mX3_leads) dX3_sharesLoopWithEarlier_10 uw_415 vX3_leads (c_X3_leads hG S (c) (i) (by omega)) (Nat.le_of_ble_eq_true rfl) rfl rfl rfl rfl (Nat.le_of_ble_eq_true rfl) (Nat.le_of_ble_eq_true rfl) (Nat.le_of_ble_eq_true rfl) 0 (Nat.le_of_ble_eq_true rfl) ?_
      refine q_if_eq 27 dX3_sharesLoopWithEarlier_13 rfl (fun c13 => ?_) (fun c13 => ?_)
      · refine q_iinc2 (k9 := 1) dX3_sharesLoopWithEarlier_27 rfl (Nat.le_of_ble_eq_true rfl) rfl ?_
        refine wp_L (L2 := [some (.ref 18), some (.int (nI c)), some (.int (nI (i + 1)))]) (by rw [show nI i + 1 = nI (i + 1) from nI_1 _]) ?_
        refine q_goto 2 dX3_sharesLoopWithEarlier_30 rfl ?_
        exact ih (i + 1) (by omega) (by intro e he; rcases Nat.lt_or_ge e i with q | q; exact ha e q; obtain rfl : e = i := (by omega); first | exact fun z => pI_0 c13 z.1 | exact fun z => pI_0 c22 z.2)
      · refine q_aload_n dX3_sharesLoopWithEarlier_16 rfl ?_
        refine q_iload_n dX3_sharesLoopWithEarlier_17 rfl ?_
        refine q_iload_n dX3_sharesLoopWithEarlier_18 rfl ?_
        refine q_callVv (ν := mX3_leads) dX3_sharesLoopWithEarlier_19 uw_415 vX3_leads (c_X3_leads hG S (i) (c) (by omega)) (Nat.le_of_ble_eq_true rfl) rfl rfl rfl rfl (Nat.le_of_ble_eq_true rfl) (Nat.le_of_ble_eq_true rfl) (Nat.le_of_ble_eq_true rfl) 0 (Nat.le_of_ble_eq_true rfl) ?_
        refine q_if_eq 27 dX3_sharesLoopWithEarlier_22 rfl (fun c22 => ?_) (fun c22 => ?_)
        · refine q_iinc2 (k9 := 1) dX3_sharesLoopWithEarlier_27 rfl (Nat.le_of_ble_eq_true rfl) rfl ?_
          refine wp_L (L2 := [some (.ref 18), some (.int (nI c)), some (.int (nI (i + 1)))]) (by rw [show nI i + 1 = nI (i + 1) from nI_1 _]) ?_
          refine q_goto 2 dX3_sharesLoopWithEarlier_30 rfl ?_
          exact ih (i + 1) (by omega) (by intro e he; rcases Nat.lt_or_ge e i with q | q; exact ha e q; obtain rfl : e = i := (by omega); first | exact fun z => pI_0 c13 z.1 | exact fun z => pI_0 c22 z.2)
        · refine q_iconst (v := 1) dX3_sharesLoopWithEarlier_25 rfl ?_
          exact q_zret dX3_sharesLoopWithEarlier_26 rfl rfl (by rw [pI_t ⟨i, by omega, pI_1 c13, pI_1 c22⟩] at hp; exact hp)
set_option maxRecDepth 100000 in
set_option maxHeartbeats 4000000 in
theorem c_X3_shares {g : G0} (hG : Gd g) (S : SS) (c : Nat)  (h1 : c < 6) : ctv g mX3_sharesLoopWithEarlier [.ref 18, .int (nI c)] (mixW g S) (.int (pI (shr (z_RE S) c))) (mixW g S) := by
  refine ct_of hG [some (.ref 18), some (.int (nI c)), none] rfl rfl rfl (Nat.le_of_ble_eq_true rfl) (fun h => ?_) rfl
  refine q_iconst (v := 0) dX3_sharesLoopWithEarlier_0 rfl ?_
  refine q_ist2 dX3_sharesLoopWithEarlier_1 (Nat.le_of_ble_eq_true rfl) rfl ?_
  exact l_X3_shares hG S c h1 ⟨rfl, rfl⟩ c 0 (by omega) (fun e he => absurd he (Nat.not_lt_zero e))
set_option maxRecDepth 100000 in
set_option maxHeartbeats 4000000 in
theorem l_X3_number {g : G0} {h : G1} (hG : Gd g) (S : SS) {Q : State → Prop} (N : Nat) (hN : N ≤ 6) (k : wp g h mX3_number (mixW g S) [some (.ref 18), some (.int (nI N)), some (.int (nbF (z_RE S) N)), some (.int (nI N))] [] 0 Q 34) : ∀ (n i : Nat), i + n = N → wp g h mX3_number (mixW g S) [some (.ref 18), some (.int (nI N)), some (.int (nbF (z_RE S) i)), some (.int (nI i))] [] 0 Q 4 := by
  intro n
  induction n with
  | zero =>
    intro i hq1
    obtain rfl : N = i := by omega
    refine q_iload_n dX3_number_4 rfl ?_
    refine q_iload_n dX3_number_5 rfl ?_
    refine q_icmp_ge 34 dX3_number_6 rfl (fun c6 => ?_) (fun c6 => ?_)
    · have n6 := (nI_leI (a := N) (b := N) (by omega) (by omega)).mp c6
      exact k
    · have n6 := mt (nI_leI (a := N) (b := N) (by omega) (by omega)).mpr c6
      omega
  | succ n ih =>
    intro i hq1
    refine q_iload_n dX3_number_4 rfl ?_
    refine q_iload_n dX3_number_5 rfl ?_
    refine q_icmp_ge 34 dX3_number_6 rfl (fun c6 => ?_) (fun c6 => ?_)
    · have n6 := (nI_leI (a := N) (b := i) (by omega) (by omega)).mp c6
      omega
    · have n6 := mt (nI_leI (a := N) (b := i) (by omega) (by omega)).mpr c6
      refine q_aload_n dX3_number_9 rfl ?_
      refine q_iload_n dX3_number_10 rfl ?_
      refine q_callVv (ν := mX3_returnsTo) dX3_number_11 uw_423 vX3_returnsTo (c_X3_returnsTo hG S (i) (by omega)) (Nat.le_of_ble_eq_true rfl) rfl rfl rfl rfl (Nat.le_of_ble_eq_true rfl) (Nat.le_of_ble_eq_true rfl) (Nat.le_of_ble_eq_true rfl) 0 (Nat.le_of_ble_eq_true rfl) ?_
      refine q_if_eq 28 dX3_number_14 rfl (fun c14 => ?_) (fun c14 => ?_)
      · refine q_iinc3 (k9 := 1) dX3_number_28 rfl (Nat.le_of_ble_eq_true rfl) rfl ?_
        refine wp_L (L2 := [some (.ref 18), some (.int (nI N)), some (.int (nbF (z_RE S) i)), some (.int (nI (i + 1)))]) (by rw [show nI i + 1 = nI (i + 1) from nI_1 _]) ?_
        refine q_goto 4 dX3_number_31 rfl ?_
        refine wp_L (L2 := [some (.ref 18), some (.int (nI N)), some (.int (nbF (z_RE S) (i + 1))), some (.int (nI (i + 1)))]) (by rw [nbF_f (by first | exact fun z => pI_0 c14 z.1 | exact fun z => z.2 (pI_1 c22))]) ?_
        exact ih (i + 1) (by omega)
      · refine q_aload_n dX3_number_17 rfl ?_
        refine q_iload_n dX3_number_18 rfl ?_
        refine q_callVv (ν := mX3_sharesLoopWithEarlier) dX3_number_19 uw_427 vX3_sharesLoopWithEarlier (c_X3_shares hG S (i) (by omega)) (Nat.le_of_ble_eq_true rfl) rfl rfl rfl rfl (Nat.le_of_ble_eq_true rfl) (Nat.le_of_ble_eq_true rfl) (Nat.le_of_ble_eq_true rfl) 0 (Nat.le_of_ble_eq_true rfl) ?_
        refine q_if_ne 28 dX3_number_22 rfl (fun c22 => ?_) (fun c22 => ?_)
        · refine q_iinc3 (k9 := 1) dX3_number_28 rfl (Nat.le_of_ble_eq_true rfl) rfl ?_
          refine wp_L (L2 := [some (.ref 18), some (.int (nI N)), some (.int (nbF (z_RE S) i)), some (.int (nI (i + 1)))]) (by rw [show nI i + 1 = nI (i + 1) from nI_1 _]) ?_
          refine q_goto 4 dX3_number_31 rfl ?_
          refine wp_L (L2 := [some (.ref 18), some (.int (nI N)), some (.int (nbF (z_RE S) (i + 1))), some (.int (nI (i + 1)))]) (by rw [nbF_f (by first | exact fun z => pI_0 c14 z.1 | exact fun z => z.2 (pI_1 c22))]) ?_
          exact ih (i + 1) (by omega)
        · refine q_iinc2 (k9 := 1) dX3_number_25 rfl (Nat.le_of_ble_eq_true rfl) rfl ?_
          refine q_iinc3 (k9 := 1) dX3_number_28 rfl (Nat.le_of_ble_eq_true rfl) rfl ?_
          refine wp_L (L2 := [some (.ref 18), some (.int (nI N)), some (.int (nbF (z_RE S) i + 1)), some (.int (nI (i + 1)))]) (by rw [show nI i + 1 = nI (i + 1) from nI_1 _]) ?_
          refine q_goto 4 dX3_number_31 rfl ?_
          refine wp_L (L2 := [some (.ref 18), some (.int (nI N)), some (.int (nbF (z_RE S) (i + 1))), some (.int (nI (i + 1)))]) (by rw [nbF_t ⟨pI_1 c14, pI_0 c22⟩]) ?_
          exact ih (i + 1) (by omega)
set_option maxRecDepth 100000 in
set_option maxHeartbeats 4000000 in
theorem c_X3_number {g : G0} (hG : Gd g) (S : SS) (N : Nat)  (h1 : N ≤ 6) : ctv g mX3_number [.ref 18, .int (nI N)] (mixW g S) (.int (nbF (z_RE S) N)) (mixW g S) := by
  refine ct_of hG [some (.ref 18), some (.int (nI N)), none, none] rfl rfl rfl (Nat.le_of_ble_eq_true rfl) (fun h => ?_) rfl
  refine q_iconst (v := 0) dX3_number_0 rfl ?_
  refine q_ist2 dX3_number_1 (Nat.le_of_ble_eq_true rfl) rfl ?_
  refine q_iconst (v := 0) dX3_number_2 rfl ?_
  refine q_ist3 dX3_number_3 (Nat.le_of_ble_eq_true rfl) rfl ?_
  refine wp_L (L2 := [some (.ref 18), some (.int (nI N)), some (.int (nbF (z_RE S) 0)), some (.int (nI 0))]) rfl ?_
  refine l_X3_number hG S N h1 ?_ N 0 (by omega)
  refine q_iload_n dX3_number_34 rfl ?_
  exact q_iret dX3_number_35 rfl ⟨rfl, rfl⟩
set_option maxRecDepth 100000 in
set_option maxHeartbeats 4000000 in
theorem l_X3_tr1 {g : G0} {h : G1} (hG : Gd g) (S : SS) {Q : State → Prop} (N : Nat) (hN : z_SV S 0 = nI N) (hN6 : N ≤ 6) (k : wp g h mX3_trace (mixW g (s_RE S (tr1 (z_SV S) (z_RE S) N))) [some (.ref 18), some (.ref 3), some (.int (nI N)), none] [] 0 Q 48) : ∀ (n i : Nat), i + n = N → wp g h mX3_trace (mixW g (s_RE S (tr1 (z_SV S) (z_RE S) i))) [some (.ref 18), some (.ref 3), some (.int (nI i)), none] [] 0 Q 10 := by
  intro n
  induction n with
  | zero =>
    intro i hq1
    obtain rfl : N = i := by omega
    refine q_iload_n dX3_trace_10 rfl ?_
    refine q_aload_n dX3_trace_11 rfl ?_
    refine q_callVv (ν := mX7_count) dX3_trace_12 uw_408 vX7_count (c_X7_count_3 hG (s_RE S (tr1 (z_SV S) (z_RE S) N)) ) (Nat.le_of_ble_eq_true rfl) rfl rfl rfl rfl (Nat.le_of_ble_eq_true rfl) (Nat.le_of_ble_eq_true rfl) (Nat.le_of_ble_eq_true rfl) 0 (Nat.le_of_ble_eq_true rfl) ?_
    refine wp_eq (st2 := .int (((z_SV S) 0)) :: _) rfl ?_
    refine wp_top (y := nI N) hN ?_
    refine q_icmp_ge 48 dX3_trace_15 rfl (fun c15 => ?_) (fun c15 => ?_)
    · have n15 := (nI_leI (a := N) (b := N) (by omega) (by omega)).mp c15
      exact k
    · have n15 := mt (nI_leI (a := N) (b := N) (by omega) (by omega)).mpr c15
      omega
  | succ n ih =>
    intro i hq1
    refine q_iload_n dX3_trace_10 rfl ?_
    refine q_aload_n dX3_trace_11 rfl ?_
    refine q_callVv (ν := mX7_count) dX3_trace_12 uw_408 vX7_count (c_X7_count_3 hG (s_RE S (tr1 (z_SV S) (z_RE S) i)) ) (Nat.le_of_ble_eq_true rfl) rfl rfl rfl rfl (Nat.le_of_ble_eq_true rfl) (Nat.le_of_ble_eq_true rfl) (Nat.le_of_ble_eq_true rfl) 0 (Nat.le_of_ble_eq_true rfl) ?_
    refine wp_eq (st2 := .int (((z_SV S) 0)) :: _) rfl ?_
    refine wp_top (y := nI N) hN ?_
    refine q_icmp_ge 48 dX3_trace_15 rfl (fun c15 => ?_) (fun c15 => ?_)
    · have n15 := (nI_leI (a := N) (b := i) (by omega) (by omega)).mp c15
      omega
    · have n15 := mt (nI_leI (a := N) (b := i) (by omega) (by omega)).mpr c15
      refine q_aload_n dX3_trace_18 rfl ?_
      refine q_aload_n dX3_trace_19 rfl ?_
      refine q_iload_n dX3_trace_20 rfl ?_
      refine q_aload_n dX3_trace_21 rfl ?_
      refine q_iload_n dX3_trace_22 rfl ?_
      refine q_iconst (v := 0) dX3_trace_23 rfl ?_
      refine q_callVv (ν := mX7_target) dX3_trace_24 uw_409 vX7_target (c_X7_target_3 hG (s_RE S (tr1 (z_SV S) (z_RE S) i)) (i) (0) (by omega)) (Nat.le_of_ble_eq_true rfl) rfl rfl rfl rfl (Nat.le_of_ble_eq_true rfl) (Nat.le_of_ble_eq_true rfl) (Nat.le_of_ble_eq_true rfl) 0 (Nat.le_of_ble_eq_true rfl) ?_
      refine wp_eq (st2 := .int ((presF ((z_SV S) 0) ((z_SV S) (16 + 2 * i + 0)))) :: _) rfl ?_
      refine q_callVu (ν := mX3_addLink) dX3_trace_27 uw_410 vX3_addLink (c_X3_addLink hG (s_RE S (tr1 (z_SV S) (z_RE S) i)) (i) (((presF ((z_SV S) 0) ((z_SV S) (16 + 2 * i + 0))))) (by omega)) (Nat.le_of_ble_eq_true rfl) rfl rfl rfl rfl (Nat.le_of_ble_eq_true rfl) (Nat.le_of_ble_eq_true rfl) (Nat.le_of_ble_eq_true rfl) 0 (Nat.le_of_ble_eq_true rfl) ?_
      rw [ss_RE]
      refine wp_w (w2 := mixW g (s_RE S (adL ((z_SV S) 0) (tr1 (z_SV S) (z_RE S) i) i ((presF ((z_SV S) 0) ((z_SV S) (16 + 2 * i + 0))))))) rfl ?_
      refine q_aload_n dX3_trace_30 rfl ?_
      refine q_aload_n dX3_trace_31 rfl ?_
      refine q_iload_n dX3_trace_32 rfl ?_
      refine q_aload_n dX3_trace_33 rfl ?_
      refine q_iload_n dX3_trace_34 rfl ?_
      refine q_iconst (v := 1) dX3_trace_35 rfl ?_
      refine q_callVv (ν := mX7_target) dX3_trace_36 uw_409 vX7_target (c_X7_target_3 hG (s_RE S (adL ((z_SV S) 0) (tr1 (z_SV S) (z_RE S) i) i ((presF ((z_SV S) 0) ((z_SV S) (16 + 2 * i + 0)))))) (i) (1) (by omega)) (Nat.le_of_ble_eq_true rfl) rfl rfl rfl rfl (Nat.le_of_ble_eq_true rfl) (Nat.le_of_ble_eq_true rfl) (Nat.le_of_ble_eq_true rfl) 0 (Nat.le_of_ble_eq_true rfl) ?_
      refine wp_eq (st2 := .int ((presF ((z_SV S) 0) ((z_SV S) (16 + 2 * i + 1)))) :: _) rfl ?_
      refine q_callVu (ν := mX3_addLink) dX3_trace_39 uw_410 vX3_addLink (c_X3_addLink hG (s_RE S (adL ((z_SV S) 0) (tr1 (z_SV S) (z_RE S) i) i ((presF ((z_SV S) 0) ((z_SV S) (16 + 2 * i + 0)))))) (i) (((presF ((z_SV S) 0) ((z_SV S) (16 + 2 * i + 1))))) (by omega)) (Nat.le_of_ble_eq_true rfl) rfl rfl rfl rfl (Nat.le_of_ble_eq_true rfl) (Nat.le_of_ble_eq_true rfl) (Nat.le_of_ble_eq_true rfl) 0 (Nat.le_of_ble_eq_true rfl) ?_
      rw [ss_RE]
      refine wp_w (w2 := mixW g (s_RE S (adL ((z_SV S) 0) (adL ((z_SV S) 0) (tr1 (z_SV S) (z_RE S) i) i ((presF ((z_SV S) 0) ((z_SV S) (16 + 2 * i + 0))))) i ((presF ((z_SV S) 0) ((z_SV S) (16 + 2 * i + 1))))))) rfl ?_
      refine q_iinc2 (k9 := 1) dX3_trace_42 rfl (Nat.le_of_ble_eq_true rfl) rfl ?_
      refine wp_L (L2 := [some (.ref 18), some (.ref 3), some (.int (nI (i + 1))), none]) (by rw [show nI i + 1 = nI (i + 1) from nI_1 _]) ?_
      refine q_goto 10 dX3_trace_45 rfl ?_
      refine wp_w (w2 := mixW g (s_RE S (tr1 (z_SV S) (z_RE S) (i + 1)))) rfl ?_
      exact ih (i + 1) (by omega)
set_option maxRecDepth 100000 in
set_option maxHeartbeats 4000000 in
theorem l_X3_wI {g : G0} {h : G1} (hG : Gd g) (S : SS) {Q : State → Prop} (N : Nat) (hN : z_SV S 0 = nI N) (hN6 : N ≤ 6) (v : Nat) (hv : v < N) (k : wp g h mX3_trace (mixW g (s_RE S (wI (z_RE S) v N))) [some (.ref 18), some (.ref 3), some (.int (nI v)), some (.int (nI N))] [] 0 Q 98) : ∀ (n i : Nat), i + n = N → wp g h mX3_trace (mixW g (s_RE S (wI (z_RE S) v i))) [some (.ref 18), some (.ref 3), some (.int (nI v)), some (.int (nI i))] [] 0 Q 60 := by
  intro n
  induction n with
  | zero =>
    intro i hq1
    obtain rfl : N = i := by omega
    refine q_iload_n dX3_trace_60 rfl ?_
    refine q_aload_n dX3_trace_61 rfl ?_
    refine q_callVv (ν := mX7_count) dX3_trace_62 uw_408 vX7_count (c_X7_count_3 hG (s_RE S (wI (z_RE S) v N)) ) (Nat.le_of_ble_eq_true rfl) rfl rfl rfl rfl (Nat.le_of_ble_eq_true rfl) (Nat.le_of_ble_eq_true rfl) (Nat.le_of_ble_eq_true rfl) 0 (Nat.le_of_ble_eq_true rfl) ?_
    refine wp_eq (st2 := .int (((z_SV S) 0)) :: _) rfl ?_
    refine wp_top (y := nI N) hN ?_
    refine q_icmp_ge 98 dX3_trace_65 rfl (fun c65 => ?_) (fun c65 => ?_)
    · have n65 := (nI_leI (a := N) (b := N) (by omega) (by omega)).mp c65
      exact k
    · have n65 := mt (nI_leI (a := N) (b := N) (by omega) (by omega)).mpr c65
      omega
  | succ n ih =>
    intro i hq1
    refine q_iload_n dX3_trace_60 rfl ?_
    refine q_aload_n dX3_trace_61 rfl ?_
    refine q_callVv (ν := mX7_count) dX3_trace_62 uw_408 vX7_count (c_X7_count_3 hG (s_RE S (wI (z_RE S) v i)) ) (Nat.le_of_ble_eq_true rfl) rfl rfl rfl rfl (Nat.le_of_ble_eq_true rfl) (Nat.le_of_ble_eq_true rfl) (Nat.le_of_ble_eq_true rfl) 0 (Nat.le_of_ble_eq_true rfl) ?_
    refine wp_eq (st2 := .int (((z_SV S) 0)) :: _) rfl ?_
    refine wp_top (y := nI N) hN ?_
    refine q_icmp_ge 98 dX3_trace_65 rfl (fun c65 => ?_) (fun c65 => ?_)
    · have n65 := (nI_leI (a := N) (b := i) (by omega) (by omega)).mp c65
      omega
    · have n65 := mt (nI_leI (a := N) (b := i) (by omega) (by omega)).mpr c65
      refine q_aload_n dX3_trace_68 rfl ?_
      refine q_iload_n dX3_trace_69 rfl ?_
      refine q_iload_n dX3_trace_70 rfl ?_
      refine q_callVv (ν := mX3_leads) dX3_trace_71 uw_415 vX3_leads (c_X3_leads hG (s_RE S (wI (z_RE S) v i)) (i) (v) (by omega)) (Nat.le_of_ble_eq_true rfl) rfl rfl rfl rfl (Nat.le_of_ble_eq_true rfl) (Nat.le_of_ble_eq_true rfl) (Nat.le_of_ble_eq_true rfl) 0 (Nat.le_of_ble_eq_true rfl) ?_
      refine wp_eq (st2 := .int ((pI (leads (wI (z_RE S) v i) i v))) :: _) rfl ?_
      refine q_if_eq 92 dX3_trace_74 rfl (fun c74 => ?_) (fun c74 => ?_)
      · refine q_iinc3 (k9 := 1) dX3_trace_92 rfl (Nat.le_of_ble_eq_true rfl) rfl ?_
        refine wp_L (L2 := [some (.ref 18), some (.ref 3), some (.int (nI v)), some (.int (nI (i + 1)))]) (by rw [show nI i + 1 = nI (i + 1) from nI_1 _]) ?_
        refine q_goto 60 dX3_trace_95 rfl ?_
        refine wp_w (w2 := mixW g (s_RE S (wI (z_RE S) v (i + 1)))) (by rw [wI_f (pI_0 c74)]) ?_
        exact ih (i + 1) (by omega)
      · refine q_aload_n dX3_trace_77 rfl ?_
        refine q_get (j := 0) (v := .ref 19) dX3_trace_78 (Nat.le_of_ble_eq_true rfl) rfl rfl iuX3 (Nat.le_of_ble_eq_true rfl) uw_166 rfl rfl ?_
        refine q_iload_n dX3_trace_81 rfl ?_
        refine q_dup2_11 dX3_trace_82 rfl rfl ?_
        refine q_iald (f := (wI (z_RE S) v i)) dX3_trace_83 (Nat.le_of_ble_eq_true rfl) rfl (i) rfl (by omega) (Nat.le_of_ble_eq_true rfl) ?_
        refine q_aload_n dX3_trace_84 rfl ?_
        refine q_get (j := 0) (v := .ref 19) dX3_trace_85 (Nat.le_of_ble_eq_true rfl) rfl rfl iuX3 (Nat.le_of_ble_eq_true rfl) uw_166 rfl rfl ?_
        refine q_iload_n dX3_trace_88 rfl ?_
        refine q_iald (f := (wI (z_RE S) v i)) dX3_trace_89 (Nat.le_of_ble_eq_true rfl) rfl (v) rfl (by omega) (Nat.le_of_ble_eq_true rfl) ?_
        refine q_ior dX3_trace_90 ?_
        refine q_iast (f := (wI (z_RE S) v i)) dX3_trace_91 (Nat.le_of_ble_eq_true rfl) rfl (i) rfl (by omega) (Nat.le_of_ble_eq_true rfl) ?_
        refine wp_w (u_RE g _ _) ?_
        rw [ss_RE]
        refine q_iinc3 (k9 := 1) dX3_trace_92 rfl (Nat.le_of_ble_eq_true rfl) rfl ?_
        refine wp_L (L2 := [some (.ref 18), some (.ref 3), some (.int (nI v)), some (.int (nI (i + 1)))]) (by rw [show nI i + 1 = nI (i + 1) from nI_1 _]) ?_
        refine q_goto 60 dX3_trace_95 rfl ?_
        refine wp_w (w2 := mixW g (s_RE S (wI (z_RE S) v (i + 1)))) (by rw [wI_t (pI_1 c74)]) ?_
        exact ih (i + 1) (by omega)
set_option maxRecDepth 100000 in
set_option maxHeartbeats 4000000 in
theorem l_X3_wO {g : G0} {h : G1} (hG : Gd g) (S : SS) {Q : State → Prop} (N : Nat) (hN : z_SV S 0 = nI N) (hN6 : N ≤ 6) (k : ∀ z : Option Value, wp g h mX3_trace (mixW g (s_RE S (wO (z_RE S) N N))) [some (.ref 18), some (.ref 3), some (.int (nI N)), z] [] 0 Q 104) : ∀ (n i : Nat) (z : Option Value), i + n = N → wp g h mX3_trace (mixW g (s_RE S (wO (z_RE S) N i))) [some (.ref 18), some (.ref 3), some (.int (nI i)), z] [] 0 Q 50 := by
  intro n
  induction n with
  | zero =>
    intro i z hq1
    obtain rfl : N = i := by omega
    refine q_iload_n dX3_trace_50 rfl ?_
    refine q_aload_n dX3_trace_51 rfl ?_
    refine q_callVv (ν := mX7_count) dX3_trace_52 uw_408 vX7_count (c_X7_count_3 hG (s_RE S (wO (z_RE S) N N)) ) (Nat.le_of_ble_eq_true rfl) rfl rfl rfl rfl (Nat.le_of_ble_eq_true rfl) (Nat.le_of_ble_eq_true rfl) (Nat.le_of_ble_eq_true rfl) 0 (Nat.le_of_ble_eq_true rfl) ?_
    refine wp_eq (st2 := .int (((z_SV S) 0)) :: _) rfl ?_
    refine wp_top (y := nI N) hN ?_
    refine q_icmp_ge 104 dX3_trace_55 rfl (fun c55 => ?_) (fun c55 => ?_)
    · have n55 := (nI_leI (a := N) (b := N) (by omega) (by omega)).mp c55
      exact k z
    · have n55 := mt (nI_leI (a := N) (b := N) (by omega) (by omega)).mpr c55
      omega
  | succ n ih =>
    intro i z hq1
    refine q_iload_n dX3_trace_50 rfl ?_
    refine q_aload_n dX3_trace_51 rfl ?_
    refine q_callVv (ν := mX7_count) dX3_trace_52 uw_408 vX7_count (c_X7_count_3 hG (s_RE S (wO (z_RE S) N i)) ) (Nat.le_of_ble_eq_true rfl) rfl rfl rfl rfl (Nat.le_of_ble_eq_true rfl) (Nat.le_of_ble_eq_true rfl) (Nat.le_of_ble_eq_true rfl) 0 (Nat.le_of_ble_eq_true rfl) ?_
    refine wp_eq (st2 := .int (((z_SV S) 0)) :: _) rfl ?_
    refine wp_top (y := nI N) hN ?_
    refine q_icmp_ge 104 dX3_trace_55 rfl (fun c55 => ?_) (fun c55 => ?_)
    · have n55 := (nI_leI (a := N) (b := i) (by omega) (by omega)).mp c55
      omega
    · have n55 := mt (nI_leI (a := N) (b := i) (by omega) (by omega)).mpr c55
      refine q_iconst (v := 0) dX3_trace_58 rfl ?_
      refine q_ist3 dX3_trace_59 (Nat.le_of_ble_eq_true rfl) rfl ?_
      refine wp_w (w2 := mixW g (s_RE (s_RE S (wO (z_RE S) N i)) (wI (z_RE (s_RE S (wO (z_RE S) N i))) i 0))) (by rw [ss_RE]; rfl) ?_
      refine l_X3_wI hG (s_RE S (wO (z_RE S) N i)) N hN hN6 i (by omega) ?_ N 0 (by omega)
      rw [ss_RE]
      refine q_iinc2 (k9 := 1) dX3_trace_98 rfl (Nat.le_of_ble_eq_true rfl) rfl ?_
      refine wp_L (L2 := [some (.ref 18), some (.ref 3), some (.int (nI (i + 1))), some (.int (nI N))]) (by rw [show nI i + 1 = nI (i + 1) from nI_1 _]) ?_
      refine q_goto 50 dX3_trace_101 rfl ?_
      refine wp_w (w2 := mixW g (s_RE S (wO (z_RE S) N (i + 1)))) rfl ?_
      exact ih (i + 1) _ (by omega)
set_option maxRecDepth 100000 in
set_option maxHeartbeats 4000000 in
theorem c_X3_trace {g : G0} (hG : Gd g) (S : SS)  (N : Nat) (h1 : (z_SV S) 0 = nI N) (h2 : N ≤ 6) : ctu g mX3_trace [.ref 18, .ref 3] (mixW g S) (mixW g (s_RE S (wO (tr1 (z_SV S) (z_RE S) N) N N))) := by
  refine ct_of hG [some (.ref 18), some (.ref 3), none, none] rfl rfl rfl (Nat.le_of_ble_eq_true rfl) (fun h => ?_) rfl
  refine q_aload_n dX3_trace_0 rfl ?_
  refine q_get (j := 0) (v := .ref 19) dX3_trace_1 (Nat.le_of_ble_eq_true rfl) rfl rfl iuX3 (Nat.le_of_ble_eq_true rfl) uw_166 rfl rfl ?_
  refine q_iconst (v := 0) dX3_trace_4 rfl ?_
  refine q_callSu (ν := mJ7_fill_53178) dX3_trace_5 uw_405 vJ7_fill_53178 (c_fill_19 hG S (0)) rfl rfl (Nat.le_of_ble_eq_true rfl) (Nat.le_of_ble_eq_true rfl) (Nat.le_of_ble_eq_true rfl) 0 (Nat.le_of_ble_eq_true rfl) ?_
  refine wp_w (w2 := mixW g (s_RE S (filF (z_RE S) 0 6))) rfl ?_
  refine q_iconst (v := 0) dX3_trace_8 rfl ?_
  refine q_ist2 dX3_trace_9 (Nat.le_of_ble_eq_true rfl) rfl ?_
  refine wp_w (w2 := mixW g (s_RE S (tr1 (z_SV S) (z_RE S) 0))) rfl ?_
  refine l_X3_tr1 hG S N h1 h2 ?_ N 0 (by omega)
  refine q_iconst (v := 0) dX3_trace_48 rfl ?_
  refine q_ist2 dX3_trace_49 (Nat.le_of_ble_eq_true rfl) rfl ?_
  refine wp_w (w2 := mixW g (s_RE (s_RE S (tr1 (z_SV S) (z_RE S) N)) (wO (z_RE (s_RE S (tr1 (z_SV S) (z_RE S) N))) N 0))) (by rw [ss_RE]; rfl) ?_
  refine l_X3_wO hG (s_RE S (tr1 (z_SV S) (z_RE S) N)) N h1 h2 (fun z => ?_) N 0 none (by omega)
  rw [ss_RE]
  exact q_vret dX3_trace_104 rfl ⟨rfl, rfl⟩
