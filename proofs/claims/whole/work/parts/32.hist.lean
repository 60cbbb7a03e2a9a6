set_option maxRecDepth 100000 in
set_option maxHeartbeats 4000000 in
theorem c_X8_put_8 {g : G0} (hG : Gd g) (S : SS) (r : Nat)  (h1 : r < 14) : ctu g mX8_put [.ref 8, .int (nI r), .ref 3] (mixW g S) (mixW g (s_HR S (va_cpy (z_SV S) (z_HR S) 0 (r * 44) 44))) := by
  refine ct_of hG [some (.ref 8), some (.int (nI r)), some (.ref 3)] rfl rfl rfl (Nat.le_of_ble_eq_true rfl) (fun h => ?_) rfl
  refine q_iload_n dX8_put_0 rfl ?_
  refine q_if_lt 30 dX8_put_1 rfl (fun c1 => ?_) (fun c1 => ?_)
  · have n1 := (nI_ltI (a := r) (b := 0) (by omega) (by omega)).mp c1
    omega
  · have n1 := mt (nI_ltI (a := r) (b := 0) (by omega) (by omega)).mpr c1
    refine q_iload_n dX8_put_4 rfl ?_
    refine q_aload_n dX8_put_5 rfl ?_
    refine q_get (j := 0) (v := .int (14)) dX8_put_6 (Nat.le_of_ble_eq_true rfl) rfl rfl iuX8 (Nat.le_of_ble_eq_true rfl) uw_108 rfl rfl ?_
    refine q_icmp_ge 30 dX8_put_9 rfl (fun c9 => ?_) (fun c9 => ?_)
    · have n9 := (nI_leI (a := 14) (b := r) (by omega) (by omega)).mp c9
      omega
    · have n9 := mt (nI_leI (a := 14) (b := r) (by omega) (by omega)).mpr c9
      refine q_aload_n dX8_put_12 rfl ?_
      refine q_getN (j := 0) (v := .ref 4) dX8_put_13 (Nat.le_of_ble_eq_true rfl) rfl rfl iuX7 (Nat.le_of_ble_eq_true rfl) (List.mem_of_getElem? (i := 0) rfl) rfl rfl ?_
      refine q_iconst (v := 0) dX8_put_16 rfl ?_
      refine q_aload_n dX8_put_17 rfl ?_
      refine q_get (j := 1) (v := .ref 9) dX8_put_18 (Nat.le_of_ble_eq_true rfl) rfl rfl iuX8 (Nat.le_of_ble_eq_true rfl) uw_109 rfl rfl ?_
      refine q_iload_n dX8_put_21 rfl ?_
      refine q_bipush (v := 44) dX8_put_22 rfl ?_
      refine q_imul dX8_put_24 ?_
      refine q_bipush (v := 44) dX8_put_25 rfl ?_
      refine q_copy (f := (z_SV S)) (f2 := (z_HR S)) dX8_put_27 uw_304 uw_306 uw_305 uw_56 (Nat.le_of_ble_eq_true rfl) (Nat.le_of_ble_eq_true rfl) rfl rfl (0) ((r * 44)) (44) rfl (by simp only [fa_lit, pk_mul, nI_add]) rfl (by omega) (by omega) ⟨(Nat.le_of_ble_eq_true rfl), (Nat.le_of_ble_eq_true rfl), (Nat.le_of_ble_eq_true rfl)⟩ (Nat.le_of_ble_eq_true rfl) (Nat.le_of_ble_eq_true rfl) ?_
      refine wp_w (u_HR g _ _) ?_
      exact q_vret dX8_put_30 rfl ⟨rfl, rfl⟩
set_option maxRecDepth 100000 in
set_option maxHeartbeats 4000000 in
theorem c_X8_fetch_8 {g : G0} (hG : Gd g) (S : SS) (r : Nat)  (h1 : r < 14) : ctu g mX8_fetch [.ref 8, .int (nI r), .ref 3] (mixW g S) (mixW g (s_SV S (va_cpy (z_HR S) (z_SV S) (r * 44) 0 44))) := by
  refine ct_of hG [some (.ref 8), some (.int (nI r)), some (.ref 3)] rfl rfl rfl (Nat.le_of_ble_eq_true rfl) (fun h => ?_) rfl
  refine q_iload_n dX8_fetch_0 rfl ?_
  refine q_if_lt 30 dX8_fetch_1 rfl (fun c1 => ?_) (fun c1 => ?_)
  · have n1 := (nI_ltI (a := r) (b := 0) (by omega) (by omega)).mp c1
    omega
  · have n1 := mt (nI_ltI (a := r) (b := 0) (by omega) (by omega)).mpr c1
    refine q_iload_n dX8_fetch_4 rfl ?_
    refine q_aload_n dX8_fetch_5 rfl ?_
    refine q_get (j := 0) (v := .int (14)) dX8_fetch_6 (Nat.le_of_ble_eq_true rfl) rfl rfl iuX8 (Nat.le_of_ble_eq_true rfl) uw_108 rfl rfl ?_
    refine q_icmp_ge 30 dX8_fetch_9 rfl (fun c9 => ?_) (fun c9 => ?_)
    · have n9 := (nI_leI (a := 14) (b := r) (by omega) (by omega)).mp c9
      omega
    · have n9 := mt (nI_leI (a := 14) (b := r) (by omega) (by omega)).mpr c9
      refine q_aload_n dX8_fetch_12 rfl ?_
      refine q_get (j := 1) (v := .ref 9) dX8_fetch_13 (Nat.le_of_ble_eq_true rfl) rfl rfl iuX8 (Nat.le_of_ble_eq_true rfl) uw_109 rfl rfl ?_
      refine q_iload_n dX8_fetch_16 rfl ?_
      refine q_bipush (v := 44) dX8_fetch_17 rfl ?_
      refine q_imul dX8_fetch_19 ?_
      refine q_aload_n dX8_fetch_20 rfl ?_
      refine q_getN (j := 0) (v := .ref 4) dX8_fetch_21 (Nat.le_of_ble_eq_true rfl) rfl rfl iuX7 (Nat.le_of_ble_eq_true rfl) (List.mem_of_getElem? (i := 0) rfl) rfl rfl ?_
      refine q_iconst (v := 0) dX8_fetch_24 rfl ?_
      refine q_bipush (v := 44) dX8_fetch_25 rfl ?_
      refine q_copy (f := (z_HR S)) (f2 := (z_SV S)) dX8_fetch_27 uw_304 uw_306 uw_305 uw_56 (Nat.le_of_ble_eq_true rfl) (Nat.le_of_ble_eq_true rfl) rfl rfl ((r * 44)) (0) (44) (by simp only [fa_lit, pk_mul, nI_add]) rfl rfl (by omega) (by omega) ⟨(Nat.le_of_ble_eq_true rfl), (Nat.le_of_ble_eq_true rfl), (Nat.le_of_ble_eq_true rfl)⟩ (Nat.le_of_ble_eq_true rfl) (Nat.le_of_ble_eq_true rfl) ?_
      refine wp_w (u_SV g _ _) ?_
      exact q_vret dX8_fetch_30 rfl ⟨rfl, rfl⟩
set_option maxRecDepth 100000 in
set_option maxHeartbeats 4000000 in
theorem c_X8_put_10 {g : G0} (hG : Gd g) (S : SS) (r : Nat)  (h1 : r < 2) : ctu g mX8_put [.ref 10, .int (nI r), .ref 3] (mixW g S) (mixW g (s_SL S (va_cpy (z_SV S) (z_SL S) 0 (r * 44) 44))) := by
  refine ct_of hG [some (.ref 10), some (.int (nI r)), some (.ref 3)] rfl rfl rfl (Nat.le_of_ble_eq_true rfl) (fun h => ?_) rfl
  refine q_iload_n dX8_put_0 rfl ?_
  refine q_if_lt 30 dX8_put_1 rfl (fun c1 => ?_) (fun c1 => ?_)
  · have n1 := (nI_ltI (a := r) (b := 0) (by omega) (by omega)).mp c1
    omega
  · have n1 := mt (nI_ltI (a := r) (b := 0) (by omega) (by omega)).mpr c1
    refine q_iload_n dX8_put_4 rfl ?_
    refine q_aload_n dX8_put_5 rfl ?_
    refine q_get (j := 0) (v := .int (2)) dX8_put_6 (Nat.le_of_ble_eq_true rfl) rfl rfl iuX8 (Nat.le_of_ble_eq_true rfl) uw_108 rfl rfl ?_
    refine q_icmp_ge 30 dX8_put_9 rfl (fun c9 => ?_) (fun c9 => ?_)
    · have n9 := (nI_leI (a := 2) (b := r) (by omega) (by omega)).mp c9
      omega
    · have n9 := mt (nI_leI (a := 2) (b := r) (by omega) (by omega)).mpr c9
      refine q_aload_n dX8_put_12 rfl ?_
      refine q_getN (j := 0) (v := .ref 4) dX8_put_13 (Nat.le_of_ble_eq_true rfl) rfl rfl iuX7 (Nat.le_of_ble_eq_true rfl) (List.mem_of_getElem? (i := 0) rfl) rfl rfl ?_
      refine q_iconst (v := 0) dX8_put_16 rfl ?_
      refine q_aload_n dX8_put_17 rfl ?_
      refine q_get (j := 1) (v := .ref 11) dX8_put_18 (Nat.le_of_ble_eq_true rfl) rfl rfl iuX8 (Nat.le_of_ble_eq_true rfl) uw_109 rfl rfl ?_
      refine q_iload_n dX8_put_21 rfl ?_
      refine q_bipush (v := 44) dX8_put_22 rfl ?_
      refine q_imul dX8_put_24 ?_
      refine q_bipush (v := 44) dX8_put_25 rfl ?_
      refine q_copy (f := (z_SV S)) (f2 := (z_SL S)) dX8_put_27 uw_304 uw_306 uw_305 uw_56 (Nat.le_of_ble_eq_true rfl) (Nat.le_of_ble_eq_true rfl) rfl rfl (0) ((r * 44)) (44) rfl (by simp only [fa_lit, pk_mul, nI_add]) rfl (by omega) (by omega) ⟨(Nat.le_of_ble_eq_true rfl), (Nat.le_of_ble_eq_true rfl), (Nat.le_of_ble_eq_true rfl)⟩ (Nat.le_of_ble_eq_true rfl) (Nat.le_of_ble_eq_true rfl) ?_
      refine wp_w (u_SL g _ _) ?_
      exact q_vret dX8_put_30 rfl ⟨rfl, rfl⟩
set_option maxRecDepth 100000 in
set_option maxHeartbeats 4000000 in
theorem c_X8_fetch_10 {g : G0} (hG : Gd g) (S : SS) (r : Nat)  (h1 : r < 2) : ctu g mX8_fetch [.ref 10, .int (nI r), .ref 3] (mixW g S) (mixW g (s_SV S (va_cpy (z_SL S) (z_SV S) (r * 44) 0 44))) := by
  refine ct_of hG [some (.ref 10), some (.int (nI r)), some (.ref 3)] rfl rfl rfl (Nat.le_of_ble_eq_true rfl) (fun h => ?_) rfl
  refine q_iload_n dX8_fetch_0 rfl ?_
  refine q_if_lt 30 dX8_fetch_1 rfl (fun c1 => ?_) (fun c1 => ?_)
  · have n1 := (nI_ltI (a := r) (b := 0) (by omega) (by omega)).mp c1
    omega
  · have n1 := mt (nI_ltI (a := r) (b := 0) (by omega) (by omega)).mpr c1
    refine q_iload_n dX8_fetch_4 rfl ?_
    refine q_aload_n dX8_fetch_5 rfl ?_
    refine q_get (j := 0) (v := .int (2)) dX8_fetch_6 (Nat.le_of_ble_eq_true rfl) rfl rfl iuX8 (Nat.le_of_ble_eq_true rfl) uw_108 rfl rfl ?_
    refine q_icmp_ge 30 dX8_fetch_9 rfl (fun c9 => ?_) (fun c9 => ?_)
    · have n9 := (nI_leI (a := 2) (b := r) (by omega) (by omega)).mp c9
      omega
    · have n9 := mt (nI_leI (a := 2) (b := r) (by omega) (by omega)).mpr c9
      refine q_aload_n dX8_fetch_12 rfl ?_
      refine q_get (j := 1) (v := .ref 11) dX8_fetch_13 (Nat.le_of_ble_eq_true rfl) rfl rfl iuX8 (Nat.le_of_ble_eq_true rfl) uw_109 rfl rfl ?_
      refine q_iload_n dX8_fetch_16 rfl ?_
      refine q_bipush (v := 44) dX8_fetch_17 rfl ?_
      refine q_imul dX8_fetch_19 ?_
      refine q_aload_n dX8_fetch_20 rfl ?_
      refine q_getN (j := 0) (v := .ref 4) dX8_fetch_21 (Nat.le_of_ble_eq_true rfl) rfl rfl iuX7 (Nat.le_of_ble_eq_true rfl) (List.mem_of_getElem? (i := 0) rfl) rfl rfl ?_
      refine q_iconst (v := 0) dX8_fetch_24 rfl ?_
      refine q_bipush (v := 44) dX8_fetch_25 rfl ?_
      refine q_copy (f := (z_SL S)) (f2 := (z_SV S)) dX8_fetch_27 uw_304 uw_306 uw_305 uw_56 (Nat.le_of_ble_eq_true rfl) (Nat.le_of_ble_eq_true rfl) rfl rfl ((r * 44)) (0) (44) (by simp only [fa_lit, pk_mul, nI_add]) rfl rfl (by omega) (by omega) ⟨(Nat.le_of_ble_eq_true rfl), (Nat.le_of_ble_eq_true rfl), (Nat.le_of_ble_eq_true rfl)⟩ (Nat.le_of_ble_eq_true rfl) (Nat.le_of_ble_eq_true rfl) ?_
      refine wp_w (u_SV g _ _) ?_
      exact q_vret dX8_fetch_30 rfl ⟨rfl, rfl⟩
set_option maxRecDepth 100000 in
set_option maxHeartbeats 4000000 in
theorem c_X2_size {g : G0} (hG : Gd g) (S : SS)    : ctv g mX2_size [.ref 7] (mixW g S) (.int ((z_HK S))) (mixW g S) := by
  refine ct_of hG [some (.ref 7)] rfl rfl rfl (Nat.le_of_ble_eq_true rfl) (fun h => ?_) rfl
  refine q_aload_n dX2_size_0 rfl ?_
  refine q_get (j := 2) (v := .int ((z_HK S))) dX2_size_1 (Nat.le_of_ble_eq_true rfl) rfl rfl iuX2 (Nat.le_of_ble_eq_true rfl) uw_117 rfl rfl ?_
  exact q_iret dX2_size_4 rfl ⟨rfl, rfl⟩
set_option maxRecDepth 100000 in
set_option maxHeartbeats 4000000 in
theorem c_X2_forget {g : G0} (hG : Gd g) (S : SS)    : ctu g mX2_forget [.ref 7] (mixW g S) (mixW g (s_HK S (0))) := by
  refine ct_of hG [some (.ref 7)] rfl rfl rfl (Nat.le_of_ble_eq_true rfl) (fun h => ?_) rfl
  refine q_aload_n dX2_forget_0 rfl ?_
  refine q_iconst (v := 0) dX2_forget_1 rfl ?_
  refine q_put (j := 2) (ty := .int) dX2_forget_2 (Nat.le_of_ble_eq_true rfl) rfl rfl iuX2 tyX2_ok nmX2 (Nat.le_of_ble_eq_true rfl) uw_117 rfl rfl rfl rfl rfl (Nat.le_of_ble_eq_true rfl) ?_
  refine wp_w (u_HK g _ _) ?_
  exact q_vret dX2_forget_5 rfl ⟨rfl, rfl⟩
set_option maxRecDepth 100000 in
set_option maxHeartbeats 4000000 in
theorem c_X2_remember {g : G0} (hG : Gd g) (S : SS)  (p : Nat) (q : Nat) (h1 : (z_HN S) = nI p) (h2 : p < 14) (h3 : (z_HK S) = nI q) (h4 : q ≤ 14) : ctu g mX2_remember [.ref 7, .ref 3] (mixW g S) (mixW g (s_HN (s_HK (s_HR S (va_cpy (z_SV S) (z_HR S) 0 (p * 44) 44)) (nI (min (q + 1) 14))) (nI ((p + 1) % 14)))) := by
  refine ct_of hG [some (.ref 7), some (.ref 3)] rfl rfl rfl (Nat.le_of_ble_eq_true rfl) (fun h => ?_) rfl
  refine q_aload_n dX2_remember_0 rfl ?_
  refine q_get (j := 0) (v := .ref 8) dX2_remember_1 (Nat.le_of_ble_eq_true rfl) rfl rfl iuX2 (Nat.le_of_ble_eq_true rfl) uw_115 rfl rfl ?_
  refine q_aload_n dX2_remember_4 rfl ?_
  refine q_get (j := 1) (v := .int ((z_HN S))) dX2_remember_5 (Nat.le_of_ble_eq_true rfl) rfl rfl iuX2 (Nat.le_of_ble_eq_true rfl) uw_116 rfl rfl ?_
  refine wp_top (y := nI p) h1 ?_
  refine q_aload_n dX2_remember_8 rfl ?_
  refine q_callVu (ν := mX8_put) dX2_remember_9 uw_300 vX8_put (c_X8_put_8 hG S (p) (by omega)) (Nat.le_of_ble_eq_true rfl) rfl rfl rfl rfl (Nat.le_of_ble_eq_true rfl) (Nat.le_of_ble_eq_true rfl) (Nat.le_of_ble_eq_true rfl) 0 (Nat.le_of_ble_eq_true rfl) ?_
  refine wp_w (w2 := mixW g (s_HR S (va_cpy (z_SV S) (z_HR S) 0 (p * 44) 44))) rfl ?_
  refine q_aload_n dX2_remember_12 rfl ?_
  refine q_aload_n dX2_remember_13 rfl ?_
  refine q_get (j := 1) (v := .int ((z_HN S))) dX2_remember_14 (Nat.le_of_ble_eq_true rfl) rfl rfl iuX2 (Nat.le_of_ble_eq_true rfl) uw_116 rfl rfl ?_
  refine wp_top (y := nI p) h1 ?_
  refine q_iconst (v := 1) dX2_remember_17 rfl ?_
  refine q_iadd dX2_remember_18 ?_
  refine q_bipush (v := 14) dX2_remember_19 rfl ?_
  refine q_irem dX2_remember_21 (by decide) ?_
  refine wp_top (y := nI ((p + 1) % 14)) (by rw [nI_1]; exact pk_rem (d := 14) (by omega) (by omega) (by omega)) ?_
  refine q_put (j := 1) (ty := .int) dX2_remember_22 (Nat.le_of_ble_eq_true rfl) rfl rfl iuX2 tyX2_ok nmX2 (Nat.le_of_ble_eq_true rfl) uw_116 rfl rfl rfl rfl rfl (Nat.le_of_ble_eq_true rfl) ?_
  refine wp_w (u_HN g _ _) ?_
  refine q_aload_n dX2_remember_25 rfl ?_
  refine q_aload_n dX2_remember_26 rfl ?_
  refine q_get (j := 2) (v := .int ((z_HK S))) dX2_remember_27 (Nat.le_of_ble_eq_true rfl) rfl rfl iuX2 (Nat.le_of_ble_eq_true rfl) uw_117 rfl rfl ?_
  refine wp_top (y := nI q) h3 ?_
  refine q_iconst (v := 1) dX2_remember_30 rfl ?_
  refine q_iadd dX2_remember_31 ?_
  refine wp_top (y := nI (q + 1)) (nI_1 q) ?_
  refine q_bipush (v := 14) dX2_remember_32 rfl ?_
  refine q_mmin dX2_remember_34 uw_307 (Nat.le_of_ble_eq_true rfl) (Nat.le_of_ble_eq_true rfl) (Nat.le_of_ble_eq_true rfl) ?_
  refine wp_top (y := nI (min (q + 1) 14)) (minI_nI (b := 14) (by omega) (by omega)) ?_
  refine q_put (j := 2) (ty := .int) dX2_remember_37 (Nat.le_of_ble_eq_true rfl) rfl rfl iuX2 tyX2_ok nmX2 (Nat.le_of_ble_eq_true rfl) uw_117 rfl rfl rfl rfl rfl (Nat.le_of_ble_eq_true rfl) ?_
  refine wp_w (u_HK g _ _) ?_
  rw [sc_HK_HN]
  exact q_vret dX2_remember_40 rfl ⟨rfl, rfl⟩
set_option maxRecDepth 100000 in
set_option maxHeartbeats 4000000 in
theorem c_X2_takeBack {g : G0} (hG : Gd g) (S : SS)  (p : Nat) (q : Nat) (h1 : (z_HN S) = nI p) (h2 : p < 14) (h3 : (z_HK S) = nI q) (h4 : 0 < q) (h5 : q ≤ 14) : ctu g mX2_takeBack [.ref 7, .ref 3] (mixW g S) (mixW g (s_SV (s_HN (s_HK S (nI (q - 1))) (nI ((p + 13) % 14))) (va_cpy (z_HR S) (z_SV S) (((p + 13) % 14) * 44) 0 44))) := by
  refine ct_of hG [some (.ref 7), some (.ref 3)] rfl rfl rfl (Nat.le_of_ble_eq_true rfl) (fun h => ?_) rfl
  refine q_aload_n dX2_takeBack_0 rfl ?_
  refine q_get (j := 2) (v := .int ((z_HK S))) dX2_takeBack_1 (Nat.le_of_ble_eq_true rfl) rfl rfl iuX2 (Nat.le_of_ble_eq_true rfl) uw_117 rfl rfl ?_
  refine wp_top (y := nI q) h3 ?_
  refine q_if_le 45 dX2_takeBack_4 rfl (fun c4 => ?_) (fun c4 => ?_)
  · have n4 := (nI_leI (a := q) (b := 0) (by omega) (by omega)).mp c4
    omega
  · have n4 := mt (nI_leI (a := q) (b := 0) (by omega) (by omega)).mpr c4
    refine q_aload_n dX2_takeBack_7 rfl ?_
    refine q_aload_n dX2_takeBack_8 rfl ?_
    refine q_get (j := 1) (v := .int ((z_HN S))) dX2_takeBack_9 (Nat.le_of_ble_eq_true rfl) rfl rfl iuX2 (Nat.le_of_ble_eq_true rfl) uw_116 rfl rfl ?_
    refine wp_top (y := nI p) h1 ?_
    refine q_bipush (v := 14) dX2_takeBack_12 rfl ?_
    refine q_iadd dX2_takeBack_14 ?_
    refine wp_top (y := nI (p + 14)) (nI_add p 14) ?_
    refine q_iconst (v := 1) dX2_takeBack_15 rfl ?_
    refine q_isub dX2_takeBack_16 ?_
    refine wp_top (y := nI (p + 13)) (pk_sub (a := p + 14) (b := 1) (by omega)) ?_
    refine q_bipush (v := 14) dX2_takeBack_17 rfl ?_
    refine q_irem dX2_takeBack_19 (by decide) ?_
    refine wp_top (y := nI ((p + 13) % 14)) (pk_rem (d := 14) (by omega) (by omega) (by omega)) ?_
    refine q_put (j := 1) (ty := .int) dX2_takeBack_20 (Nat.le_of_ble_eq_true rfl) rfl rfl iuX2 tyX2_ok nmX2 (Nat.le_of_ble_eq_true rfl) uw_116 rfl rfl rfl rfl rfl (Nat.le_of_ble_eq_true rfl) ?_
    refine wp_w (u_HN g _ _) ?_
    refine q_aload_n dX2_takeBack_23 rfl ?_
    refine q_dup dX2_takeBack_24 rfl ?_
    refine q_get (j := 2) (v := .int ((z_HK S))) dX2_takeBack_25 (Nat.le_of_ble_eq_true rfl) rfl rfl iuX2 (Nat.le_of_ble_eq_true rfl) uw_117 rfl rfl ?_
    refine wp_top (y := nI q) h3 ?_
    refine q_iconst (v := 1) dX2_takeBack_28 rfl ?_
    refine q_isub dX2_takeBack_29 ?_
    refine wp_top (y := nI (q - 1)) (pk_sub (a := q) (b := 1) (by omega)) ?_
    refine q_put (j := 2) (ty := .int) dX2_takeBack_30 (Nat.le_of_ble_eq_true rfl) rfl rfl iuX2 tyX2_ok nmX2 (Nat.le_of_ble_eq_true rfl) uw_117 rfl rfl rfl rfl rfl (Nat.le_of_ble_eq_true rfl) ?_
    refine wp_w (u_HK g _ _) ?_
    rw [sc_HK_HN]
    refine q_aload_n dX2_takeBack_33 rfl ?_
    refine q_get (j := 0) (v := .ref 8) dX2_takeBack_34 (Nat.le_of_ble_eq_true rfl) rfl rfl iuX2 (Nat.le_of_ble_eq_true rfl) uw_115 rfl rfl ?_
    refine q_aload_n dX2_takeBack_37 rfl ?_
    refine q_get (j := 1) (v := .int ((nI ((p + 13) % 14)))) dX2_takeBack_38 (Nat.le_of_ble_eq_true rfl) rfl rfl iuX2 (Nat.le_of_ble_eq_true rfl) uw_116 rfl rfl ?_
    refine q_aload_n dX2_takeBack_41 rfl ?_
    refine q_callVu (ν := mX8_fetch) dX2_takeBack_42 uw_759 vX8_fetch (c_X8_fetch_8 hG (s_HN (s_HK S (nI (q - 1))) (nI ((p + 13) % 14))) (((p + 13) % 14)) (by omega)) (Nat.le_of_ble_eq_true rfl) rfl rfl rfl rfl (Nat.le_of_ble_eq_true rfl) (Nat.le_of_ble_eq_true rfl) (Nat.le_of_ble_eq_true rfl) 0 (Nat.le_of_ble_eq_true rfl) ?_
    refine wp_w (w2 := mixW g (s_SV (s_HN (s_HK S (nI (q - 1))) (nI ((p + 13) % 14))) (va_cpy (z_HR S) (z_SV S) (((p + 13) % 14) * 44) 0 44))) rfl ?_
    exact q_vret dX2_takeBack_45 rfl ⟨rfl, rfl⟩
