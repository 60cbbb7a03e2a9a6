theorem and63 (x : Int32) : ∃ m, m < 64 ∧ x &&& 63 = nI m := by
  refine ⟨(x &&& 63).toBitVec.toNat, ?_, ?_⟩
  · show (x.toBitVec &&& (63 : Int32).toBitVec).toNat < 64
    rw [BitVec.toNat_and]
    have : x.toBitVec.toNat &&& (63 : Int32).toBitVec.toNat ≤ (63 : Int32).toBitVec.toNat := Nat.and_le_right
    have e : (63 : Int32).toBitVec.toNat = 63 := rfl
    omega
  · apply Int32.toBitVec_inj.mp
    show (x &&& 63).toBitVec = BitVec.ofNat 32 (x &&& 63).toBitVec.toNat
    rw [BitVec.ofNat_toNat, BitVec.setWidth_eq]
theorem n5 {n i : Nat} (hn : n ≤ 2560) (hi : i ≤ 4000) : (nI n - 5 < nI i) ↔ n < i + 5 := by
  rw [fa_lt, Int32.toInt_sub, nI_toInt (by omega), nI_toInt (by omega), show (5 : Int32).toInt = 5 from rfl, Int.bmod_eq_of_le (by omega) (by omega)]
  omega
set_option maxRecDepth 100000 in
set_option maxHeartbeats 4000000 in
theorem law_sw {g : G0} (hG : Gd g) {h : G1} {Q : State → Prop} {xs : Nat → Int32} {n i : Nat} (hX : Scr g h xs n) (hi : i + 5 ≤ n) {S : SS} (hR : RLaw S) {bb : Nat} (k : ∀ S2, RLaw S2 → wp g h mL_law (mixW g S2) [some (.ref 41), some (.ref 0), some (.ref 26), some (.ref 40), some (.int (nI i)), none, none, none] [] bb Q 1910) : ∀ c, c < 64 → wp g h mL_law (mixW g S) [some (.ref 41), some (.ref 0), some (.ref 26), some (.ref 40), some (.int (nI i)), none, none, none] [.int (nI c)] (bb + 8) Q 39 := by
  intro c hc
  by_cases z : c < 34
  · match c, z with
    | 0, _ => exact q_tswIn (tgt := 188) dL_law_39 (by decide) rfl rfl (y_0 hG hX hi hR k)
    | 1, _ => exact q_tswIn (tgt := 244) dL_law_39 (by decide) rfl rfl (y_1 hG hX hi hR k)
    | 2, _ => exact q_tswIn (tgt := 257) dL_law_39 (by decide) rfl rfl (y_2 hG hX hi hR k)
    | 3, _ => exact q_tswIn (tgt := 270) dL_law_39 (by decide) rfl rfl (y_3 hG hX hi hR k)
    | 4, _ => exact q_tswIn (tgt := 314) dL_law_39 (by decide) rfl rfl (y_4 hG hX hi hR k)
    | 5, _ => exact q_tswIn (tgt := 327) dL_law_39 (by decide) rfl rfl (y_5 hG hX hi hR k)
    | 6, _ => exact q_tswIn (tgt := 395) dL_law_39 (by decide) rfl rfl (y_6 hG hX hi hR k)
    | 7, _ => exact q_tswIn (tgt := 463) dL_law_39 (by decide) rfl rfl (y_7 hG hX hi hR k)
    | 8, _ => exact q_tswIn (tgt := 476) dL_law_39 (by decide) rfl rfl (y_8 hG hX hi hR k)
    | 9, _ => exact q_tswIn (tgt := 532) dL_law_39 (by decide) rfl rfl (y_9 hG hX hi hR k)
    | 10, _ => exact q_tswIn (tgt := 624) dL_law_39 (by decide) rfl rfl (y_10 hG hX hi hR k)
    | 11, _ => exact q_tswIn (tgt := 668) dL_law_39 (by decide) rfl rfl (y_11 hG hX hi hR k)
    | 12, _ => exact q_tswIn (tgt := 748) dL_law_39 (by decide) rfl rfl (y_12 hG hX hi hR k)
    | 13, _ => exact q_tswIn (tgt := 828) dL_law_39 (by decide) rfl rfl (y_13 hG hX hi hR k)
    | 14, _ => exact q_tswIn (tgt := 908) dL_law_39 (by decide) rfl rfl (y_14 hG hX hi hR k)
    | 15, _ => exact q_tswIn (tgt := 964) dL_law_39 (by decide) rfl rfl (y_15 hG hX hi hR k)
    | 16, _ => exact q_tswIn (tgt := 977) dL_law_39 (by decide) rfl rfl (y_16 hG hX hi hR k)
    | 17, _ => exact q_tswIn (tgt := 1021) dL_law_39 (by decide) rfl rfl (y_17 hG hX hi hR k)
    | 18, _ => exact q_tswIn (tgt := 1089) dL_law_39 (by decide) rfl rfl (y_18 hG hX hi hR k)
    | 19, _ => exact q_tswIn (tgt := 1157) dL_law_39 (by decide) rfl rfl (y_19 hG hX hi hR k)
    | 20, _ => exact q_tswIn (tgt := 1170) dL_law_39 (by decide) rfl rfl (y_20 hG hX hi hR k)
    | 21, _ => exact q_tswIn (tgt := 1237) dL_law_39 (by decide) rfl rfl (y_21 hG hX hi hR k)
    | 22, _ => exact q_tswIn (tgt := 1304) dL_law_39 (by decide) rfl rfl (y_22 hG hX hi hR k)
    | 23, _ => exact q_tswIn (tgt := 1348) dL_law_39 (by decide) rfl rfl (y_23 hG hX hi hR k)
    | 24, _ => exact q_tswIn (tgt := 1392) dL_law_39 (by decide) rfl rfl (y_24 hG hX hi hR k)
    | 25, _ => exact q_tswIn (tgt := 1455) dL_law_39 (by decide) rfl rfl (y_25 hG hX hi hR k)
    | 26, _ => exact q_tswIn (tgt := 1468) dL_law_39 (by decide) rfl rfl (y_26 hG hX hi hR k)
    | 27, _ => exact q_tswIn (tgt := 1481) dL_law_39 (by decide) rfl rfl (y_27 hG hX hi hR k)
    | 28, _ => exact q_tswIn (tgt := 1494) dL_law_39 (by decide) rfl rfl (y_28 hG hX hi hR k)
    | 29, _ => exact q_tswIn (tgt := 1562) dL_law_39 (by decide) rfl rfl (y_29 hG hX hi hR k)
    | 30, _ => exact q_tswIn (tgt := 1630) dL_law_39 (by decide) rfl rfl (y_30 hG hX hi hR k)
    | 31, _ => exact q_tswIn (tgt := 1698) dL_law_39 (by decide) rfl rfl (y_31 hG hX hi hR k)
    | 32, _ => exact q_tswIn (tgt := 1798) dL_law_39 (by decide) rfl rfl (y_32 hG hX hi hR k)
    | 33, _ => exact q_tswIn (tgt := 1854) dL_law_39 (by decide) rfl rfl (y_33 hG hX hi hR k)
    | c + 34, z => exact absurd z (by omega)
  · exact q_tswOut (tgt := 1910) dL_law_39 (Or.inr (by rw [nI_toInt (by omega)]; omega)) rfl (wp_b (b2 := bb) (by omega) (k S hR))
set_option maxRecDepth 100000 in
set_option maxHeartbeats 4000000 in
/-- the law's loop -/
theorem law_wp {g : G0} (hG : Gd g) {h : G1} {Q : State → Prop} {xs : Nat → Int32} {n : Nat} (hX : Scr g h xs n) (hend : ∀ (S : SS) (L : List (Option Value)) (b : Nat), wp g h mL_law (mixW g S) L [.int 1] b Q 1917) : ∀ (m i : Nat) (S : SS), RLaw S → i ≤ n → n < i + 5 * m + 5 → wp g h mL_law (mixW g S) [some (.ref 41), some (.ref 0), some (.ref 26), some (.ref 40), some (.int (nI i)), none, none, none] [] (8 * m) Q 23 := by
  have hn := hX.2.2.2
  intro m
  induction m with
  | zero =>
    intro i S hR hin hm
    refine q_iload dL_law_23 rfl ?_
    refine q_aload_n dL_law_25 rfl ?_
    refine q_slen hX dL_law_26 ?_
    refine q_iconst (v := 5) dL_law_27 rfl ?_
    refine q_isub dL_law_28 ?_
    refine q_icmp_gt 1916 dL_law_29 rfl (fun c => ?_) (fun c => absurd ((n5 hn (by omega)).mpr (by omega)) c)
    refine q_iconst (v := 1) dL_law_1916 rfl ?_
    exact hend _ _ _
  | succ m ih =>
    intro i S hR hin hm
    refine q_iload dL_law_23 rfl ?_
    refine q_aload_n dL_law_25 rfl ?_
    refine q_slen hX dL_law_26 ?_
    refine q_iconst (v := 5) dL_law_27 rfl ?_
    refine q_isub dL_law_28 ?_
    refine q_icmp_gt 1916 dL_law_29 rfl (fun c => ?_) (fun c => ?_)
    · refine q_iconst (v := 1) dL_law_1916 rfl ?_
      exact hend _ _ _
    · have hi : i + 5 ≤ n := by
        have := mt (n5 hn (by omega)).mpr c
        omega
      refine q_aload_n dL_law_32 rfl ?_
      refine q_iload dL_law_33 rfl ?_
      refine q_sld hX dL_law_35 i rfl (by omega) ?_
      refine q_bipush (v := 63) dL_law_36 rfl ?_
      refine q_iand dL_law_38 ?_
      obtain ⟨c2, hc2, e2⟩ := and63 (xs i)
      refine wp_top (y := nI c2) e2 ?_
      refine wp_b (b2 := 8 * m + 8) (by omega) ?_
      refine law_sw hG hX hi hR (fun S2 hR2 => ?_) c2 hc2
      refine q_iinc4 (k9 := 5) dL_law_1910 rfl (Nat.le_of_ble_eq_true rfl) rfl ?_
      refine wp_L (L2 := [some (.ref 41), some (.ref 0), some (.ref 26), some (.ref 40), some (.int (nI (i + 5))), none, none, none]) (by rw [show nI i + 5 = nI (i + 5) from nI_add i 5]) ?_
      refine q_goto 23 dL_law_1913 rfl ?_
      exact ih (i + 5) S2 hR2 hi (by omega)
