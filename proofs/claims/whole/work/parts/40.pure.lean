/-- the core of a state: all but the class's scratch rows -/
def co (S : SS) := (z_TL S, z_TX S, z_SV S, z_HN S, z_HK S, z_HR S, z_SL S, z_SF S, z_QN S, z_QS S, z_QK S, z_QV S, z_RF S, z_AC S, z_NX S, z_SS S, z_SP S, z_ME S, z_UP S, z_LO S, z_NW S, z_TR S, z_AF S, z_DI S, z_KE S, z_IK S, z_SC S, z_RD S, z_MW S, z_MS S, z_MX S, z_RT S, z_MO S, z_OU S)
theorem rnd_eq (x : Int64) : ∃ r : Nat, r < 2147483648 ∧ r = x.toBitVec.toNat / 8589934592 ∧ (x.toUInt64 >>> ((33 : Int32).toInt64.toUInt64 &&& Int64.toUInt64 63)).toInt64.toInt32 = nI r := by
  obtain ⟨n, hn, rfl⟩ := wb_of x
  refine ⟨n / 2 ^ 33, ?_, ?_, ?_⟩
  · have : n < 2 ^ 64 := hn
    omega
  · rw [wb_tn hn]
  · rw [show (33 : Int32) = nI 33 from rfl, wb_shr hn (by omega), lN_i]
def rN (x : Int64) : Nat := x.toBitVec.toNat / 8589934592
theorem rN_lt (x : Int64) : rN x < 2147483648 := by
  obtain ⟨r, h1, h2, -⟩ := rnd_eq x
  unfold rN
  omega
theorem rN_eq (x : Int64) : (x.toUInt64 >>> ((33 : Int32).toInt64.toUInt64 &&& Int64.toUInt64 63)).toInt64.toInt32 = nI (rN x) := by
  obtain ⟨r, h1, h2, h3⟩ := rnd_eq x
  rw [h3, h2]
  rfl
theorem tgts_congr {f f2 : Nat → Int32} {n ft : Nat} {tg : Nat → Nat} (h : tgts f n ft tg) (e0 : f2 0 = f 0) (e1 : f2 1 = f 1) (ed : ∀ k, k < 12 → f2 (16 + k) = f (16 + k)) : tgts f2 n ft tg := by
  obtain ⟨t1, t2, t3, t4, t5⟩ := h
  refine ⟨e0.trans t1, t2, by rw [e0, e1]; exact t3, t4, fun k hk => ?_⟩
  rw [e0, ed k (by omega)]
  exact t5 k hk
theorem cpy_at {f g : Nat → Int32} {j : Nat} (h : j < 44) : va_cpy f g 0 0 44 j = f j := by
  rw [pk_cpy_in (by omega) (by omega), Nat.sub_zero, Nat.zero_add]
theorem tgts_cpy {f g : Nat → Int32} {n ft : Nat} {tg : Nat → Nat} (h : tgts f n ft tg) : tgts (va_cpy f g 0 0 44) n ft tg := tgts_congr h (cpy_at (by omega)) (cpy_at (by omega)) (fun k hk => cpy_at (by omega))
theorem tgts_upd {f : Nat → Int32} {n ft j : Nat} {x : Int32} {tg : Nat → Nat} (h : tgts f n ft tg) (h1 : 2 ≤ j) (h2 : j < 16) : tgts (upd f j x) n ft tg := tgts_congr h (pk_un (by omega)) (pk_un (by omega)) (fun k hk => pk_un (by omega))
/-! the determinant doesn't depend on what the rows held before -/
theorem exG_congr {e e2 m m2 : Nat → Int64} {r c : Nat} (hr : r < 6) (hc : c < 64) (he : ∀ j, j < 36 → e j = e2 j) (hm : ∀ j, j < c → m j = m2 j) : ∀ k, k ≤ 6 → exG e m r c k = exG e2 m2 r c k
  | 0, _ => rfl
  | k + 1, hk => by
    simp only [exG]
    rw [exG_congr hr hc he hm k (by omega)]
    by_cases hb : c.testBit (5 - k) = true
    · rw [if_pos hb, if_pos hb]
      have hge := bit_ge c hc (5 - k) (by omega) hb
      have hpos : 0 < 2 ^ (5 - k) := Nat.two_pow_pos _
      rw [he _ (by omega), hm (c - 2 ^ (5 - k)) (by omega)]
    · rw [if_neg hb, if_neg hb]
theorem mnF_congr {e e2 m m2 : Nat → Int64} (he : ∀ j, j < 36 → e j = e2 j) : ∀ k, k < 64 → ∀ j, j ≤ k → mnF e m k j = mnF e2 m2 k j
  | 0, _, j, hj => by
    obtain rfl : j = 0 := by omega
    simp only [mnF, vp_updL, if_true]
  | k + 1, hk, j, hj => by
    simp only [mnF]
    have hp := popc_1 (k + 1) hk (by omega)
    rw [exG_congr (e := e) (e2 := e2) (m := mnF e m k) (m2 := mnF e2 m2 k) (by omega) hk he (fun i hi => mnF_congr he k (by omega) i (by omega)) 6 (by omega)]
    simp only [vp_updL]
    by_cases h : j = k + 1
    · rw [if_pos h, if_pos h]
    · rw [if_neg h, if_neg h]
      exact mnF_congr he k (by omega) j (by omega)
theorem pow_b {n : Nat} (h : n ≤ 6) : 1 ≤ 2 ^ n ∧ 2 ^ n ≤ 64 := ⟨Nat.one_le_two_pow, (show 2 ^ n ≤ 2 ^ 6 from Nat.pow_le_pow_right (by omega) h)⟩
theorem detF_congr {e e2 m m2 : Nat → Int64} {n : Nat} (hn : n ≤ 6) (he : ∀ j, j < 36 → e j = e2 j) : detF e m n = detF e2 m2 n := by
  have := pow_b hn
  exact mnF_congr he _ (by omega) _ (by omega)
theorem eqS_congr {e e2 : Nat → Int64} {n c t : Nat} {x : Int64} (ht : t < n → 6 * c + t < 36) (he : ∀ j, j < 36 → e j = e2 j) : ∀ j, j < 36 → eqS n e c t x j = eqS n e2 c t x j := by
  intro j hj
  simp only [eqS]
  by_cases h : t < n
  · rw [if_pos h, if_pos h]
    simp only [vp_updL]
    rw [he _ (ht h), he j hj]
  · rw [if_neg h, if_neg h]
    exact he j hj
theorem eqF_congr {f f2 : Nat → Int32} {d n : Nat} {tg : Nat → Nat} {e e2 : Nat → Int64} (hn : n ≤ 6) (hd : d < 2) (hf : ∀ j, j < 16 → f j = f2 j) : ∀ i, i ≤ n → ∀ j, j < 36 → eqF f d n tg e i j = eqF f2 d n tg e2 i j
  | 0, _, j, hj => by simp only [eqF, filF]; rw [if_pos hj, if_pos hj]
  | i + 1, hi, j, hj => by
    simp only [eqF]
    rw [hf (4 + 2 * i + d) (by omega)]
    refine eqS_congr (fun h => by omega) (eqS_congr (fun h => by omega) (fun a ha => ?_)) j hj
    simp only [vp_updL]
    rw [eqF_congr hn hd hf i (by omega) a ha]
theorem fcF_congr {f f2 : Nat → Int32} {d col go n : Nat} {tg : Nat → Nat} {e e2 : Nat → Int64} (hn : n ≤ 6) (hd : d < 2) (hf : ∀ j, j < 16 → f j = f2 j) (he : ∀ j, j < 36 → e j = e2 j) : ∀ i, i ≤ n → ∀ j, j < 36 → fcF f d col go tg e i j = fcF f2 d col go tg e2 i j
  | 0, _, j, hj => he j hj
  | i + 1, hi, j, hj => by
    simp only [fcF, vp_updL, rgF]
    rw [hf (4 + 2 * i + d) (by omega), fcF_congr hn hd hf he i (by omega) j hj]
/-- the determinant and the numerator, by the row alone -/
def DD (f : Nat → Int32) (d N : Nat) (tg : Nat → Nat) : Int64 := detF (eqF f d N tg (fun _ => 0) N) (fun _ => 0) N
def NN (f : Nat → Int32) (d go ft N : Nat) (tg : Nat → Nat) : Int64 := if ft < N then detF (fcF f d ft go tg (eqF f d N tg (fun _ => 0) N) N) (fun _ => 0) N else if ft = go then DD f d N tg else 0
theorem svD_eq {f f2 : Nat → Int32} {d N : Nat} {tg : Nat → Nat} {e m : Nat → Int64} (hN : N ≤ 6) (hd : d < 2) (hf : ∀ j, j < 16 → f j = f2 j) : svD f d N tg e m = DD f2 d N tg := detF_congr hN (eqF_congr hN hd hf N (Nat.le_refl N))
theorem svN_eq {f f2 : Nat → Int32} {d go ft N : Nat} {tg : Nat → Nat} {e m : Nat → Int64} (hN : N ≤ 6) (hd : d < 2) (hf : ∀ j, j < 16 → f j = f2 j) : svN f d go ft N tg e m = NN f2 d go ft N tg := by
  unfold svN NN
  rw [svD_eq hN hd hf, detF_congr hN (fcF_congr hN hd hf (eqF_congr hN hd hf N (Nat.le_refl N)) N (Nat.le_refl N))]
