def agr (f f2 : Nat → Int32) : Prop := ∀ j, j < 44 → f j = f2 j
theorem shM_c {f f2 : Nat → Int32} (h : agr f f2) {c s d : Nat} (hc : c < 6) (hd : d < 2) : shM f c s d = shM f2 c s d := by unfold shM; rw [h _ (by omega)]
theorem goM_c {f f2 : Nat → Int32} (h : agr f f2) {k : Nat} (hk : k < 12) : goM f k = goM f2 k := by unfold goM; rw [h 0 (by omega), h _ (by omega)]
theorem prM_c {f f2 : Nat → Int32} (h : agr f f2) {c : Nat} {q : Int32} {d : Nat} (hc : c < 6) (hd : d < 2) : prM f c q d = prM f2 c q d := by unfold prM; rw [goM_c h (by omega), goM_c h (by omega), shM_c h hc hd, shM_c h hc hd]
theorem stB_c {f f2 : Nat → Int32} (h : agr f f2) {d c s : Nat} {m : Int32} (hc : c < 6) (hd : d < 2) (hs : s < 2) : stB f d c s m = stB f2 d c s m := by unfold stB; rw [goM_c h (by omega), shM_c h hc hd]
theorem stS_c {f f2 : Nat → Int32} (h : agr f f2) {d c : Nat} {m : Int32} (hc : c < 6) (hd : d < 2) : ∀ s, s ≤ 2 → stS f d c m s = stS f2 d c m s
  | 0, _ => rfl
  | s + 1, hs => by rw [stS, stS, stS_c h hc hd s (by omega), stB_c h hc hd (by omega)]
theorem stC_c {f f2 : Nat → Int32} (h : agr f f2) {d : Nat} {m : Int32} (hd : d < 2) : ∀ c, c ≤ 6 → stC f d m c = stC f2 d m c
  | 0, _ => rfl
  | c + 1, hc => by rw [stC, stC, stC_c h hd c (by omega), stS_c h (by omega) hd 2 (by omega)]
theorem stR_c {f f2 : Nat → Int32} (h : agr f f2) {d N : Nat} (hd : d < 2) (hN : N ≤ 6) : ∀ r, stR f d N r = stR f2 d N r
  | 0 => rfl
  | r + 1 => by rw [stR, stR, stR_c h hd hN r, stC_c h hd N hN]
theorem SM_c {f f2 : Nat → Int32} (h : agr f f2) {N d : Nat} (hN : N ≤ 6) (hd : d < 2) : SM f N d = SM f2 N d := by unfold SM; rw [stR_c h hd hN]
theorem dtC_c {f f2 : Nat → Int32} (h : agr f f2) {d N : Nat} {col : Int32} (hd : d < 2) (hN : N ≤ 6) : dtC f d N col = dtC f2 d N col := by
  unfold dtC
  refine dm_congr hN (fun a ha b hb => ?_) (fun a ha => ?_)
  · rw [mxI_at f d N _ hN N a b (by omega), mxI_at f2 d N _ hN N a b (by omega), if_pos ⟨ha, hb⟩, if_pos ⟨ha, hb⟩]
    unfold lmE
    rw [prM_c h (by omega) hd]
  · rw [rtI_at, rtI_at, if_pos ha, if_pos ha]
    unfold rtE
    rw [h 25 (by omega), h (26 + d) (by omega)]
theorem upS_c {f f2 : Nat → Int32} (h : agr f f2) {d N q : Nat} (hd : d < 2) (hN : N ≤ 6) : ∀ i, i ≤ 6 → upS f d N q i = upS f2 d N q i
  | 0, _ => by rw [upS, upS, dtC_c h hd hN, h 0 (by omega), h 25 (by omega), h (26 + d) (by omega)]
  | i + 1, hi => by rw [upS, upS, upS_c h hd hN i (by omega), dtC_c h hd hN, prM_c h (by omega) hd]
theorem fuM_c {f f2 : Nat → Int32} (h : agr f f2) {d N q : Nat} (hd : d < 2) (hN : N ≤ 6) : fuM f d N q = fuM f2 d N q := by unfold fuM; rw [dtC_c h hd hN, upS_c h hd hN N hN]
theorem flM_c {f f2 : Nat → Int32} (h : agr f f2) {d N q : Nat} (hd : d < 2) (hN : N ≤ 6) : flM f d N q = flM f2 d N q := by unfold flM; rw [dtC_c h hd hN]
theorem fgM_c {f f2 : Nat → Int32} (h : agr f f2) {d N q : Nat} (hd : d < 2) (hN : N ≤ 6) : fgM f d N q = fgM f2 d N q := by unfold fgM; rw [fuM_c h hd hN, flM_c h hd hN]
theorem uqM_c {f f2 : Nat → Int32} (h : agr f f2) {d N q : Nat} (hd : d < 2) (hN : N ≤ 6) : uqM f d N q = uqM f2 d N q := by unfold uqM; rw [fuM_c h hd hN, fgM_c h hd hN]
theorem lqM_c {f f2 : Nat → Int32} (h : agr f f2) {d N q : Nat} (hd : d < 2) (hN : N ≤ 6) : lqM f d N q = lqM f2 d N q := by unfold lqM; rw [flM_c h hd hN, fgM_c h hd hN]
theorem fOk_c {f f2 : Nat → Int32} (h : agr f f2) {d N q : Nat} (hd : d < 2) (hN : N ≤ 6) : fOk f d N q = fOk f2 d N q := by unfold fOk; rw [fuM_c h hd hN, flM_c h hd hN, fgM_c h hd hN]
theorem recM_c {f f2 : Nat → Int32} (h : agr f f2) {N : Nat} (hN : N ≤ 6) : recM f N = recM f2 N := by unfold recM; rw [uqM_c h (by omega) hN, lqM_c h (by omega) hN, h 26 (by omega)]
theorem rOk_c {f f2 : Nat → Int32} (h : agr f f2) {N : Nat} (hN : N ≤ 6) : rOk f N = rOk f2 N := by unfold rOk; rw [fOk_c h (by omega) hN, lqM_c h (by omega) hN, h 26 (by omega)]
theorem gAM_c {f f2 : Nat → Int32} (h : agr f f2) {d N : Nat} (hd : d < 2) (hN : N ≤ 6) : gAM f d N = gAM f2 d N := by unfold gAM; rw [uqM_c h hd hN, lqM_c h hd hN]
theorem graM_c {f f2 : Nat → Int32} (h : agr f f2) {N : Nat} (hN : N ≤ 6) : graM f N = graM f2 N := by unfold graM; rw [gAM_c h (by omega) hN, gAM_c h (by omega) hN]
theorem gOk_c {f f2 : Nat → Int32} (h : agr f f2) {N : Nat} (hN : N ≤ 6) : gOk f N = gOk f2 N := by unfold gOk; rw [fOk_c h (by omega) hN, fOk_c h (by omega) hN, lqM_c h (by omega) hN, lqM_c h (by omega) hN]
def upI (x : Int32) : Int32 := if x + 5 ≤ 100 then x + 5 else 100
def impM (f : Nat → Int32) (c : Nat) : Nat → Int32 := upd (upd f (1 + 2 * c) (upI (f (1 + 2 * c)))) (1 + 2 * c + 1) (f (1 + 2 * c + 1))
def shuM (f : Nat → Int32) (c : Nat) : Nat → Int32 := upd (upd f (1 + 2 * c) 0) (1 + 2 * c + 1) 0
theorem agr_uu {f t : Nat → Int32} {a b : Nat} {x y : Int32} : agr (upd (upd (va_cpy f t 0 0 44) a x) b y) (upd (upd f a x) b y) := by
  intro j hj
  simp only [upd]
  rw [cpy_at hj]
theorem agr_u {f t : Nat → Int32} {a : Nat} {x : Int32} (h : agr t f) : agr (upd t a x) (upd f a x) := by
  intro j hj
  simp only [upd]
  rw [h j hj]
noncomputable def stM (f : Nat → Int32) (N : Nat) : Int32 := pI (SM f N 0 ∧ SM f N 1)
noncomputable def valM (f : Nat → Int32) (N : Nat) : Int32 := if stM f N = 0 then -9 else recM f N
theorem stM_c {f f2 : Nat → Int32} (h : agr f f2) {N : Nat} (hN : N ≤ 6) : stM f N = stM f2 N := by unfold stM; rw [SM_c h hN (by omega), SM_c h hN (by omega)]
theorem valM_c {f f2 : Nat → Int32} (h : agr f f2) {N : Nat} (hN : N ≤ 6) : valM f N = valM f2 N := by unfold valM; rw [stM_c h hN, recM_c h hN]
def svOk (f : Nat → Int32) (N : Nat) : Prop := ¬ stM f N = 0 → rOk f N
theorem svOk_c {f f2 : Nat → Int32} (h : agr f f2) {N : Nat} (hN : N ≤ 6) : svOk f N = svOk f2 N := by unfold svOk; rw [stM_c h hN, rOk_c h hN]
noncomputable def bsM (tri : Nat → Nat → Int32) (N : Nat) : Nat → Int32 × Int32
  | 0 => (-9, -9)
  | i + 1 => if valM (tri i) N ≤ (bsM tri N i).2 then bsM tri N i else (nI i, valM (tri i) N)
theorem impM_0 {f : Nat → Int32} {c : Nat} : impM f c 0 = f 0 := by simp only [impM, upd]; rw [if_neg (by omega), if_neg (by omega)]
theorem shuM_0 {f : Nat → Int32} {c : Nat} : shuM f c 0 = f 0 := by simp only [shuM, upd]; rw [if_neg (by omega), if_neg (by omega)]
set_option maxRecDepth 100000 in
set_option maxHeartbeats 4000000 in
theorem l_X10_best_0 {g : G0} {h : G1} (hG : Gd g) (S : SS) {post : Option Value → (Nat → va_E) → Prop} {xp : String → (Nat → va_E) → Prop} (N : Nat) (hN : z_NW S 0 = nI N) (hN6 : N ≤ 6) (hok : ∀ i, i < N → svOk (impM (z_NW S) i) N) (kk : ∀ (tr : Nat → Int32) (mx rt mo : Nat → Int64) (u l : Int64), wp g h mX10_best (mixW g (s_UP (s_LO (s_TR (s_MX (s_RT (s_MO S mo) rt) mx) tr) l) u)) [some (.ref 26), some (.int (0)), some (.int ((bsM (impM (z_NW S)) N N).1)), none, none, none, none] [] 0 (QQ g h mX10_best post xp) 170) : ∀ (n i : Nat) (tr : Nat → Int32) (mx rt mo : Nat → Int64) (u l : Int64), i + n = N → wp g h mX10_best (mixW g (s_UP (s_LO (s_TR (s_MX (s_RT (s_MO S mo) rt) mx) tr) l) u)) [some (.ref 26), some (.int (0)), some (.int ((bsM (impM (z_NW S)) N i).1)), some (.int ((bsM (impM (z_NW S)) N i).2)), some (.int (nI i)), none, none] [] 0 (QQ g h mX10_best post xp) 9 := by
  intro n
  induction n with
  | zero =>
    intro i tr mx rt mo u l hq1
    obtain rfl : N = i := by omega
    refine q_iload dX10_best_9 rfl ?_
    refine q_aload_n dX10_best_11 rfl ?_
    refine q_get (j := 1) (v := .ref 27) dX10_best_12 (Nat.le_of_ble_eq_true rfl) rfl rfl iuX10 (Nat.le_of_ble_eq_true rfl) uw_925 rfl rfl ?_
    refine q_iconst (v := 0) dX10_best_15 rfl ?_
    refine q_iald (f := (z_NW S)) dX10_best_16 (Nat.le_of_ble_eq_true rfl) rfl (0) rfl (Nat.le_of_ble_eq_true rfl) (Nat.le_of_ble_eq_true rfl) ?_
    refine wp_top (y := nI N) hN ?_
    refine q_icmp_ge 170 dX10_best_17 rfl (fun c17 => ?_) (fun c17 => ?_)
    · have n17 := (nI_leI (a := N) (b := N) (by omega) (by omega)).mp c17
      refine wp_fg (L2 := [some (.ref 26), some (.int (0)), some (.int ((bsM (impM (z_NW S)) N N).1)), none, none, none, none]) ⟨rfl, rfl, rfl, trivial⟩ ?_
      exact kk _ _ _ _ _ _
    · have n17 := mt (nI_leI (a := N) (b := N) (by omega) (by omega)).mpr c17
      omega
  | succ n ih =>
    intro i tr mx rt mo u l hq1
    refine q_iload dX10_best_9 rfl ?_
    refine q_aload_n dX10_best_11 rfl ?_
    refine q_get (j := 1) (v := .ref 27) dX10_best_12 (Nat.le_of_ble_eq_true rfl) rfl rfl iuX10 (Nat.le_of_ble_eq_true rfl) uw_925 rfl rfl ?_
    refine q_iconst (v := 0) dX10_best_15 rfl ?_
    refine q_iald (f := (z_NW S)) dX10_best_16 (Nat.le_of_ble_eq_true rfl) rfl (0) rfl (Nat.le_of_ble_eq_true rfl) (Nat.le_of_ble_eq_true rfl) ?_
    refine wp_top (y := nI N) hN ?_
    refine q_icmp_ge 170 dX10_best_17 rfl (fun c17 => ?_) (fun c17 => ?_)
    · have n17 := (nI_leI (a := N) (b := i) (by omega) (by omega)).mp c17
      omega
    · have n17 := mt (nI_leI (a := N) (b := i) (by omega) (by omega)).mpr c17
      refine q_aload_n dX10_best_20 rfl ?_
      refine q_get (j := 1) (v := .ref 27) dX10_best_21 (Nat.le_of_ble_eq_true rfl) rfl rfl iuX10 (Nat.le_of_ble_eq_true rfl) uw_925 rfl rfl ?_
      refine q_aload_n dX10_best_24 rfl ?_
      refine q_get (j := 2) (v := .ref 28) dX10_best_25 (Nat.le_of_ble_eq_true rfl) rfl rfl iuX10 (Nat.le_of_ble_eq_true rfl) uw_926 rfl rfl ?_
      refine q_callSu (ν := mX10_copy) dX10_best_28 uw_1042 vX10_copy (c_X10_copy_27_28 hG (s_UP (s_LO (s_TR (s_MX (s_RT (s_MO S mo) rt) mx) tr) l) u) ) rfl rfl (Nat.le_of_ble_eq_true rfl) (Nat.le_of_ble_eq_true rfl) (Nat.le_of_ble_eq_true rfl) 0 (Nat.le_of_ble_eq_true rfl) ?_
      rw [sc_TR_UP, sc_TR_LO, ss_TR]
      refine wp_w (w2 := mixW g (s_UP (s_LO (s_TR (s_MX (s_RT (s_MO S mo) rt) mx) (va_cpy (z_NW S) tr 0 0 44)) l) u)) rfl ?_
      refine q_aload_n dX10_best_31 rfl ?_
      refine q_get (j := 1) (v := .ref 27) dX10_best_32 (Nat.le_of_ble_eq_true rfl) rfl rfl iuX10 (Nat.le_of_ble_eq_true rfl) uw_925 rfl rfl ?_
      refine q_iconst (v := 1) dX10_best_35 rfl ?_
      refine q_iconst (v := 2) dX10_best_36 rfl ?_
      refine q_iload dX10_best_37 rfl ?_
      refine q_imul dX10_best_39 ?_
      refine q_iadd dX10_best_40 ?_
      refine q_iald (f := (z_NW S)) dX10_best_41 (Nat.le_of_ble_eq_true rfl) rfl ((1 + (2 * i))) (by simp only [fa_lit, pk_mul, nI_add]) (by omega) (Nat.le_of_ble_eq_true rfl) ?_
      refine q_iconst (v := 5) dX10_best_42 rfl ?_
      refine q_iadd dX10_best_43 ?_
      refine q_ist5 dX10_best_44 (Nat.le_of_ble_eq_true rfl) rfl ?_
      refine q_aload_n dX10_best_46 rfl ?_
      refine q_get (j := 2) (v := .ref 28) dX10_best_47 (Nat.le_of_ble_eq_true rfl) rfl rfl iuX10 (Nat.le_of_ble_eq_true rfl) uw_926 rfl rfl ?_
      refine q_iconst (v := 1) dX10_best_50 rfl ?_
      refine q_iconst (v := 2) dX10_best_51 rfl ?_
      refine q_iload dX10_best_52 rfl ?_
      refine q_imul dX10_best_54 ?_
      refine q_iadd dX10_best_55 ?_
      refine q_iload_n dX10_best_56 rfl ?_
      refine q_if_eq 64 dX10_best_57 rfl (fun c57 => ?_) (fun c57 => ?_)
      · refine q_iload dX10_best_64 rfl ?_
        refine q_bipush (v := 100) dX10_best_66 rfl ?_
        refine q_icmp_le 76 dX10_best_68 rfl (fun c68 => ?_) (fun c68 => ?_)
        · refine q_iload dX10_best_76 rfl ?_
          refine wp_top (y := upI (z_NW S (1 + 2 * i))) (by rw [upI, if_pos c68]) ?_
          refine q_iast (f := (va_cpy (z_NW S) tr 0 0 44)) dX10_best_78 (Nat.le_of_ble_eq_true rfl) rfl ((1 + (2 * i))) (by simp only [fa_lit, pk_mul, nI_add]) (by omega) (Nat.le_of_ble_eq_true rfl) ?_
          refine wp_w (u_TR g _ _) ?_
          rw [sc_TR_UP, sc_TR_LO, ss_TR]
          refine q_aload_n dX10_best_79 rfl ?_
          refine q_get (j := 2) (v := .ref 28) dX10_best_80 (Nat.le_of_ble_eq_true rfl) rfl rfl iuX10 (Nat.le_of_ble_eq_true rfl) uw_926 rfl rfl ?_
          refine q_iconst (v := 1) dX10_best_83 rfl ?_
          refine q_iconst (v := 2) dX10_best_84 rfl ?_
          refine q_iload dX10_best_85 rfl ?_
          refine q_imul dX10_best_87 ?_
          refine q_iadd dX10_best_88 ?_
          refine q_iconst (v := 1) dX10_best_89 rfl ?_
          refine q_iadd dX10_best_90 ?_
          refine q_iload_n dX10_best_91 rfl ?_
          refine q_if_eq 99 dX10_best_92 rfl (fun c92 => ?_) (fun c92 => ?_)
          · refine q_aload_n dX10_best_99 rfl ?_
            refine q_get (j := 1) (v := .ref 27) dX10_best_100 (Nat.le_of_ble_eq_true rfl) rfl rfl iuX10 (Nat.le_of_ble_eq_true rfl) uw_925 rfl rfl ?_
            refine q_iconst (v := 1) dX10_best_103 rfl ?_
            refine q_iconst (v := 2) dX10_best_104 rfl ?_
            refine q_iload dX10_best_105 rfl ?_
            refine q_imul dX10_best_107 ?_
            refine q_iadd dX10_best_108 ?_
            refine q_iconst (v := 1) dX10_best_109 rfl ?_
            refine q_iadd dX10_best_110 ?_
            refine q_iald (f := (z_NW S)) dX10_best_111 (Nat.le_of_ble_eq_true rfl) rfl (((1 + (2 * i)) + 1)) (by simp only [fa_lit, pk_mul, nI_add]) (by omega) (Nat.le_of_ble_eq_true rfl) ?_
            refine q_iast (f := (upd (va_cpy (z_NW S) tr 0 0 44) ((1 + (2 * i))) (upI (z_NW S (1 + 2 * i))))) dX10_best_112 (Nat.le_of_ble_eq_true rfl) rfl (((1 + (2 * i)) + 1)) (by simp only [fa_lit, pk_mul, nI_add]) (by omega) (Nat.le_of_ble_eq_true rfl) ?_
            refine wp_w (u_TR g _ _) ?_
            rw [sc_TR_UP, sc_TR_LO, ss_TR]
            obtain ⟨t2, ht2⟩ : ∃ t2, t2 = (upd (upd (va_cpy (z_NW S) tr 0 0 44) ((1 + (2 * i))) (upI (z_NW S (1 + 2 * i)))) (((1 + (2 * i)) + 1)) (((z_NW S) (((1 + (2 * i)) + 1))))) := ⟨_, rfl⟩
            refine wp_w (w2 := mixW g (s_UP (s_LO (s_TR (s_MX (s_RT (s_MO S mo) rt) mx) t2) l) u)) (by rw [ht2]) ?_
            have hag : agr t2 (impM (z_NW S) i) := by rw [ht2]; exact agr_uu
            have ht0 : t2 0 = nI N := by rw [hag 0 (by omega), impM_0]; exact hN
            have hsv : svOk t2 N := by rw [svOk_c hag hN6]; exact hok i (by omega)
            refine q_aload_n dX10_best_113 rfl ?_
            refine q_get (j := 2) (v := .ref 28) dX10_best_114 (Nat.le_of_ble_eq_true rfl) rfl rfl iuX10 (Nat.le_of_ble_eq_true rfl) uw_926 rfl rfl ?_
            refine q_callSv (ν := mX10_isSteadyAll) dX10_best_117 uw_1132 vX10_isSteadyAll (c_X10_isSteadyAll_28 hG (s_UP (s_LO (s_TR (s_MX (s_RT (s_MO S mo) rt) mx) t2) l) u) (N) ht0 hN6) rfl rfl (Nat.le_of_ble_eq_true rfl) (Nat.le_of_ble_eq_true rfl) (Nat.le_of_ble_eq_true rfl) 0 (Nat.le_of_ble_eq_true rfl) ?_
            refine wp_eq (st2 := .int ((pI (SM t2 N 0 ∧ SM t2 N 1))) :: _) rfl ?_
            refine wp_top (y := stM t2 N) rfl ?_
            refine q_if_eq 134 dX10_best_120 rfl (fun c120 => ?_) (fun c120 => ?_)
            · refine q_bipush (v := (-9)) dX10_best_134 rfl ?_
              refine q_ist6 dX10_best_136 (Nat.le_of_ble_eq_true rfl) rfl ?_
              have hval : valM (impM (z_NW S) i) N = (-9) := by
                rw [← valM_c hag hN6]
                exact if_pos c120
              refine q_iload dX10_best_138 rfl ?_
              refine q_iload_n dX10_best_140 rfl ?_
              refine q_icmp_le 149 dX10_best_141 rfl (fun c141 => ?_) (fun c141 => ?_)
              · refine q_iload_n dX10_best_149 rfl ?_
                refine q_ist2 dX10_best_150 (Nat.le_of_ble_eq_true rfl) rfl ?_
                refine q_iload dX10_best_151 rfl ?_
                refine q_iload_n dX10_best_153 rfl ?_
                refine q_icmp_le 162 dX10_best_154 rfl (fun c154 => ?_) (fun c154 => ?_)
                · refine q_iload_n dX10_best_162 rfl ?_
                  refine q_ist3 dX10_best_163 (Nat.le_of_ble_eq_true rfl) rfl ?_
                  refine q_iinc4 (k9 := 1) dX10_best_164 rfl (Nat.le_of_ble_eq_true rfl) rfl ?_
                  refine wp_L (L2 := [some (.ref 26), some (.int (0)), some (.int ((bsM (impM (z_NW S)) N i).1)), some (.int ((bsM (impM (z_NW S)) N i).2)), some (.int (nI (i + 1))), some (.int ((((z_NW S) ((1 + (2 * i)))) + 5))), some (.int ((-9)))]) (by rw [show nI i + 1 = nI (i + 1) from nI_1 _]) ?_
                  refine q_goto 9 dX10_best_167 rfl ?_
                  have est : bsM (impM (z_NW S)) N (i + 1) = ((bsM (impM (z_NW S)) N i).1, (bsM (impM (z_NW S)) N i).2) := by
                    rw [bsM, hval]
                    rw [if_pos c141]
                  refine wp_fg (L2 := [some (.ref 26), some (.int (0)), some (.int ((bsM (impM (z_NW S)) N i).1)), some (.int ((bsM (impM (z_NW S)) N i).2)), some (.int (nI (i + 1))), none, none]) ⟨rfl, rfl, rfl, rfl, rfl, trivial⟩ ?_
                  refine wp_L (L2 := [some (.ref 26), some (.int (0)), some (.int ((bsM (impM (z_NW S)) N (i + 1)).1)), some (.int ((bsM (impM (z_NW S)) N (i + 1)).2)), some (.int (nI (i + 1))), none, none]) (by rw [est]) ?_
                  exact ih (i + 1) _ _ _ _ _ _ (by omega)
                · refine q_iload dX10_best_157 rfl ?_
                  refine q_goto 163 dX10_best_159 rfl ?_
                  refine q_ist3 dX10_best_163 (Nat.le_of_ble_eq_true rfl) rfl ?_
                  refine q_iinc4 (k9 := 1) dX10_best_164 rfl (Nat.le_of_ble_eq_true rfl) rfl ?_
                  refine wp_L (L2 := [some (.ref 26), some (.int (0)), some (.int ((bsM (impM (z_NW S)) N i).1)), some (.int ((-9))), some (.int (nI (i + 1))), some (.int ((((z_NW S) ((1 + (2 * i)))) + 5))), some (.int ((-9)))]) (by rw [show nI i + 1 = nI (i + 1) from nI_1 _]) ?_
                  refine q_goto 9 dX10_best_167 rfl ?_
                  first | exact absurd c141 c154 | exact absurd c154 c141
              · refine q_iload dX10_best_144 rfl ?_
                refine q_goto 150 dX10_best_146 rfl ?_
                refine q_ist2 dX10_best_150 (Nat.le_of_ble_eq_true rfl) rfl ?_
                refine q_iload dX10_best_151 rfl ?_
                refine q_iload_n dX10_best_153 rfl ?_
                refine q_icmp_le 162 dX10_best_154 rfl (fun c154 => ?_) (fun c154 => ?_)
                · refine q_iload_n dX10_best_162 rfl ?_
                  refine q_ist3 dX10_best_163 (Nat.le_of_ble_eq_true rfl) rfl ?_
                  refine q_iinc4 (k9 := 1) dX10_best_164 rfl (Nat.le_of_ble_eq_true rfl) rfl ?_
                  refine wp_L (L2 := [some (.ref 26), some (.int (0)), some (.int (nI i)), some (.int ((bsM (impM (z_NW S)) N i).2)), some (.int (nI (i + 1))), some (.int ((((z_NW S) ((1 + (2 * i)))) + 5))), some (.int ((-9)))]) (by rw [show nI i + 1 = nI (i + 1) from nI_1 _]) ?_
                  refine q_goto 9 dX10_best_167 rfl ?_
                  first | exact absurd c141 c154 | exact absurd c154 c141
                · refine q_iload dX10_best_157 rfl ?_
                  refine q_goto 163 dX10_best_159 rfl ?_
                  refine q_ist3 dX10_best_163 (Nat.le_of_ble_eq_true rfl) rfl ?_
                  refine q_iinc4 (k9 := 1) dX10_best_164 rfl (Nat.le_of_ble_eq_true rfl) rfl ?_
                  refine wp_L (L2 := [some (.ref 26), some (.int (0)), some (.int (nI i)), some (.int ((-9))), some (.int (nI (i + 1))), some (.int ((((z_NW S) ((1 + (2 * i)))) + 5))), some (.int ((-9)))]) (by rw [show nI i + 1 = nI (i + 1) from nI_1 _]) ?_
                  refine q_goto 9 dX10_best_167 rfl ?_
                  have est : bsM (impM (z_NW S)) N (i + 1) = (nI i, (-9)) := by
                    rw [bsM, hval]
                    rw [if_neg c141]
                  refine wp_fg (L2 := [some (.ref 26), some (.int (0)), some (.int (nI i)), some (.int ((-9))), some (.int (nI (i + 1))), none, none]) ⟨rfl, rfl, rfl, rfl, rfl, trivial⟩ ?_
                  refine wp_L (L2 := [some (.ref 26), some (.int (0)), some (.int ((bsM (impM (z_NW S)) N (i + 1)).1)), some (.int ((bsM (impM (z_NW S)) N (i + 1)).2)), some (.int (nI (i + 1))), none, none]) (by rw [est]) ?_
                  exact ih (i + 1) _ _ _ _ _ _ (by omega)
            · refine q_aload_n dX10_best_123 rfl ?_
              refine q_aload_n dX10_best_124 rfl ?_
              refine q_get (j := 2) (v := .ref 28) dX10_best_125 (Nat.le_of_ble_eq_true rfl) rfl rfl iuX10 (Nat.le_of_ble_eq_true rfl) uw_926 rfl rfl ?_
              refine q_callVg (ν := mX10_recoveryOf) dX10_best_128 uw_1175 vX10_recoveryOf (c_X10_recoveryOf_28 hG (s_UP (s_LO (s_TR (s_MX (s_RT (s_MO S mo) rt) mx) t2) l) u) (N) ht0 hN6 (hsv c120)) (Nat.le_of_ble_eq_true rfl) rfl rfl rfl rfl (Nat.le_of_ble_eq_true rfl) (Nat.le_of_ble_eq_true rfl) (Nat.le_of_ble_eq_true rfl) 0 (Nat.le_of_ble_eq_true rfl) rfl (fun _ _ z => z.elim) (fun v w1 hv => ?_)
              obtain ⟨rfl, mx2, rt2, mo2, u2, l2, rfl⟩ := hv
              · refine wp_eq (st2 := [.int ((recM t2 N))]) rfl ?_
                rw [sc_MO_UP, sc_MO_LO, sc_MO_TR, sc_MO_MX, sc_MO_RT, ss_MO, sc_RT_UP, sc_RT_LO, sc_RT_TR, sc_RT_MX, ss_RT, sc_MX_UP, sc_MX_LO, sc_MX_TR, ss_MX, sc_LO_UP, ss_LO, ss_UP]
                refine wp_w (w2 := mixW g (s_UP (s_LO (s_TR (s_MX (s_RT (s_MO S mo2) rt2) mx2) t2) l2) u2)) rfl ?_
                refine q_goto 136 dX10_best_131 rfl ?_
                refine q_ist6 dX10_best_136 (Nat.le_of_ble_eq_true rfl) rfl ?_
                have hval : valM (impM (z_NW S) i) N = (recM t2 N) := by
                  rw [← valM_c hag hN6]
                  exact if_neg c120
                refine q_iload dX10_best_138 rfl ?_
                refine q_iload_n dX10_best_140 rfl ?_
                refine q_icmp_le 149 dX10_best_141 rfl (fun c141 => ?_) (fun c141 => ?_)
                · refine q_iload_n dX10_best_149 rfl ?_
                  refine q_ist2 dX10_best_150 (Nat.le_of_ble_eq_true rfl) rfl ?_
                  refine q_iload dX10_best_151 rfl ?_
                  refine q_iload_n dX10_best_153 rfl ?_
                  refine q_icmp_le 162 dX10_best_154 rfl (fun c154 => ?_) (fun c154 => ?_)
                  · refine q_iload_n dX10_best_162 rfl ?_
                    refine q_ist3 dX10_best_163 (Nat.le_of_ble_eq_true rfl) rfl ?_
                    refine q_iinc4 (k9 := 1) dX10_best_164 rfl (Nat.le_of_ble_eq_true rfl) rfl ?_
                    refine wp_L (L2 := [some (.ref 26), some (.int (0)), some (.int ((bsM (impM (z_NW S)) N i).1)), some (.int ((bsM (impM (z_NW S)) N i).2)), some (.int (nI (i + 1))), some (.int ((((z_NW S) ((1 + (2 * i)))) + 5))), some (.int ((recM t2 N)))]) (by rw [show nI i + 1 = nI (i + 1) from nI_1 _]) ?_
                    refine q_goto 9 dX10_best_167 rfl ?_
                    have est : bsM (impM (z_NW S)) N (i + 1) = ((bsM (impM (z_NW S)) N i).1, (bsM (impM (z_NW S)) N i).2) := by
                      rw [bsM, hval]
                      rw [if_pos c141]
                    refine wp_fg (L2 := [some (.ref 26), some (.int (0)), some (.int ((bsM (impM (z_NW S)) N i).1)), some (.int ((bsM (impM (z_NW S)) N i).2)), some (.int (nI (i + 1))), none, none]) ⟨rfl, rfl, rfl, rfl, rfl, trivial⟩ ?_
                    refine wp_L (L2 := [some (.ref 26), some (.int (0)), some (.int ((bsM (impM (z_NW S)) N (i + 1)).1)), some (.int ((bsM (impM (z_NW S)) N (i + 1)).2)), some (.int (nI (i + 1))), none, none]) (by rw [est]) ?_
                    exact ih (i + 1) _ _ _ _ _ _ (by omega)
                  · refine q_iload dX10_best_157 rfl ?_
                    refine q_goto 163 dX10_best_159 rfl ?_
                    refine q_ist3 dX10_best_163 (Nat.le_of_ble_eq_true rfl) rfl ?_
                    refine q_iinc4 (k9 := 1) dX10_best_164 rfl (Nat.le_of_ble_eq_true rfl) rfl ?_
                    refine wp_L (L2 := [some (.ref 26), some (.int (0)), some (.int ((bsM (impM (z_NW S)) N i).1)), some (.int ((recM t2 N))), some (.int (nI (i + 1))), some (.int ((((z_NW S) ((1 + (2 * i)))) + 5))), some (.int ((recM t2 N)))]) (by rw [show nI i + 1 = nI (i + 1) from nI_1 _]) ?_
                    refine q_goto 9 dX10_best_167 rfl ?_
                    first | exact absurd c141 c154 | exact absurd c154 c141
                · refine q_iload dX10_best_144 rfl ?_
                  refine q_goto 150 dX10_best_146 rfl ?_
                  refine q_ist2 dX10_best_150 (Nat.le_of_ble_eq_true rfl) rfl ?_
                  refine q_iload dX10_best_151 rfl ?_
                  refine q_iload_n dX10_best_153 rfl ?_
                  refine q_icmp_le 162 dX10_best_154 rfl (fun c154 => ?_) (fun c154 => ?_)
                  · refine q_iload_n dX10_best_162 rfl ?_
                    refine q_ist3 dX10_best_163 (Nat.le_of_ble_eq_true rfl) rfl ?_
                    refine q_iinc4 (k9 := 1) dX10_best_164 rfl (Nat.le_of_ble_eq_true rfl) rfl ?_
                    refine wp_L (L2 := [some (.ref 26), some (.int (0)), some (.int (nI i)), some (.int ((bsM (impM (z_NW S)) N i).2)), some (.int (nI (i + 1))), some (.int ((((z_NW S) ((1 + (2 * i)))) + 5))), some (.int ((recM t2 N)))]) (by rw [show nI i + 1 = nI (i + 1) from nI_1 _]) ?_
                    refine q_goto 9 dX10_best_167 rfl ?_
                    first | exact absurd c141 c154 | exact absurd c154 c141
                  · refine q_iload dX10_best_157 rfl ?_
                    refine q_goto 163 dX10_best_159 rfl ?_
                    refine q_ist3 dX10_best_163 (Nat.le_of_ble_eq_true rfl) rfl ?_
                    refine q_iinc4 (k9 := 1) dX10_best_164 rfl (Nat.le_of_ble_eq_true rfl) rfl ?_
                    refine wp_L (L2 := [some (.ref 26), some (.int (0)), some (.int (nI i)), some (.int ((recM t2 N))), some (.int (nI (i + 1))), some (.int ((((z_NW S) ((1 + (2 * i)))) + 5))), some (.int ((recM t2 N)))]) (by rw [show nI i + 1 = nI (i + 1) from nI_1 _]) ?_
                    refine q_goto 9 dX10_best_167 rfl ?_
                    have est : bsM (impM (z_NW S)) N (i + 1) = (nI i, (recM t2 N)) := by
                      rw [bsM, hval]
                      rw [if_neg c141]
                    refine wp_fg (L2 := [some (.ref 26), some (.int (0)), some (.int (nI i)), some (.int ((recM t2 N))), some (.int (nI (i + 1))), none, none]) ⟨rfl, rfl, rfl, rfl, rfl, trivial⟩ ?_
                    refine wp_L (L2 := [some (.ref 26), some (.int (0)), some (.int ((bsM (impM (z_NW S)) N (i + 1)).1)), some (.int ((bsM (impM (z_NW S)) N (i + 1)).2)), some (.int (nI (i + 1))), none, none]) (by rw [est]) ?_
                    exact ih (i + 1) _ _ _ _ _ _ (by omega)
          · first | exact absurd (by decide) c92 | exact absurd c92 (by decide)
        · refine q_bipush (v := 100) dX10_best_71 rfl ?_
          refine q_goto 78 dX10_best_73 rfl ?_
          refine wp_top (y := upI (z_NW S (1 + 2 * i))) (by rw [upI, if_neg c68]) ?_
          refine q_iast (f := (va_cpy (z_NW S) tr 0 0 44)) dX10_best_78 (Nat.le_of_ble_eq_true rfl) rfl ((1 + (2 * i))) (by simp only [fa_lit, pk_mul, nI_add]) (by omega) (Nat.le_of_ble_eq_true rfl) ?_
          refine wp_w (u_TR g _ _) ?_
          rw [sc_TR_UP, sc_TR_LO, ss_TR]
          refine q_aload_n dX10_best_79 rfl ?_
          refine q_get (j := 2) (v := .ref 28) dX10_best_80 (Nat.le_of_ble_eq_true rfl) rfl rfl iuX10 (Nat.le_of_ble_eq_true rfl) uw_926 rfl rfl ?_
          refine q_iconst (v := 1) dX10_best_83 rfl ?_
          refine q_iconst (v := 2) dX10_best_84 rfl ?_
          refine q_iload dX10_best_85 rfl ?_
          refine q_imul dX10_best_87 ?_
          refine q_iadd dX10_best_88 ?_
          refine q_iconst (v := 1) dX10_best_89 rfl ?_
          refine q_iadd dX10_best_90 ?_
          refine q_iload_n dX10_best_91 rfl ?_
          refine q_if_eq 99 dX10_best_92 rfl (fun c92 => ?_) (fun c92 => ?_)
          · refine q_aload_n dX10_best_99 rfl ?_
            refine q_get (j := 1) (v := .ref 27) dX10_best_100 (Nat.le_of_ble_eq_true rfl) rfl rfl iuX10 (Nat.le_of_ble_eq_true rfl) uw_925 rfl rfl ?_
            refine q_iconst (v := 1) dX10_best_103 rfl ?_
            refine q_iconst (v := 2) dX10_best_104 rfl ?_
            refine q_iload dX10_best_105 rfl ?_
            refine q_imul dX10_best_107 ?_
            refine q_iadd dX10_best_108 ?_
            refine q_iconst (v := 1) dX10_best_109 rfl ?_
            refine q_iadd dX10_best_110 ?_
            refine q_iald (f := (z_NW S)) dX10_best_111 (Nat.le_of_ble_eq_true rfl) rfl (((1 + (2 * i)) + 1)) (by simp only [fa_lit, pk_mul, nI_add]) (by omega) (Nat.le_of_ble_eq_true rfl) ?_
            refine q_iast (f := (upd (va_cpy (z_NW S) tr 0 0 44) ((1 + (2 * i))) (upI (z_NW S (1 + 2 * i))))) dX10_best_112 (Nat.le_of_ble_eq_true rfl) rfl (((1 + (2 * i)) + 1)) (by simp only [fa_lit, pk_mul, nI_add]) (by omega) (Nat.le_of_ble_eq_true rfl) ?_
            refine wp_w (u_TR g _ _) ?_
            rw [sc_TR_UP, sc_TR_LO, ss_TR]
            obtain ⟨t2, ht2⟩ : ∃ t2, t2 = (upd (upd (va_cpy (z_NW S) tr 0 0 44) ((1 + (2 * i))) (upI (z_NW S (1 + 2 * i)))) (((1 + (2 * i)) + 1)) (((z_NW S) (((1 + (2 * i)) + 1))))) := ⟨_, rfl⟩
            refine wp_w (w2 := mixW g (s_UP (s_LO (s_TR (s_MX (s_RT (s_MO S mo) rt) mx) t2) l) u)) (by rw [ht2]) ?_
            have hag : agr t2 (impM (z_NW S) i) := by rw [ht2]; exact agr_uu
            have ht0 : t2 0 = nI N := by rw [hag 0 (by omega), impM_0]; exact hN
            have hsv : svOk t2 N := by rw [svOk_c hag hN6]; exact hok i (by omega)
            refine q_aload_n dX10_best_113 rfl ?_
            refine q_get (j := 2) (v := .ref 28) dX10_best_114 (Nat.le_of_ble_eq_true rfl) rfl rfl iuX10 (Nat.le_of_ble_eq_true rfl) uw_926 rfl rfl ?_
            refine q_callSv (ν := mX10_isSteadyAll) dX10_best_117 uw_1132 vX10_isSteadyAll (c_X10_isSteadyAll_28 hG (s_UP (s_LO (s_TR (s_MX (s_RT (s_MO S mo) rt) mx) t2) l) u) (N) ht0 hN6) rfl rfl (Nat.le_of_ble_eq_true rfl) (Nat.le_of_ble_eq_true rfl) (Nat.le_of_ble_eq_true rfl) 0 (Nat.le_of_ble_eq_true rfl) ?_
            refine wp_eq (st2 := .int ((pI (SM t2 N 0 ∧ SM t2 N 1))) :: _) rfl ?_
            refine wp_top (y := stM t2 N) rfl ?_
            refine q_if_eq 134 dX10_best_120 rfl (fun c120 => ?_) (fun c120 => ?_)
            · refine q_bipush (v := (-9)) dX10_best_134 rfl ?_
              refine q_ist6 dX10_best_136 (Nat.le_of_ble_eq_true rfl) rfl ?_
              have hval : valM (impM (z_NW S) i) N = (-9) := by
                rw [← valM_c hag hN6]
                exact if_pos c120
              refine q_iload dX10_best_138 rfl ?_
              refine q_iload_n dX10_best_140 rfl ?_
              refine q_icmp_le 149 dX10_best_141 rfl (fun c141 => ?_) (fun c141 => ?_)
              · refine q_iload_n dX10_best_149 rfl ?_
                refine q_ist2 dX10_best_150 (Nat.le_of_ble_eq_true rfl) rfl ?_
                refine q_iload dX10_best_151 rfl ?_
                refine q_iload_n dX10_best_153 rfl ?_
                refine q_icmp_le 162 dX10_best_154 rfl (fun c154 => ?_) (fun c154 => ?_)
                · refine q_iload_n dX10_best_162 rfl ?_
                  refine q_ist3 dX10_best_163 (Nat.le_of_ble_eq_true rfl) rfl ?_
                  refine q_iinc4 (k9 := 1) dX10_best_164 rfl (Nat.le_of_ble_eq_true rfl) rfl ?_
                  refine wp_L (L2 := [some (.ref 26), some (.int (0)), some (.int ((bsM (impM (z_NW S)) N i).1)), some (.int ((bsM (impM (z_NW S)) N i).2)), some (.int (nI (i + 1))), some (.int ((((z_NW S) ((1 + (2 * i)))) + 5))), some (.int ((-9)))]) (by rw [show nI i + 1 = nI (i + 1) from nI_1 _]) ?_
                  refine q_goto 9 dX10_best_167 rfl ?_
                  have est : bsM (impM (z_NW S)) N (i + 1) = ((bsM (impM (z_NW S)) N i).1, (bsM (impM (z_NW S)) N i).2) := by
                    rw [bsM, hval]
                    rw [if_pos c141]
                  refine wp_fg (L2 := [some (.ref 26), some (.int (0)), some (.int ((bsM (impM (z_NW S)) N i).1)), some (.int ((bsM (impM (z_NW S)) N i).2)), some (.int (nI (i + 1))), none, none]) ⟨rfl, rfl, rfl, rfl, rfl, trivial⟩ ?_
                  refine wp_L (L2 := [some (.ref 26), some (.int (0)), some (.int ((bsM (impM (z_NW S)) N (i + 1)).1)), some (.int ((bsM (impM (z_NW S)) N (i + 1)).2)), some (.int (nI (i + 1))), none, none]) (by rw [est]) ?_
                  exact ih (i + 1) _ _ _ _ _ _ (by omega)
                · refine q_iload dX10_best_157 rfl ?_
                  refine q_goto 163 dX10_best_159 rfl ?_
                  refine q_ist3 dX10_best_163 (Nat.le_of_ble_eq_true rfl) rfl ?_
                  refine q_iinc4 (k9 := 1) dX10_best_164 rfl (Nat.le_of_ble_eq_true rfl) rfl ?_
                  refine wp_L (L2 := [some (.ref 26), some (.int (0)), some (.int ((bsM (impM (z_NW S)) N i).1)), some (.int ((-9))), some (.int (nI (i + 1))), some (.int ((((z_NW S) ((1 + (2 * i)))) + 5))), some (.int ((-9)))]) (by rw [show nI i + 1 = nI (i + 1) from nI_1 _]) ?_
                  refine q_goto 9 dX10_best_167 rfl ?_
                  first | exact absurd c141 c154 | exact absurd c154 c141
              · refine q_iload dX10_best_144 rfl ?_
                refine q_goto 150 dX10_best_146 rfl ?_
                refine q_ist2 dX10_best_150 (Nat.le_of_ble_eq_true rfl) rfl ?_
                refine q_iload dX10_best_151 rfl ?_
                refine q_iload_n dX10_best_153 rfl ?_
                refine q_icmp_le 162 dX10_best_154 rfl (fun c154 => ?_) (fun c154 => ?_)
                · refine q_iload_n dX10_best_162 rfl ?_
                  refine q_ist3 dX10_best_163 (Nat.le_of_ble_eq_true rfl) rfl ?_
                  refine q_iinc4 (k9 := 1) dX10_best_164 rfl (Nat.le_of_ble_eq_true rfl) rfl ?_
                  refine wp_L (L2 := [some (.ref 26), some (.int (0)), some (.int (nI i)), some (.int ((bsM (impM (z_NW S)) N i).2)), some (.int (nI (i + 1))), some (.int ((((z_NW S) ((1 + (2 * i)))) + 5))), some (.int ((-9)))]) (by rw [show nI i + 1 = nI (i + 1) from nI_1 _]) ?_
                  refine q_goto 9 dX10_best_167 rfl ?_
                  first | exact absurd c141 c154 | exact absurd c154 c141
                · refine q_iload dX10_best_157 rfl ?_
                  refine q_goto 163 dX10_best_159 rfl ?_
                  refine q_ist3 dX10_best_163 (Nat.le_of_ble_eq_true rfl) rfl ?_
                  refine q_iinc4 (k9 := 1) dX10_best_164 rfl (Nat.le_of_ble_eq_true rfl) rfl ?_
                  refine wp_L (L2 := [some (.ref 26), some (.int (0)), some (.int (nI i)), some (.int ((-9))), some (.int (nI (i + 1))), some (.int ((((z_NW S) ((1 + (2 * i)))) + 5))), some (.int ((-9)))]) (by rw [show nI i + 1 = nI (i + 1) from nI_1 _]) ?_
                  refine q_goto 9 dX10_best_167 rfl ?_
                  have est : bsM (impM (z_NW S)) N (i + 1) = (nI i, (-9)) := by
                    rw [bsM, hval]
                    rw [if_neg c141]
                  refine wp_fg (L2 := [some (.ref 26), some (.int (0)), some (.int (nI i)), some (.int ((-9))), some (.int (nI (i + 1))), none, none]) ⟨rfl, rfl, rfl, rfl, rfl, trivial⟩ ?_
                  refine wp_L (L2 := [some (.ref 26), some (.int (0)), some (.int ((bsM (impM (z_NW S)) N (i + 1)).1)), some (.int ((bsM (impM (z_NW S)) N (i + 1)).2)), some (.int (nI (i + 1))), none, none]) (by rw [est]) ?_
                  exact ih (i + 1) _ _ _ _ _ _ (by omega)
            · refine q_aload_n dX10_best_123 rfl ?_
              refine q_aload_n dX10_best_124 rfl ?_
              refine q_get (j := 2) (v := .ref 28) dX10_best_125 (Nat.le_of_ble_eq_true rfl) rfl rfl iuX10 (Nat.le_of_ble_eq_true rfl) uw_926 rfl rfl ?_
              refine q_callVg (ν := mX10_recoveryOf) dX10_best_128 uw_1175 vX10_recoveryOf (c_X10_recoveryOf_28 hG (s_UP (s_LO (s_TR (s_MX (s_RT (s_MO S mo) rt) mx) t2) l) u) (N) ht0 hN6 (hsv c120)) (Nat.le_of_ble_eq_true rfl) rfl rfl rfl rfl (Nat.le_of_ble_eq_true rfl) (Nat.le_of_ble_eq_true rfl) (Nat.le_of_ble_eq_true rfl) 0 (Nat.le_of_ble_eq_true rfl) rfl (fun _ _ z => z.elim) (fun v w1 hv => ?_)
              obtain ⟨rfl, mx2, rt2, mo2, u2, l2, rfl⟩ := hv
              · refine wp_eq (st2 := [.int ((recM t2 N))]) rfl ?_
                rw [sc_MO_UP, sc_MO_LO, sc_MO_TR, sc_MO_MX, sc_MO_RT, ss_MO, sc_RT_UP, sc_RT_LO, sc_RT_TR, sc_RT_MX, ss_RT, sc_MX_UP, sc_MX_LO, sc_MX_TR, ss_MX, sc_LO_UP, ss_LO, ss_UP]
                refine wp_w (w2 := mixW g (s_UP (s_LO (s_TR (s_MX (s_RT (s_MO S mo2) rt2) mx2) t2) l2) u2)) rfl ?_
                refine q_goto 136 dX10_best_131 rfl ?_
                refine q_ist6 dX10_best_136 (Nat.le_of_ble_eq_true rfl) rfl ?_
                have hval : valM (impM (z_NW S) i) N = (recM t2 N) := by
                  rw [← valM_c hag hN6]
                  exact if_neg c120
                refine q_iload dX10_best_138 rfl ?_
                refine q_iload_n dX10_best_140 rfl ?_
                refine q_icmp_le 149 dX10_best_141 rfl (fun c141 => ?_) (fun c141 => ?_)
                · refine q_iload_n dX10_best_149 rfl ?_
                  refine q_ist2 dX10_best_150 (Nat.le_of_ble_eq_true rfl) rfl ?_
                  refine q_iload dX10_best_151 rfl ?_
                  refine q_iload_n dX10_best_153 rfl ?_
                  refine q_icmp_le 162 dX10_best_154 rfl (fun c154 => ?_) (fun c154 => ?_)
                  · refine q_iload_n dX10_best_162 rfl ?_
                    refine q_ist3 dX10_best_163 (Nat.le_of_ble_eq_true rfl) rfl ?_
                    refine q_iinc4 (k9 := 1) dX10_best_164 rfl (Nat.le_of_ble_eq_true rfl) rfl ?_
                    refine wp_L (L2 := [some (.ref 26), some (.int (0)), some (.int ((bsM (impM (z_NW S)) N i).1)), some (.int ((bsM (impM (z_NW S)) N i).2)), some (.int (nI (i + 1))), some (.int ((((z_NW S) ((1 + (2 * i)))) + 5))), some (.int ((recM t2 N)))]) (by rw [show nI i + 1 = nI (i + 1) from nI_1 _]) ?_
                    refine q_goto 9 dX10_best_167 rfl ?_
                    have est : bsM (impM (z_NW S)) N (i + 1) = ((bsM (impM (z_NW S)) N i).1, (bsM (impM (z_NW S)) N i).2) := by
                      rw [bsM, hval]
                      rw [if_pos c141]
                    refine wp_fg (L2 := [some (.ref 26), some (.int (0)), some (.int ((bsM (impM (z_NW S)) N i).1)), some (.int ((bsM (impM (z_NW S)) N i).2)), some (.int (nI (i + 1))), none, none]) ⟨rfl, rfl, rfl, rfl, rfl, trivial⟩ ?_
                    refine wp_L (L2 := [some (.ref 26), some (.int (0)), some (.int ((bsM (impM (z_NW S)) N (i + 1)).1)), some (.int ((bsM (impM (z_NW S)) N (i + 1)).2)), some (.int (nI (i + 1))), none, none]) (by rw [est]) ?_
                    exact ih (i + 1) _ _ _ _ _ _ (by omega)
                  · refine q_iload dX10_best_157 rfl ?_
                    refine q_goto 163 dX10_best_159 rfl ?_
                    refine q_ist3 dX10_best_163 (Nat.le_of_ble_eq_true rfl) rfl ?_
                    refine q_iinc4 (k9 := 1) dX10_best_164 rfl (Nat.le_of_ble_eq_true rfl) rfl ?_
                    refine wp_L (L2 := [some (.ref 26), some (.int (0)), some (.int ((bsM (impM (z_NW S)) N i).1)), some (.int ((recM t2 N))), some (.int (nI (i + 1))), some (.int ((((z_NW S) ((1 + (2 * i)))) + 5))), some (.int ((recM t2 N)))]) (by rw [show nI i + 1 = nI (i + 1) from nI_1 _]) ?_
                    refine q_goto 9 dX10_best_167 rfl ?_
                    first | exact absurd c141 c154 | exact absurd c154 c141
                · refine q_iload dX10_best_144 rfl ?_
                  refine q_goto 150 dX10_best_146 rfl ?_
                  refine q_ist2 dX10_best_150 (Nat.le_of_ble_eq_true rfl) rfl ?_
                  refine q_iload dX10_best_151 rfl ?_
                  refine q_iload_n dX10_best_153 rfl ?_
                  refine q_icmp_le 162 dX10_best_154 rfl (fun c154 => ?_) (fun c154 => ?_)
                  · refine q_iload_n dX10_best_162 rfl ?_
                    refine q_ist3 dX10_best_163 (Nat.le_of_ble_eq_true rfl) rfl ?_
                    refine q_iinc4 (k9 := 1) dX10_best_164 rfl (Nat.le_of_ble_eq_true rfl) rfl ?_
                    refine wp_L (L2 := [some (.ref 26), some (.int (0)), some (.int (nI i)), some (.int ((bsM (impM (z_NW S)) N i).2)), some (.int (nI (i + 1))), some (.int ((((z_NW S) ((1 + (2 * i)))) + 5))), some (.int ((recM t2 N)))]) (by rw [show nI i + 1 = nI (i + 1) from nI_1 _]) ?_
                    refine q_goto 9 dX10_best_167 rfl ?_
                    first | exact absurd c141 c154 | exact absurd c154 c141
                  · refine q_iload dX10_best_157 rfl ?_
                    refine q_goto 163 dX10_best_159 rfl ?_
                    refine q_ist3 dX10_best_163 (Nat.le_of_ble_eq_true rfl) rfl ?_
                    refine q_iinc4 (k9 := 1) dX10_best_164 rfl (Nat.le_of_ble_eq_true rfl) rfl ?_
                    refine wp_L (L2 := [some (.ref 26), some (.int (0)), some (.int (nI i)), some (.int ((recM t2 N))), some (.int (nI (i + 1))), some (.int ((((z_NW S) ((1 + (2 * i)))) + 5))), some (.int ((recM t2 N)))]) (by rw [show nI i + 1 = nI (i + 1) from nI_1 _]) ?_
                    refine q_goto 9 dX10_best_167 rfl ?_
                    have est : bsM (impM (z_NW S)) N (i + 1) = (nI i, (recM t2 N)) := by
                      rw [bsM, hval]
                      rw [if_neg c141]
                    refine wp_fg (L2 := [some (.ref 26), some (.int (0)), some (.int (nI i)), some (.int ((recM t2 N))), some (.int (nI (i + 1))), none, none]) ⟨rfl, rfl, rfl, rfl, rfl, trivial⟩ ?_
                    refine wp_L (L2 := [some (.ref 26), some (.int (0)), some (.int ((bsM (impM (z_NW S)) N (i + 1)).1)), some (.int ((bsM (impM (z_NW S)) N (i + 1)).2)), some (.int (nI (i + 1))), none, none]) (by rw [est]) ?_
                    exact ih (i + 1) _ _ _ _ _ _ (by omega)
          · first | exact absurd (by decide) c92 | exact absurd c92 (by decide)
      · first | exact absurd (by decide) c57 | exact absurd c57 (by decide)
set_option maxRecDepth 100000 in
set_option maxHeartbeats 4000000 in
theorem c_X10_best_0 {g : G0} (hG : Gd g) (S : SS)  (N : Nat) (h1 : (z_NW S) 0 = nI N) (h2 : N ≤ 6) (h3 : ∀ i, i < N → svOk (impM (z_NW S) i) N) : ct g mX10_best [.ref 26, .int 0] (mixW g S) (fun v w1 => v = some (.int (bsM (impM (z_NW S)) N N).1) ∧ ∃ tr mx rt mo u l, w1 = mixW g (s_UP (s_LO (s_TR (s_MX (s_RT (s_MO S mo) rt) mx) tr) l) u)) (fun _ _ => False) := by
  refine ct_of hG [some (.ref 26), some (.int (0)), none, none, none, none, none] rfl rfl rfl (Nat.le_of_ble_eq_true rfl) (fun h => ?_) rfl
  refine q_bipush (v := (-9)) dX10_best_0 rfl ?_
  refine q_ist2 dX10_best_2 (Nat.le_of_ble_eq_true rfl) rfl ?_
  refine q_bipush (v := (-9)) dX10_best_3 rfl ?_
  refine q_ist3 dX10_best_5 (Nat.le_of_ble_eq_true rfl) rfl ?_
  refine q_iconst (v := 0) dX10_best_6 rfl ?_
  refine q_ist4 dX10_best_7 (Nat.le_of_ble_eq_true rfl) rfl ?_
  refine wp_w (w2 := mixW g (s_UP (s_LO (s_TR (s_MX (s_RT (s_MO S (z_MO S)) (z_RT S)) (z_MX S)) (z_TR S)) (z_LO S)) (z_UP S))) (by rw [se_MO, se_RT, se_MX, se_TR, se_LO, se_UP]) ?_
  refine wp_L (L2 := [some (.ref 26), some (.int (0)), some (.int ((bsM (impM (z_NW S)) N 0).1)), some (.int ((bsM (impM (z_NW S)) N 0).2)), some (.int (nI 0)), none, none]) rfl ?_
  refine l_X10_best_0 hG S N h1 h2 h3 (fun tr mx rt mo u l => ?_) N 0 _ _ _ _ _ _ (by omega)
  refine q_iload_n dX10_best_170 rfl ?_
  exact q_iret dX10_best_171 rfl ⟨rfl, _, _, _, _, _, _, rfl⟩
set_option maxRecDepth 100000 in
set_option maxHeartbeats 4000000 in
theorem l_X10_best_1 {g : G0} {h : G1} (hG : Gd g) (S : SS) {post : Option Value → (Nat → va_E) → Prop} {xp : String → (Nat → va_E) → Prop} (N : Nat) (hN : z_NW S 0 = nI N) (hN6 : N ≤ 6) (hok : ∀ i, i < N → svOk (shuM (z_NW S) i) N) (kk : ∀ (tr : Nat → Int32) (mx rt mo : Nat → Int64) (u l : Int64), wp g h mX10_best (mixW g (s_UP (s_LO (s_TR (s_MX (s_RT (s_MO S mo) rt) mx) tr) l) u)) [some (.ref 26), some (.int (1)), some (.int ((bsM (shuM (z_NW S)) N N).1)), none, none, none, none] [] 0 (QQ g h mX10_best post xp) 170) : ∀ (n i : Nat) (tr : Nat → Int32) (mx rt mo : Nat → Int64) (u l : Int64), i + n = N → wp g h mX10_best (mixW g (s_UP (s_LO (s_TR (s_MX (s_RT (s_MO S mo) rt) mx) tr) l) u)) [some (.ref 26), some (.int (1)), some (.int ((bsM (shuM (z_NW S)) N i).1)), some (.int ((bsM (shuM (z_NW S)) N i).2)), some (.int (nI i)), none, none] [] 0 (QQ g h mX10_best post xp) 9 := by
  intro n
  induction n with
  | zero =>
    intro i tr mx rt mo u l hq1
    obtain rfl : N = i := by omega
    refine q_iload dX10_best_9 rfl ?_
    refine q_aload_n dX10_best_11 rfl ?_
    refine q_get (j := 1) (v := .ref 27) dX10_best_12 (Nat.le_of_ble_eq_true rfl) rfl rfl iuX10 (Nat.le_of_ble_eq_true rfl) uw_925 rfl rfl ?_
    refine q_iconst (v := 0) dX10_best_15 rfl ?_
    refine q_iald (f := (z_NW S)) dX10_best_16 (Nat.le_of_ble_eq_true rfl) rfl (0) rfl (Nat.le_of_ble_eq_true rfl) (Nat.le_of_ble_eq_true rfl) ?_
    refine wp_top (y := nI N) hN ?_
    refine q_icmp_ge 170 dX10_best_17 rfl (fun c17 => ?_) (fun c17 => ?_)
    · have n17 := (nI_leI (a := N) (b := N) (by omega) (by omega)).mp c17
      refine wp_fg (L2 := [some (.ref 26), some (.int (1)), some (.int ((bsM (shuM (z_NW S)) N N).1)), none, none, none, none]) ⟨rfl, rfl, rfl, trivial⟩ ?_
      exact kk _ _ _ _ _ _
    · have n17 := mt (nI_leI (a := N) (b := N) (by omega) (by omega)).mpr c17
      omega
  | succ n ih =>
    intro i tr mx rt mo u l hq1
    refine q_iload dX10_best_9 rfl ?_
    refine q_aload_n dX10_best_11 rfl ?_
    refine q_get (j := 1) (v := .ref 27) dX10_best_12 (Nat.le_of_ble_eq_true rfl) rfl rfl iuX10 (Nat.le_of_ble_eq_true rfl) uw_925 rfl rfl ?_
    refine q_iconst (v := 0) dX10_best_15 rfl ?_
    refine q_iald (f := (z_NW S)) dX10_best_16 (Nat.le_of_ble_eq_true rfl) rfl (0) rfl (Nat.le_of_ble_eq_true rfl) (Nat.le_of_ble_eq_true rfl) ?_
    refine wp_top (y := nI N) hN ?_
    refine q_icmp_ge 170 dX10_best_17 rfl (fun c17 => ?_) (fun c17 => ?_)
    · have n17 := (nI_leI (a := N) (b := i) (by omega) (by omega)).mp c17
      omega
    · have n17 := mt (nI_leI (a := N) (b := i) (by omega) (by omega)).mpr c17
      refine q_aload_n dX10_best_20 rfl ?_
      refine q_get (j := 1) (v := .ref 27) dX10_best_21 (Nat.le_of_ble_eq_true rfl) rfl rfl iuX10 (Nat.le_of_ble_eq_true rfl) uw_925 rfl rfl ?_
      refine q_aload_n dX10_best_24 rfl ?_
      refine q_get (j := 2) (v := .ref 28) dX10_best_25 (Nat.le_of_ble_eq_true rfl) rfl rfl iuX10 (Nat.le_of_ble_eq_true rfl) uw_926 rfl rfl ?_
      refine q_callSu (ν := mX10_copy) dX10_best_28 uw_1042 vX10_copy (c_X10_copy_27_28 hG (s_UP (s_LO (s_TR (s_MX (s_RT (s_MO S mo) rt) mx) tr) l) u) ) rfl rfl (Nat.le_of_ble_eq_true rfl) (Nat.le_of_ble_eq_true rfl) (Nat.le_of_ble_eq_true rfl) 0 (Nat.le_of_ble_eq_true rfl) ?_
      rw [sc_TR_UP, sc_TR_LO, ss_TR]
      refine wp_w (w2 := mixW g (s_UP (s_LO (s_TR (s_MX (s_RT (s_MO S mo) rt) mx) (va_cpy (z_NW S) tr 0 0 44)) l) u)) rfl ?_
      refine q_aload_n dX10_best_31 rfl ?_
      refine q_get (j := 1) (v := .ref 27) dX10_best_32 (Nat.le_of_ble_eq_true rfl) rfl rfl iuX10 (Nat.le_of_ble_eq_true rfl) uw_925 rfl rfl ?_
      refine q_iconst (v := 1) dX10_best_35 rfl ?_
      refine q_iconst (v := 2) dX10_best_36 rfl ?_
      refine q_iload dX10_best_37 rfl ?_
      refine q_imul dX10_best_39 ?_
      refine q_iadd dX10_best_40 ?_
      refine q_iald (f := (z_NW S)) dX10_best_41 (Nat.le_of_ble_eq_true rfl) rfl ((1 + (2 * i))) (by simp only [fa_lit, pk_mul, nI_add]) (by omega) (Nat.le_of_ble_eq_true rfl) ?_
      refine q_iconst (v := 5) dX10_best_42 rfl ?_
      refine q_iadd dX10_best_43 ?_
      refine q_ist5 dX10_best_44 (Nat.le_of_ble_eq_true rfl) rfl ?_
      refine q_aload_n dX10_best_46 rfl ?_
      refine q_get (j := 2) (v := .ref 28) dX10_best_47 (Nat.le_of_ble_eq_true rfl) rfl rfl iuX10 (Nat.le_of_ble_eq_true rfl) uw_926 rfl rfl ?_
      refine q_iconst (v := 1) dX10_best_50 rfl ?_
      refine q_iconst (v := 2) dX10_best_51 rfl ?_
      refine q_iload dX10_best_52 rfl ?_
      refine q_imul dX10_best_54 ?_
      refine q_iadd dX10_best_55 ?_
      refine q_iload_n dX10_best_56 rfl ?_
      refine q_if_eq 64 dX10_best_57 rfl (fun c57 => ?_) (fun c57 => ?_)
      · first | exact absurd (by decide) c57 | exact absurd c57 (by decide)
      · refine q_iconst (v := 0) dX10_best_60 rfl ?_
        refine q_goto 78 dX10_best_61 rfl ?_
        refine q_iast (f := (va_cpy (z_NW S) tr 0 0 44)) dX10_best_78 (Nat.le_of_ble_eq_true rfl) rfl ((1 + (2 * i))) (by simp only [fa_lit, pk_mul, nI_add]) (by omega) (Nat.le_of_ble_eq_true rfl) ?_
        refine wp_w (u_TR g _ _) ?_
        rw [sc_TR_UP, sc_TR_LO, ss_TR]
        refine q_aload_n dX10_best_79 rfl ?_
        refine q_get (j := 2) (v := .ref 28) dX10_best_80 (Nat.le_of_ble_eq_true rfl) rfl rfl iuX10 (Nat.le_of_ble_eq_true rfl) uw_926 rfl rfl ?_
        refine q_iconst (v := 1) dX10_best_83 rfl ?_
        refine q_iconst (v := 2) dX10_best_84 rfl ?_
        refine q_iload dX10_best_85 rfl ?_
        refine q_imul dX10_best_87 ?_
        refine q_iadd dX10_best_88 ?_
        refine q_iconst (v := 1) dX10_best_89 rfl ?_
        refine q_iadd dX10_best_90 ?_
        refine q_iload_n dX10_best_91 rfl ?_
        refine q_if_eq 99 dX10_best_92 rfl (fun c92 => ?_) (fun c92 => ?_)
        · first | exact absurd (by decide) c92 | exact absurd c92 (by decide)
        · refine q_iconst (v := 0) dX10_best_95 rfl ?_
          refine q_goto 112 dX10_best_96 rfl ?_
          refine q_iast (f := (upd (va_cpy (z_NW S) tr 0 0 44) ((1 + (2 * i))) (0))) dX10_best_112 (Nat.le_of_ble_eq_true rfl) rfl (((1 + (2 * i)) + 1)) (by simp only [fa_lit, pk_mul, nI_add]) (by omega) (Nat.le_of_ble_eq_true rfl) ?_
          refine wp_w (u_TR g _ _) ?_
          rw [sc_TR_UP, sc_TR_LO, ss_TR]
          obtain ⟨t2, ht2⟩ : ∃ t2, t2 = (upd (upd (va_cpy (z_NW S) tr 0 0 44) ((1 + (2 * i))) (0)) (((1 + (2 * i)) + 1)) (0)) := ⟨_, rfl⟩
          refine wp_w (w2 := mixW g (s_UP (s_LO (s_TR (s_MX (s_RT (s_MO S mo) rt) mx) t2) l) u)) (by rw [ht2]) ?_
          have hag : agr t2 (shuM (z_NW S) i) := by rw [ht2]; exact agr_uu
          have ht0 : t2 0 = nI N := by rw [hag 0 (by omega), shuM_0]; exact hN
          have hsv : svOk t2 N := by rw [svOk_c hag hN6]; exact hok i (by omega)
          refine q_aload_n dX10_best_113 rfl ?_
          refine q_get (j := 2) (v := .ref 28) dX10_best_114 (Nat.le_of_ble_eq_true rfl) rfl rfl iuX10 (Nat.le_of_ble_eq_true rfl) uw_926 rfl rfl ?_
          refine q_callSv (ν := mX10_isSteadyAll) dX10_best_117 uw_1132 vX10_isSteadyAll (c_X10_isSteadyAll_28 hG (s_UP (s_LO (s_TR (s_MX (s_RT (s_MO S mo) rt) mx) t2) l) u) (N) ht0 hN6) rfl rfl (Nat.le_of_ble_eq_true rfl) (Nat.le_of_ble_eq_true rfl) (Nat.le_of_ble_eq_true rfl) 0 (Nat.le_of_ble_eq_true rfl) ?_
          refine wp_eq (st2 := .int ((pI (SM t2 N 0 ∧ SM t2 N 1))) :: _) rfl ?_
          refine wp_top (y := stM t2 N) rfl ?_
          refine q_if_eq 134 dX10_best_120 rfl (fun c120 => ?_) (fun c120 => ?_)
          · refine q_bipush (v := (-9)) dX10_best_134 rfl ?_
            refine q_ist6 dX10_best_136 (Nat.le_of_ble_eq_true rfl) rfl ?_
            have hval : valM (shuM (z_NW S) i) N = (-9) := by
              rw [← valM_c hag hN6]
              exact if_pos c120
            refine q_iload dX10_best_138 rfl ?_
            refine q_iload_n dX10_best_140 rfl ?_
            refine q_icmp_le 149 dX10_best_141 rfl (fun c141 => ?_) (fun c141 => ?_)
            · refine q_iload_n dX10_best_149 rfl ?_
              refine q_ist2 dX10_best_150 (Nat.le_of_ble_eq_true rfl) rfl ?_
              refine q_iload dX10_best_151 rfl ?_
              refine q_iload_n dX10_best_153 rfl ?_
              refine q_icmp_le 162 dX10_best_154 rfl (fun c154 => ?_) (fun c154 => ?_)
              · refine q_iload_n dX10_best_162 rfl ?_
                refine q_ist3 dX10_best_163 (Nat.le_of_ble_eq_true rfl) rfl ?_
                refine q_iinc4 (k9 := 1) dX10_best_164 rfl (Nat.le_of_ble_eq_true rfl) rfl ?_
                refine wp_L (L2 := [some (.ref 26), some (.int (1)), some (.int ((bsM (shuM (z_NW S)) N i).1)), some (.int ((bsM (shuM (z_NW S)) N i).2)), some (.int (nI (i + 1))), some (.int ((((z_NW S) ((1 + (2 * i)))) + 5))), some (.int ((-9)))]) (by rw [show nI i + 1 = nI (i + 1) from nI_1 _]) ?_
                refine q_goto 9 dX10_best_167 rfl ?_
                have est : bsM (shuM (z_NW S)) N (i + 1) = ((bsM (shuM (z_NW S)) N i).1, (bsM (shuM (z_NW S)) N i).2) := by
                  rw [bsM, hval]
                  rw [if_pos c141]
                refine wp_fg (L2 := [some (.ref 26), some (.int (1)), some (.int ((bsM (shuM (z_NW S)) N i).1)), some (.int ((bsM (shuM (z_NW S)) N i).2)), some (.int (nI (i + 1))), none, none]) ⟨rfl, rfl, rfl, rfl, rfl, trivial⟩ ?_
                refine wp_L (L2 := [some (.ref 26), some (.int (1)), some (.int ((bsM (shuM (z_NW S)) N (i + 1)).1)), some (.int ((bsM (shuM (z_NW S)) N (i + 1)).2)), some (.int (nI (i + 1))), none, none]) (by rw [est]) ?_
                exact ih (i + 1) _ _ _ _ _ _ (by omega)
              · refine q_iload dX10_best_157 rfl ?_
                refine q_goto 163 dX10_best_159 rfl ?_
                refine q_ist3 dX10_best_163 (Nat.le_of_ble_eq_true rfl) rfl ?_
                refine q_iinc4 (k9 := 1) dX10_best_164 rfl (Nat.le_of_ble_eq_true rfl) rfl ?_
                refine wp_L (L2 := [some (.ref 26), some (.int (1)), some (.int ((bsM (shuM (z_NW S)) N i).1)), some (.int ((-9))), some (.int (nI (i + 1))), some (.int ((((z_NW S) ((1 + (2 * i)))) + 5))), some (.int ((-9)))]) (by rw [show nI i + 1 = nI (i + 1) from nI_1 _]) ?_
                refine q_goto 9 dX10_best_167 rfl ?_
                first | exact absurd c141 c154 | exact absurd c154 c141
            · refine q_iload dX10_best_144 rfl ?_
              refine q_goto 150 dX10_best_146 rfl ?_
              refine q_ist2 dX10_best_150 (Nat.le_of_ble_eq_true rfl) rfl ?_
              refine q_iload dX10_best_151 rfl ?_
              refine q_iload_n dX10_best_153 rfl ?_
              refine q_icmp_le 162 dX10_best_154 rfl (fun c154 => ?_) (fun c154 => ?_)
              · refine q_iload_n dX10_best_162 rfl ?_
                refine q_ist3 dX10_best_163 (Nat.le_of_ble_eq_true rfl) rfl ?_
                refine q_iinc4 (k9 := 1) dX10_best_164 rfl (Nat.le_of_ble_eq_true rfl) rfl ?_
                refine wp_L (L2 := [some (.ref 26), some (.int (1)), some (.int (nI i)), some (.int ((bsM (shuM (z_NW S)) N i).2)), some (.int (nI (i + 1))), some (.int ((((z_NW S) ((1 + (2 * i)))) + 5))), some (.int ((-9)))]) (by rw [show nI i + 1 = nI (i + 1) from nI_1 _]) ?_
                refine q_goto 9 dX10_best_167 rfl ?_
                first | exact absurd c141 c154 | exact absurd c154 c141
              · refine q_iload dX10_best_157 rfl ?_
                refine q_goto 163 dX10_best_159 rfl ?_
                refine q_ist3 dX10_best_163 (Nat.le_of_ble_eq_true rfl) rfl ?_
                refine q_iinc4 (k9 := 1) dX10_best_164 rfl (Nat.le_of_ble_eq_true rfl) rfl ?_
                refine wp_L (L2 := [some (.ref 26), some (.int (1)), some (.int (nI i)), some (.int ((-9))), some (.int (nI (i + 1))), some (.int ((((z_NW S) ((1 + (2 * i)))) + 5))), some (.int ((-9)))]) (by rw [show nI i + 1 = nI (i + 1) from nI_1 _]) ?_
                refine q_goto 9 dX10_best_167 rfl ?_
                have est : bsM (shuM (z_NW S)) N (i + 1) = (nI i, (-9)) := by
                  rw [bsM, hval]
                  rw [if_neg c141]
                refine wp_fg (L2 := [some (.ref 26), some (.int (1)), some (.int (nI i)), some (.int ((-9))), some (.int (nI (i + 1))), none, none]) ⟨rfl, rfl, rfl, rfl, rfl, trivial⟩ ?_
                refine wp_L (L2 := [some (.ref 26), some (.int (1)), some (.int ((bsM (shuM (z_NW S)) N (i + 1)).1)), some (.int ((bsM (shuM (z_NW S)) N (i + 1)).2)), some (.int (nI (i + 1))), none, none]) (by rw [est]) ?_
                exact ih (i + 1) _ _ _ _ _ _ (by omega)
          · refine q_aload_n dX10_best_123 rfl ?_
            refine q_aload_n dX10_best_124 rfl ?_
            refine q_get (j := 2) (v := .ref 28) dX10_best_125 (Nat.le_of_ble_eq_true rfl) rfl rfl iuX10 (Nat.le_of_ble_eq_true rfl) uw_926 rfl rfl ?_
            refine q_callVg (ν := mX10_recoveryOf) dX10_best_128 uw_1175 vX10_recoveryOf (c_X10_recoveryOf_28 hG (s_UP (s_LO (s_TR (s_MX (s_RT (s_MO S mo) rt) mx) t2) l) u) (N) ht0 hN6 (hsv c120)) (Nat.le_of_ble_eq_true rfl) rfl rfl rfl rfl (Nat.le_of_ble_eq_true rfl) (Nat.le_of_ble_eq_true rfl) (Nat.le_of_ble_eq_true rfl) 0 (Nat.le_of_ble_eq_true rfl) rfl (fun _ _ z => z.elim) (fun v w1 hv => ?_)
            obtain ⟨rfl, mx2, rt2, mo2, u2, l2, rfl⟩ := hv
            · refine wp_eq (st2 := [.int ((recM t2 N))]) rfl ?_
              rw [sc_MO_UP, sc_MO_LO, sc_MO_TR, sc_MO_MX, sc_MO_RT, ss_MO, sc_RT_UP, sc_RT_LO, sc_RT_TR, sc_RT_MX, ss_RT, sc_MX_UP, sc_MX_LO, sc_MX_TR, ss_MX, sc_LO_UP, ss_LO, ss_UP]
              refine wp_w (w2 := mixW g (s_UP (s_LO (s_TR (s_MX (s_RT (s_MO S mo2) rt2) mx2) t2) l2) u2)) rfl ?_
              refine q_goto 136 dX10_best_131 rfl ?_
              refine q_ist6 dX10_best_136 (Nat.le_of_ble_eq_true rfl) rfl ?_
              have hval : valM (shuM (z_NW S) i) N = (recM t2 N) := by
                rw [← valM_c hag hN6]
                exact if_neg c120
              refine q_iload dX10_best_138 rfl ?_
              refine q_iload_n dX10_best_140 rfl ?_
              refine q_icmp_le 149 dX10_best_141 rfl (fun c141 => ?_) (fun c141 => ?_)
              · refine q_iload_n dX10_best_149 rfl ?_
                refine q_ist2 dX10_best_150 (Nat.le_of_ble_eq_true rfl) rfl ?_
                refine q_iload dX10_best_151 rfl ?_
                refine q_iload_n dX10_best_153 rfl ?_
                refine q_icmp_le 162 dX10_best_154 rfl (fun c154 => ?_) (fun c154 => ?_)
                · refine q_iload_n dX10_best_162 rfl ?_
                  refine q_ist3 dX10_best_163 (Nat.le_of_ble_eq_true rfl) rfl ?_
                  refine q_iinc4 (k9 := 1) dX10_best_164 rfl (Nat.le_of_ble_eq_true rfl) rfl ?_
                  refine wp_L (L2 := [some (.ref 26), some (.int (1)), some (.int ((bsM (shuM (z_NW S)) N i).1)), some (.int ((bsM (shuM (z_NW S)) N i).2)), some (.int (nI (i + 1))), some (.int ((((z_NW S) ((1 + (2 * i)))) + 5))), some (.int ((recM t2 N)))]) (by rw [show nI i + 1 = nI (i + 1) from nI_1 _]) ?_
                  refine q_goto 9 dX10_best_167 rfl ?_
                  have est : bsM (shuM (z_NW S)) N (i + 1) = ((bsM (shuM (z_NW S)) N i).1, (bsM (shuM (z_NW S)) N i).2) := by
                    rw [bsM, hval]
                    rw [if_pos c141]
                  refine wp_fg (L2 := [some (.ref 26), some (.int (1)), some (.int ((bsM (shuM (z_NW S)) N i).1)), some (.int ((bsM (shuM (z_NW S)) N i).2)), some (.int (nI (i + 1))), none, none]) ⟨rfl, rfl, rfl, rfl, rfl, trivial⟩ ?_
                  refine wp_L (L2 := [some (.ref 26), some (.int (1)), some (.int ((bsM (shuM (z_NW S)) N (i + 1)).1)), some (.int ((bsM (shuM (z_NW S)) N (i + 1)).2)), some (.int (nI (i + 1))), none, none]) (by rw [est]) ?_
                  exact ih (i + 1) _ _ _ _ _ _ (by omega)
                · refine q_iload dX10_best_157 rfl ?_
                  refine q_goto 163 dX10_best_159 rfl ?_
                  refine q_ist3 dX10_best_163 (Nat.le_of_ble_eq_true rfl) rfl ?_
                  refine q_iinc4 (k9 := 1) dX10_best_164 rfl (Nat.le_of_ble_eq_true rfl) rfl ?_
                  refine wp_L (L2 := [some (.ref 26), some (.int (1)), some (.int ((bsM (shuM (z_NW S)) N i).1)), some (.int ((recM t2 N))), some (.int (nI (i + 1))), some (.int ((((z_NW S) ((1 + (2 * i)))) + 5))), some (.int ((recM t2 N)))]) (by rw [show nI i + 1 = nI (i + 1) from nI_1 _]) ?_
                  refine q_goto 9 dX10_best_167 rfl ?_
                  first | exact absurd c141 c154 | exact absurd c154 c141
              · refine q_iload dX10_best_144 rfl ?_
                refine q_goto 150 dX10_best_146 rfl ?_
                refine q_ist2 dX10_best_150 (Nat.le_of_ble_eq_true rfl) rfl ?_
                refine q_iload dX10_best_151 rfl ?_
                refine q_iload_n dX10_best_153 rfl ?_
                refine q_icmp_le 162 dX10_best_154 rfl (fun c154 => ?_) (fun c154 => ?_)
                · refine q_iload_n dX10_best_162 rfl ?_
                  refine q_ist3 dX10_best_163 (Nat.le_of_ble_eq_true rfl) rfl ?_
                  refine q_iinc4 (k9 := 1) dX10_best_164 rfl (Nat.le_of_ble_eq_true rfl) rfl ?_
                  refine wp_L (L2 := [some (.ref 26), some (.int (1)), some (.int (nI i)), some (.int ((bsM (shuM (z_NW S)) N i).2)), some (.int (nI (i + 1))), some (.int ((((z_NW S) ((1 + (2 * i)))) + 5))), some (.int ((recM t2 N)))]) (by rw [show nI i + 1 = nI (i + 1) from nI_1 _]) ?_
                  refine q_goto 9 dX10_best_167 rfl ?_
                  first | exact absurd c141 c154 | exact absurd c154 c141
                · refine q_iload dX10_best_157 rfl ?_
                  refine q_goto 163 dX10_best_159 rfl ?_
                  refine q_ist3 dX10_best_163 (Nat.le_of_ble_eq_true rfl) rfl ?_
                  refine q_iinc4 (k9 := 1) dX10_best_164 rfl (Nat.le_of_ble_eq_true rfl) rfl ?_
                  refine wp_L (L2 := [some (.ref 26), some (.int (1)), some (.int (nI i)), some (.int ((recM t2 N))), some (.int (nI (i + 1))), some (.int ((((z_NW S) ((1 + (2 * i)))) + 5))), some (.int ((recM t2 N)))]) (by rw [show nI i + 1 = nI (i + 1) from nI_1 _]) ?_
                  refine q_goto 9 dX10_best_167 rfl ?_
                  have est : bsM (shuM (z_NW S)) N (i + 1) = (nI i, (recM t2 N)) := by
                    rw [bsM, hval]
                    rw [if_neg c141]
                  refine wp_fg (L2 := [some (.ref 26), some (.int (1)), some (.int (nI i)), some (.int ((recM t2 N))), some (.int (nI (i + 1))), none, none]) ⟨rfl, rfl, rfl, rfl, rfl, trivial⟩ ?_
                  refine wp_L (L2 := [some (.ref 26), some (.int (1)), some (.int ((bsM (shuM (z_NW S)) N (i + 1)).1)), some (.int ((bsM (shuM (z_NW S)) N (i + 1)).2)), some (.int (nI (i + 1))), none, none]) (by rw [est]) ?_
                  exact ih (i + 1) _ _ _ _ _ _ (by omega)
set_option maxRecDepth 100000 in
set_option maxHeartbeats 4000000 in
theorem c_X10_best_1 {g : G0} (hG : Gd g) (S : SS)  (N : Nat) (h1 : (z_NW S) 0 = nI N) (h2 : N ≤ 6) (h3 : ∀ i, i < N → svOk (shuM (z_NW S) i) N) : ct g mX10_best [.ref 26, .int 1] (mixW g S) (fun v w1 => v = some (.int (bsM (shuM (z_NW S)) N N).1) ∧ ∃ tr mx rt mo u l, w1 = mixW g (s_UP (s_LO (s_TR (s_MX (s_RT (s_MO S mo) rt) mx) tr) l) u)) (fun _ _ => False) := by
  refine ct_of hG [some (.ref 26), some (.int (1)), none, none, none, none, none] rfl rfl rfl (Nat.le_of_ble_eq_true rfl) (fun h => ?_) rfl
  refine q_bipush (v := (-9)) dX10_best_0 rfl ?_
  refine q_ist2 dX10_best_2 (Nat.le_of_ble_eq_true rfl) rfl ?_
  refine q_bipush (v := (-9)) dX10_best_3 rfl ?_
  refine q_ist3 dX10_best_5 (Nat.le_of_ble_eq_true rfl) rfl ?_
  refine q_iconst (v := 0) dX10_best_6 rfl ?_
  refine q_ist4 dX10_best_7 (Nat.le_of_ble_eq_true rfl) rfl ?_
  refine wp_w (w2 := mixW g (s_UP (s_LO (s_TR (s_MX (s_RT (s_MO S (z_MO S)) (z_RT S)) (z_MX S)) (z_TR S)) (z_LO S)) (z_UP S))) (by rw [se_MO, se_RT, se_MX, se_TR, se_LO, se_UP]) ?_
  refine wp_L (L2 := [some (.ref 26), some (.int (1)), some (.int ((bsM (shuM (z_NW S)) N 0).1)), some (.int ((bsM (shuM (z_NW S)) N 0).2)), some (.int (nI 0)), none, none]) rfl ?_
  refine l_X10_best_1 hG S N h1 h2 h3 (fun tr mx rt mo u l => ?_) N 0 _ _ _ _ _ _ (by omega)
  refine q_iload_n dX10_best_170 rfl ?_
  exact q_iret dX10_best_171 rfl ⟨rfl, _, _, _, _, _, _, rfl⟩
