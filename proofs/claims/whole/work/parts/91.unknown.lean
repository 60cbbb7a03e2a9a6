/-! a recovery changed: trials, unknowns -/
def un (r : Nat → Nat) (k x : Nat) : Nat → Nat := fun j => if j = k then x else r j
theorem un_self (r : Nat → Nat) (k x : Nat) : un r k x k = x := by unfold un; rw [if_pos rfl]
theorem un_ne (r : Nat → Nat) {k j : Nat} (x : Nat) (h : ¬ j = k) : un r k x j = r j := by unfold un; rw [if_neg h]
section
variable {f g : Nat → Int32} {N fc : Nat} {w r t : Nat → Nat}
theorem RS.setr (h : RS f g N fc w r t) {k x : Nat} (hk : k < 2 * N) (hx : x ≤ 100) : RS (upd f (4 + k) (nI x)) (upd g (1 + k) (nI x)) N fc w (un r k x) t := by
  obtain ⟨h1, h2, h3, h4, h5, h6, h7⟩ := h
  refine ⟨h1, h2, ⟨?_, ?_⟩, ⟨?_, ?_⟩, fun d hd => ⟨(h5 d hd).1, ?_, ?_⟩, fun j hj => ?_, fun j hj => ⟨(h7 j hj).1, ?_, ?_⟩⟩
  · rw [pk_un (by omega)]; exact h3.1
  · rw [pk_un (by omega)]; exact h3.2
  · rw [pk_un (by omega)]; exact h4.1
  · rw [pk_un (by omega)]; exact h4.2
  · rw [pk_un (by omega)]; exact (h5 d hd).2.1
  · rw [pk_un (by omega)]; exact (h5 d hd).2.2
  · by_cases z : j = k
    · rw [z, un_self]
      exact ⟨hx, by simp only [upd, if_pos], by simp only [upd, if_pos]⟩
    · rw [un_ne _ _ z, pk_un (by omega), pk_un (by omega)]
      exact h6 j hj
  · rw [pk_un (by omega)]; exact (h7 j hj).2.1
  · rw [pk_un (by omega)]; exact (h7 j hj).2.2
theorem qD_un {c d x : Nat} (hc : c < N) (hd : d < 2) : ∀ i, qD N (un r (2 * c + d) x) t d i = uq (qD N r t d) c ((x : Int), tq N (t (2 * c)), 100 - (x : Int), tq N (t (2 * c + 1))) i := by
  intro i
  by_cases z : i = c
  · rw [z, uq_self, qD_in hc, un_self]
  · rw [uq_ne _ _ z]
    by_cases y : i < N
    · rw [qD_in y, qD_in y, un_ne _ _ (by omega)]
    · rw [qD_out y, qD_out y]
theorem qD_un2 {c d e x : Nat} (hd : d < 2) (he : e < 2) (hn : ¬ e = d) : ∀ i, qD N (un r (2 * c + d) x) t e i = qD N r t e i := by
  intro i
  by_cases y : i < N
  · rw [qD_in y, qD_in y, un_ne _ _ (by omega)]
  · rw [qD_out y, qD_out y]
theorem XX_un {s go c d e x : Nat} (hc : c < N) (hc6 : c < 6) (hd : d < 2) (he : e < 2) : XX s go (qD N (un r (2 * c + d) x) t e) = XX s go (qD N (un r (2 * c + d) 0) t e) + (x : Int) * (XX s go (qD N (un r (2 * c + d) 1) t e) - XX s go (qD N (un r (2 * c + d) 0) t e)) := by
  by_cases z : e = d
  · subst z
    rw [XX_congr (fun i _ => qD_un (r := r) (t := t) (x := x) hc hd i), XX_congr (fun i _ => qD_un (r := r) (t := t) (x := 0) hc hd i), XX_congr (fun i _ => qD_un (r := r) (t := t) (x := 1) hc hd i)]
    exact XX_aff _ hc6 _ _ _
  · rw [XX_congr (fun i _ => qD_un2 (N := N) (r := r) (t := t) (c := c) (x := x) hd he z i), XX_congr (fun i _ => qD_un2 (N := N) (r := r) (t := t) (c := c) (x := 0) hd he z i), XX_congr (fun i _ => qD_un2 (N := N) (r := r) (t := t) (c := c) (x := 1) hd he z i), Int.sub_self, Int.mul_zero, Int.add_zero]
theorem nu_un {c d e x : Nat} (hN : N ≤ 6) (hc : c < N) (hd : d < 2) (he : e < 2) : nuI N fc (un r (2 * c + d) x) t e 8 = nuI N fc (un r (2 * c + d) 0) t e 8 + (x : Int) * (nuI N fc (un r (2 * c + d) 1) t e 8 - nuI N fc (un r (2 * c + d) 0) t e 8) := by
  unfold nuI
  by_cases z : fc < N
  · simp only [if_pos z, if_neg (show ¬ 8 < 6 by decide)]
    exact XX_un hc (by omega) hd he
  · simp only [if_neg z, if_neg (show ¬ 9 = 8 by decide)]
    omega
theorem exA_I {a b : Int} {x : Nat} (hx : x < 2 ^ 31) : exA (Int64.ofInt a) (Int64.ofInt b) x = Int64.ofInt (a + (x : Int) * (b - a)) := by
  unfold exA
  rw [nI_l hx, ← oi_n, oi_sub, oi_mul, oi_add]
theorem RS.aff (h : RS f g N fc w r t) {c d e x : Nat} (hc : c < N) (hd : d < 2) (he : e < 2) (hx : x ≤ 100) : exA (DD (upd f (4 + 2 * c + d) 0) e N (fun k => tq N (t k))) (DD (upd f (4 + 2 * c + d) 1) e N (fun k => tq N (t k))) x = DD (upd f (4 + 2 * c + d) (nI x)) e N (fun k => tq N (t k)) ∧ exA (NN (upd f (4 + 2 * c + d) 0) e 8 (tq N fc) N (fun k => tq N (t k))) (NN (upd f (4 + 2 * c + d) 1) e 8 (tq N fc) N (fun k => tq N (t k))) x = NN (upd f (4 + 2 * c + d) (nI x)) e 8 (tq N fc) N (fun k => tq N (t k)) := by
  have hN := h.1
  have h0 := h.setr (k := 2 * c + d) (x := 0) (by omega) (by omega)
  have h1 := h.setr (k := 2 * c + d) (x := 1) (by omega) (by omega)
  have h2 := h.setr (k := 2 * c + d) (x := x) (by omega) hx
  rw [← Nat.add_assoc] at h0 h1 h2
  rw [show (0 : Int32) = nI 0 from nI_0.symm, show (1 : Int32) = nI 1 from rfl]
  rw [h0.den he, h1.den he, h2.den he, h0.num he (Or.inr (Or.inl rfl)), h1.num he (Or.inr (Or.inl rfl)), h2.num he (Or.inr (Or.inl rfl)), exA_I (by omega), exA_I (by omega)]
  exact ⟨congrArg Int64.ofInt (XX_un hc (by omega) hd he).symm, congrArg Int64.ofInt (nu_un hN hc hd he).symm⟩
theorem RS.uok (h : RS f g N fc w r t) {c d x : Nat} (hc : c < N) (hd : d < 2) (hx : x ≤ 100) : uOk (upd f (4 + 2 * c + d) 0) (upd f (4 + 2 * c + d) 1) N (fun k => tq N (t k)) x ↔ (SM (upd g (1 + 2 * c + d) (nI x)) N 0 ∧ SM (upd g (1 + 2 * c + d) (nI x)) N 1) := by
  have h2 := h.setr (k := 2 * c + d) (x := x) (by omega) hx
  rw [← Nat.add_assoc, ← Nat.add_assoc] at h2
  unfold uOk
  rw [(h.aff hc hd (e := 0) (by decide) hx).1, (h.aff hc hd (e := 1) (by decide) hx).1, h2.pos (by decide), h2.pos (by decide)]
theorem RS.urec (h : RS f g N fc w r t) {c d x : Nat} (hc : c < N) (hd : d < 2) (hx : x ≤ 100) (hs : SM (upd g (1 + 2 * c + d) (nI x)) N 0) : rOk (upd g (1 + 2 * c + d) (nI x)) N ∧ uRec (f 2) (upd f (4 + 2 * c + d) 0) (upd f (4 + 2 * c + d) 1) (tq N fc) N (fun k => tq N (t k)) x = recM (upd g (1 + 2 * c + d) (nI x)) N := by
  have h2 := h.setr (k := 2 * c + d) (x := x) (by omega) hx
  rw [← Nat.add_assoc, ← Nat.add_assoc] at h2
  obtain ⟨k1, k2⟩ := h2.rec hs
  refine ⟨k1, ?_⟩
  unfold uRec
  rw [(h.aff hc hd (e := 0) (by decide) hx).1, (h.aff hc hd (e := 0) (by decide) hx).2, ← k2, pk_un (by omega)]
theorem RS.ugra (h : RS f g N fc w r t) {c d x : Nat} (hc : c < N) (hd : d < 2) (hx : x ≤ 100) (hs : SM (upd g (1 + 2 * c + d) (nI x)) N 0) (hs1 : SM (upd g (1 + 2 * c + d) (nI x)) N 1) : gOk (upd g (1 + 2 * c + d) (nI x)) N ∧ uGra (f 2) (f 3) (upd f (4 + 2 * c + d) 0) (upd f (4 + 2 * c + d) 1) (tq N fc) N (fun k => tq N (t k)) x = graM (upd g (1 + 2 * c + d) (nI x)) N := by
  have h2 := h.setr (k := 2 * c + d) (x := x) (by omega) hx
  rw [← Nat.add_assoc, ← Nat.add_assoc] at h2
  obtain ⟨k1, k2⟩ := h2.gra hs hs1
  refine ⟨k1, ?_⟩
  unfold uGra
  rw [(h.aff hc hd (e := 0) (by decide) hx).1, (h.aff hc hd (e := 0) (by decide) hx).2, (h.aff hc hd (e := 1) (by decide) hx).1, (h.aff hc hd (e := 1) (by decide) hx).2, ← k2, pk_un (by omega), pk_un (by omega)]
theorem stM_0 {f : Nat → Int32} {N : Nat} : stM f N = 0 ↔ ¬ (SM f N 0 ∧ SM f N 1) := by
  unfold stM
  by_cases z : SM f N 0 ∧ SM f N 1
  · rw [pI_t z]
    exact ⟨fun y => absurd y (by decide), fun y => absurd z y⟩
  · rw [pI_f z]
    exact ⟨fun _ => z, fun _ => rfl⟩
theorem RS.sv (h : RS f g N fc w r t) : svOk g N := fun z => (h.rec (Classical.byContradiction (fun y => z (stM_0.mpr (fun q => y q.1))))).1
theorem RS.mv (h : RS f g N fc w r t) : mvOk g N := fun z => by
  have hs : SM g N 0 ∧ SM g N 1 := Classical.byContradiction (fun y => z (stM_0.mpr y))
  exact ⟨(h.rec hs.1).1, (h.gra hs.1 hs.2).1⟩
theorem RS.sv_u (h : RS f g N fc w r t) {c d : Nat} (hc : c < N) (hd : d < 2) : ∀ i, i ≤ 100 → svOk (upd g (1 + 2 * c + d) (nI i)) N := fun i hi => by
  have h2 := h.setr (k := 2 * c + d) (x := i) (by omega) hi
  rw [← Nat.add_assoc, ← Nat.add_assoc] at h2
  exact h2.sv
theorem RS.mv_u (h : RS f g N fc w r t) {c d : Nat} (hc : c < N) (hd : d < 2) : ∀ i, i ≤ 100 → mvOk (upd g (1 + 2 * c + d) (nI i)) N := fun i hi => by
  have h2 := h.setr (k := 2 * c + d) (x := i) (by omega) hi
  rw [← Nat.add_assoc, ← Nat.add_assoc] at h2
  exact h2.mv
/-- recoveryFor -/
theorem RS.recFor (h : RS f g N fc w r t) {c p : Nat} (hc : c < N) : ∀ n, n ≤ 101 → rfF (fun x => uOk (upd f (4 + 2 * c + 0) 0) (upd f (4 + 2 * c + 0) 1) N (fun k => tq N (t k)) x ∧ nI p ≤ uRec (f 2) (upd f (4 + 2 * c + 0) 0) (upd f (4 + 2 * c + 0) 1) (tq N fc) N (fun k => tq N (t k)) x) n = rfM g N (1 + 2 * c) p n := by
  intro n
  induction n with
  | zero => intro _; rw [rfF, rfM]
  | succ n ih =>
    intro hn
    have hu := h.uok (d := 0) (x := 100 - n) hc (by decide) (by omega)
    rw [rfM, ← ih (by omega)]
    by_cases z : SM (upd g (1 + 2 * c) (nI (100 - n))) N 0 ∧ SM (upd g (1 + 2 * c) (nI (100 - n))) N 1
    · have hr := (h.urec (d := 0) (x := 100 - n) hc (by decide) (by omega) z.1).2
      rw [if_neg (fun y => stM_0.mp y z)]
      by_cases y : recM (upd g (1 + 2 * c) (nI (100 - n))) N < nI p
      · rw [if_pos y]
        refine rfF_f (fun q => ?_)
        have q2 := q.2
        rw [hr] at q2
        exact absurd y (Int32.not_lt.mpr q2)
      · rw [if_neg y]
        exact rfF_t ⟨hu.mpr z, by rw [hr]; exact Int32.not_lt.mp y⟩
    · rw [if_pos (stM_0.mpr z)]
      exact rfF_f (fun q => z (hu.mp q.1))
theorem ms_iff {g : Nat → Int32} {N : Nat} {mw ms : Nat → Int32} : ∀ K, ¬ msM g N mw ms K = 0 ↔ ((SM g N 0 ∧ SM g N 1) ∧ ∀ i, i < K → (if mw i = 0 then recM g N else graM g N) = ms i) := by
  intro K
  induction K with
  | zero =>
    rw [msM, stM_0]
    exact ⟨fun z => ⟨Classical.byContradiction z, fun i hi => absurd hi (by omega)⟩, fun z y => y z.1⟩
  | succ K ih =>
    rw [msM]
    by_cases z : msM g N mw ms K = 0
    · rw [if_pos z]
      refine ⟨fun y => absurd rfl y, fun y => ?_⟩
      exact absurd z (ih.mpr ⟨y.1, fun i hi => y.2 i (by omega)⟩)
    · rw [if_neg z]
      have hk := ih.mp z
      by_cases y : (if mw K = 0 then recM g N else graM g N) = ms K
      · rw [pI_t y]
        refine ⟨fun _ => ⟨hk.1, fun i hi => ?_⟩, fun _ => by decide⟩
        by_cases x : i = K
        · rw [x]; exact y
        · exact hk.2 i (by omega)
      · rw [pI_f y]
        exact ⟨fun q => absurd rfl q, fun q => absurd (q.2 K (by omega)) y⟩
/-- possibleRecoveries; hm: the measurements are the same -/
theorem RS.poss (h : RS f g N fc w r t) {c d q K : Nat} {qk qv mw ms : Nat → Int32} (hc : c < N) (hd : d < 2) (hm : ∀ R G : Int32, agF qk qv R G q ↔ ∀ i, i < K → (if mw i = 0 then R else G) = ms i) : ∀ n, n ≤ 101 → ctF (fun x => uOk (upd f (4 + 2 * c + d) 0) (upd f (4 + 2 * c + d) 1) N (fun k => tq N (t k)) x ∧ agF qk qv (uRec (f 2) (upd f (4 + 2 * c + d) 0) (upd f (4 + 2 * c + d) 1) (tq N fc) N (fun k => tq N (t k)) x) (uGra (f 2) (f 3) (upd f (4 + 2 * c + d) 0) (upd f (4 + 2 * c + d) 1) (tq N fc) N (fun k => tq N (t k)) x) q) n = prC g N (1 + 2 * c + d) mw ms K n := by
  intro n
  induction n with
  | zero => intro _; rw [ctF, prC]
  | succ n ih =>
    intro hn
    have hu := h.uok (x := n) hc hd (by omega)
    rw [prC, ← ih (by omega)]
    by_cases z : SM (upd g (1 + 2 * c + d) (nI n)) N 0 ∧ SM (upd g (1 + 2 * c + d) (nI n)) N 1
    · have hr := (h.urec (x := n) hc hd (by omega) z.1).2
      have hg := (h.ugra (x := n) hc hd (by omega) z.1 z.2).2
      by_cases y : msM (upd g (1 + 2 * c + d) (nI n)) N mw ms K = 0
      · rw [if_pos y, Int32.add_zero]
        refine ctF_f (fun q => ?_)
        refine (ms_iff K).mpr ⟨z, ?_⟩ y
        have q2 := q.2
        rw [hr, hg] at q2
        exact (hm _ _).mp q2
      · rw [if_neg y]
        refine ctF_t ⟨hu.mpr z, ?_⟩
        rw [hr, hg]
        exact (hm _ _).mpr ((ms_iff K).mp y).2
    · have y : msM (upd g (1 + 2 * c + d) (nI n)) N mw ms K = 0 := Classical.byContradiction (fun y => z ((ms_iff K).mp y).1)
      rw [if_pos y, Int32.add_zero]
      exact ctF_f (fun q => z (hu.mp q.1))
theorem RS.val (h : RS f g N fc w r t) : rchF f (tq N fc) N (fun k => tq N (t k)) = valM g N := by
  unfold rchF valM
  have e : (0 < DD f 0 N (fun k => tq N (t k)) ∧ 0 < DD f 1 N (fun k => tq N (t k))) ↔ (SM g N 0 ∧ SM g N 1) := by rw [h.pos (by decide), h.pos (by decide)]
  by_cases z : SM g N 0 ∧ SM g N 1
  · rw [if_neg (fun y => stM_0.mp y z), if_pos (pI_t (e.mpr z)), (h.rec z.1).2]
  · rw [if_pos (stM_0.mpr z), if_neg (by rw [pI_f (fun y => z (e.mp y))]; decide)]
theorem best_eq {ch tri : Nat → Nat → Int32} {ft N : Nat} {tg : Nat → Nat} (h : ∀ i, i < N → rchF (ch i) ft N tg = valM (tri i) N) : ∀ i, i ≤ N → bcR ch ft N tg i = bsM tri N i := by
  intro i
  induction i with
  | zero => intro _; rw [bcR, bsM]
  | succ i ih => intro hi; rw [bcR, bsM, ih (by omega), h i (by omega)]
theorem RS.imp (h : RS f g N fc w r t) {c : Nat} (hc : c < N) : RS (ch0 f c) (impM g c) N fc w (un r (2 * c) (min 100 (r (2 * c) + 5))) t := by
  have h1 := h.2.2.2.2.2.1 (2 * c) (by omega)
  have h2 := h.setr (k := 2 * c) (x := min 100 (r (2 * c) + 5)) (by omega) (by omega)
  have e1 : minI 100 (nI (r (2 * c)) + 5) = nI (min 100 (r (2 * c) + 5)) := by
    rw [show (5 : Int32) = nI 5 from rfl, show (100 : Int32) = nI 100 from rfl, nI_add]
    unfold minI
    by_cases z : 100 ≤ r (2 * c) + 5
    · rw [if_pos ((nI_leI (by omega) (by omega)).mpr z), Nat.min_eq_left z]
    · rw [if_neg (fun y => z ((nI_leI (by omega) (by omega)).mp y)), Nat.min_eq_right (by omega)]
  have e2 : upI (nI (r (2 * c))) = nI (min 100 (r (2 * c) + 5)) := by
    unfold upI
    rw [show (5 : Int32) = nI 5 from rfl, show (100 : Int32) = nI 100 from rfl, nI_add]
    by_cases z : r (2 * c) + 5 ≤ 100
    · rw [if_pos ((nI_leI (by omega) (by omega)).mpr z), Nat.min_eq_right z]
    · rw [if_neg (fun y => z ((nI_leI (by omega) (by omega)).mp y)), Nat.min_eq_left (by omega)]
  have e3 : ch0 f c = upd f (4 + 2 * c) (nI (min 100 (r (2 * c) + 5))) := by
    unfold ch0
    rw [Nat.add_zero, h1.2.1, e1]
  have e4 : impM g c = upd g (1 + 2 * c) (nI (min 100 (r (2 * c) + 5))) := by
    unfold impM
    rw [h1.2.2, e2]
    funext j
    by_cases z : j = 1 + 2 * c + 1
    · rw [z]
      simp only [upd, if_pos]
      rw [if_neg (by omega)]
    · rw [pk_un z]
  rw [e3, e4]
  exact h2
theorem RS.shu (h : RS f g N fc w r t) {c : Nat} (hc : c < N) : RS (ch1 f c) (shuM g c) N fc w (un (un r (2 * c) 0) (2 * c + 1) 0) t := by
  have h2 := (h.setr (k := 2 * c) (x := 0) (by omega) (by omega)).setr (k := 2 * c + 1) (x := 0) (by omega) (by omega)
  rw [nI_0] at h2
  exact h2
theorem RS.bestI (h : RS f g N fc w r t) : bcR (ch0 f) (tq N fc) N (fun k => tq N (t k)) N = bsM (impM g) N N := best_eq (fun i hi => (h.imp hi).val) N (Nat.le_refl N)
theorem RS.bestS (h : RS f g N fc w r t) : bcR (ch1 f) (tq N fc) N (fun k => tq N (t k)) N = bsM (shuM g) N N := best_eq (fun i hi => (h.shu hi).val) N (Nat.le_refl N)
end
