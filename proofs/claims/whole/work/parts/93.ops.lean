/-! the other calls on a row; rings of rows; measurements -/
theorem pushF_o {f : Nat → Int32} {n j : Nat} {a b c d : Int32} (h : ¬ j = 0) (h1 : ¬ j = 4 + 2 * n) (h2 : ¬ j = 4 + 2 * n + 1) (h3 : ¬ j = 16 + 2 * n) (h4 : ¬ j = 16 + 2 * n + 1) (h5 : ¬ j = 28 + 2 * n) (h6 : ¬ j = 28 + 2 * n + 1) : pushF f n a b c d j = f j := by
  unfold pushF
  rw [pk_un (by omega), pk_un (by omega), pk_un (by omega), pk_un (by omega), pk_un (by omega), pk_un (by omega), pk_un (by omega)]
theorem pushM_o {f : Nat → Int32} {n j : Nat} {a b c d : Int32} (h : ¬ j = 0) (h1 : ¬ j = 1 + 2 * n) (h2 : ¬ j = 1 + 2 * n + 1) (h3 : ¬ j = 13 + 2 * n) (h4 : ¬ j = 13 + 2 * n + 1) : pushM f n a b c d j = f j := by
  unfold pushM
  rw [pk_un (by omega), pk_un (by omega), pk_un (by omega), pk_un (by omega), pk_un (by omega)]
theorem pushF_v {f : Nat → Int32} {n : Nat} {a b c d : Int32} : pushF f n a b c d 0 = nI (n + 1) ∧ pushF f n a b c d (4 + 2 * n) = a ∧ pushF f n a b c d (4 + (2 * n + 1)) = b ∧ pushF f n a b c d (16 + 2 * n) = c ∧ pushF f n a b c d (16 + (2 * n + 1)) = d ∧ pushF f n a b c d (28 + 2 * n) = 0 ∧ pushF f n a b c d (28 + (2 * n + 1)) = 0 := by
  have hn : n ≤ n := Nat.le_refl n
  refine ⟨?_, ?_, ?_, ?_, ?_, ?_, ?_⟩
  · unfold pushF; rw [upd_self]; exact nI_1 n
  all_goals (unfold pushF; simp only [upd, Nat.add_zero]; repeat (first | rw [if_pos trivial] | rw [if_pos (by omega)] | rw [if_neg (by omega)]))
theorem pushM_v {f : Nat → Int32} {n : Nat} {a b c d : Int32} (hn : n < 6) : pushM f n a b c d 0 = nI (n + 1) ∧ pushM f n a b c d (1 + 2 * n) = a ∧ pushM f n a b c d (1 + (2 * n + 1)) = b ∧ pushM f n a b c d (13 + 2 * n) = c ∧ pushM f n a b c d (13 + (2 * n + 1)) = d := by
  refine ⟨?_, ?_, ?_, ?_, ?_⟩
  · unfold pushM; rw [upd_self]; exact nI_1 n
  all_goals (unfold pushM; simp only [upd]; repeat (first | rw [if_pos trivial] | rw [if_pos (by omega)] | rw [if_neg (by omega)]))
theorem un_2 (r : Nat → Nat) (n a b : Nat) : un (un r (2 * n) a) (2 * n + 1) b (2 * n) = a ∧ un (un r (2 * n) a) (2 * n + 1) b (2 * n + 1) = b := by
  rw [un_self, un_ne _ _ (by omega), un_self]; exact ⟨rfl, rfl⟩
section
variable {f g : Nat → Int32} {N fc : Nat} {w r t : Nat → Nat}
theorem RR.congr {f2 g2 : Nat → Int32} (h : RR f g N fc w r t) (hf : ∀ j, j < 44 → f2 j = f j) (hg : ∀ j, j < 44 → g2 j = g j) : RR f2 g2 N fc w r t := by
  have hN := h.1.1
  refine ⟨h.1.congr (fun j hj => hf j (by omega)) (fun j hj => hg j (by omega)), fun k hk => ?_, fun k hk hk2 => ?_, fun k hk => ?_⟩
  · rw [hf _ (by omega), hg _ (by omega)]; exact h.2.1 k hk
  · rw [hg _ (by omega)]; exact h.2.2.1 k hk hk2
  · rw [hf _ (by omega), hg _ (by omega)]; exact h.2.2.2 k hk
theorem RR.push (h : RR f g N fc w r t) (hN : N < 6) {a b x y : Nat} (ha : a ≤ 100) (hb : b ≤ 100) (hx : okG x) (hy : okG y) : RR (pushF f N (nI a) (nI b) (nI x) (nI y)) (pushM g N (nI a) (nI b) (nI x) (nI y)) (N + 1) fc w (un (un r (2 * N) a) (2 * N + 1) b) (un (un t (2 * N) x) (2 * N + 1) y) := by
  obtain ⟨⟨h1, h2, h3, h4, h5, h6, h7⟩, c1, c2, c3⟩ := h
  have vF := @pushF_v f N (nI a) (nI b) (nI x) (nI y)
  have vM := @pushM_v g N (nI a) (nI b) (nI x) (nI y) hN
  refine ⟨⟨by omega, h2, ⟨vF.1, vM.1⟩, ⟨?_, ?_⟩, fun d hd => ⟨(h5 d hd).1, ?_, ?_⟩, fun k hk => ?_, fun k hk => ?_⟩, fun k hk => ?_, fun k hk hk2 => ?_, fun k hk => ?_⟩
  · rw [pushF_o (by omega) (by omega) (by omega) (by omega) (by omega) (by omega) (by omega)]; exact h4.1
  · rw [pushM_o (by omega) (by omega) (by omega) (by omega) (by omega)]; exact h4.2
  · rw [pushF_o (by omega) (by omega) (by omega) (by omega) (by omega) (by omega) (by omega)]; exact (h5 d hd).2.1
  · rw [pushM_o (by omega) (by omega) (by omega) (by omega) (by omega)]; exact (h5 d hd).2.2
  · by_cases z : k = 2 * N
    · rw [z, (un_2 r N a b).1]; exact ⟨ha, vF.2.1, vM.2.1⟩
    · by_cases z2 : k = 2 * N + 1
      · rw [z2, (un_2 r N a b).2]; exact ⟨hb, vF.2.2.1, vM.2.2.1⟩
      · rw [un_ne _ _ z2, un_ne _ _ z, pushF_o (by omega) (by omega) (by omega) (by omega) (by omega) (by omega) (by omega), pushM_o (by omega) (by omega) (by omega) (by omega) (by omega)]
        exact h6 k (by omega)
  · by_cases z : k = 2 * N
    · rw [z, (un_2 t N x y).1]; exact ⟨hx, vF.2.2.2.1, vM.2.2.2.1⟩
    · by_cases z2 : k = 2 * N + 1
      · rw [z2, (un_2 t N x y).2]; exact ⟨hy, vF.2.2.2.2.1, vM.2.2.2.2⟩
      · rw [un_ne _ _ z2, un_ne _ _ z, pushF_o (by omega) (by omega) (by omega) (by omega) (by omega) (by omega) (by omega), pushM_o (by omega) (by omega) (by omega) (by omega) (by omega)]
        exact h7 k (by omega)
  · rw [pushM_o (by omega) (by omega) (by omega) (by omega) (by omega)]
    by_cases z : k = 2 * N
    · rw [z, vF.2.2.2.2.2.1, c2 _ (by omega) (by omega)]
    · by_cases z2 : k = 2 * N + 1
      · rw [z2, vF.2.2.2.2.2.2, c2 _ (by omega) (by omega)]
      · rw [pushF_o (by omega) (by omega) (by omega) (by omega) (by omega) (by omega) (by omega)]
        exact c1 k (by omega)
  · rw [pushM_o (by omega) (by omega) (by omega) (by omega) (by omega)]
    exact c2 k (by omega) hk2
  · rw [pushF_o (by omega) (by omega) (by omega) (by omega) (by omega) (by omega) (by omega), pushM_o (by omega) (by omega) (by omega) (by omega) (by omega)]
    exact c3 k hk
theorem popM_o {g : Nat → Int32} {c j : Nat} (h : ¬ j = 0) (h1 : ¬ j = 1 + 2 * c) (h2 : ¬ j = 1 + 2 * c + 1) (h3 : ¬ j = 13 + 2 * c) (h4 : ¬ j = 13 + 2 * c + 1) (h5 : ¬ j = 28 + 2 * c) (h6 : ¬ j = 28 + 2 * c + 1) : popM g c j = g j := by
  unfold popM
  rw [pk_un (by omega), pk_un (by omega), pk_un (by omega), pk_un (by omega), pk_un (by omega), pk_un (by omega), pk_un (by omega)]
theorem popM_v {g : Nat → Int32} {c : Nat} : popM g c 0 = nI c ∧ popM g c (28 + 2 * c) = 0 ∧ popM g c (28 + (2 * c + 1)) = 0 := by
  refine ⟨?_, ?_, ?_⟩
  all_goals (unfold popM; simp only [upd, Nat.add_zero]; repeat (first | rw [if_pos trivial] | rw [if_pos (by omega)] | rw [if_neg (by omega)]))
theorem RR.pop (h : RR f g N fc w r t) (h0 : 0 < N) : RR (upd f 0 (nI N - 1)) (popM g (N - 1)) (N - 1) fc w r t := by
  obtain ⟨⟨h1, h2, h3, h4, h5, h6, h7⟩, c1, c2, c3⟩ := h
  have vM := @popM_v g (N - 1)
  refine ⟨⟨by omega, h2, ⟨?_, vM.1⟩, ⟨?_, ?_⟩, fun d hd => ⟨(h5 d hd).1, ?_, ?_⟩, fun k hk => ?_, fun k hk => ?_⟩, fun k hk => ?_, fun k hk hk2 => ?_, fun k hk => ?_⟩
  · rw [upd_self]
    have := nI_pred (N - 1)
    rw [show N - 1 + 1 = N by omega] at this
    exact this
  · rw [pk_un (by omega)]; exact h4.1
  · rw [popM_o (by omega) (by omega) (by omega) (by omega) (by omega) (by omega) (by omega)]; exact h4.2
  · rw [pk_un (by omega)]; exact (h5 d hd).2.1
  · rw [popM_o (by omega) (by omega) (by omega) (by omega) (by omega) (by omega) (by omega)]; exact (h5 d hd).2.2
  · rw [pk_un (by omega), popM_o (by omega) (by omega) (by omega) (by omega) (by omega) (by omega) (by omega)]; exact h6 k (by omega)
  · rw [pk_un (by omega), popM_o (by omega) (by omega) (by omega) (by omega) (by omega) (by omega) (by omega)]; exact h7 k (by omega)
  · rw [pk_un (by omega), popM_o (by omega) (by omega) (by omega) (by omega) (by omega) (by omega) (by omega)]; exact c1 k (by omega)
  · by_cases z : k = 2 * (N - 1)
    · rw [z]; exact vM.2.1
    · by_cases z2 : k = 2 * (N - 1) + 1
      · rw [z2]; exact vM.2.2
      · rw [popM_o (by omega) (by omega) (by omega) (by omega) (by omega) (by omega) (by omega)]; exact c2 k (by omega) hk2
  · rw [pk_un (by omega), popM_o (by omega) (by omega) (by omega) (by omega) (by omega) (by omega) (by omega)]; exact c3 k hk
theorem RR.sett (h : RR f g N fc w r t) {k x : Nat} (hk : k < 2 * N) (hx : okG x) : RR (upd f (16 + k) (nI x)) (upd g (13 + k) (nI x)) N fc w r (un t k x) := by
  obtain ⟨⟨h1, h2, h3, h4, h5, h6, h7⟩, c1, c2, c3⟩ := h
  refine ⟨⟨h1, h2, ⟨?_, ?_⟩, ⟨?_, ?_⟩, fun d hd => ⟨(h5 d hd).1, ?_, ?_⟩, fun j hj => ⟨(h6 j hj).1, ?_, ?_⟩, fun j hj => ?_⟩, fun j hj => ?_, fun j hj hj2 => ?_, fun j hj => ?_⟩
  · rw [pk_un (by omega)]; exact h3.1
  · rw [pk_un (by omega)]; exact h3.2
  · rw [pk_un (by omega)]; exact h4.1
  · rw [pk_un (by omega)]; exact h4.2
  · rw [pk_un (by omega)]; exact (h5 d hd).2.1
  · rw [pk_un (by omega)]; exact (h5 d hd).2.2
  · rw [pk_un (by omega)]; exact (h6 j hj).2.1
  · rw [pk_un (by omega)]; exact (h6 j hj).2.2
  · by_cases z : j = k
    · rw [z, un_self]
      exact ⟨hx, upd_self _ _ _, upd_self _ _ _⟩
    · rw [un_ne _ _ z, pk_un (by omega), pk_un (by omega)]
      exact h7 j hj
  · rw [pk_un (by omega), pk_un (by omega)]; exact c1 j hj
  · rw [pk_un (by omega)]; exact c2 j hj hj2
  · rw [pk_un (by omega), pk_un (by omega)]; exact c3 j hj
theorem RR.feed (h : RR f g N fc w r t) {c a b : Nat} (hc : c ≤ 5) (ha : a ≤ 999) (hb : b ≤ 999) : RR (upd (upd (upd f 1 (nI c)) 2 (nI a)) 3 (nI b)) (upd (upd (upd g 25 (nI c)) 26 (nI a)) 27 (nI b)) N c (fun d => if d = 0 then a else b) r t := by
  obtain ⟨⟨h1, h2, h3, h4, h5, h6, h7⟩, c1, c2, c3⟩ := h
  refine ⟨⟨h1, by omega, ⟨?_, ?_⟩, ⟨?_, ?_⟩, fun d hd => ?_, fun j hj => ⟨(h6 j hj).1, ?_, ?_⟩, fun j hj => ⟨(h7 j hj).1, ?_, ?_⟩⟩, fun j hj => ?_, fun j hj hj2 => ?_, fun j hj => ?_⟩
  · rw [pk_un (by omega), pk_un (by omega), pk_un (by omega)]; exact h3.1
  · rw [pk_un (by omega), pk_un (by omega), pk_un (by omega)]; exact h3.2
  · rw [pk_un (by omega), pk_un (by omega), upd_self]
  · rw [pk_un (by omega), pk_un (by omega), upd_self]
  · match d, hd with
    | 0, _ => exact ⟨ha, by rw [pk_un (by omega)]; exact upd_self _ _ _, by rw [pk_un (by omega)]; exact upd_self _ _ _⟩
    | 1, _ => exact ⟨hb, upd_self _ _ _, upd_self _ _ _⟩
  · rw [pk_un (by omega), pk_un (by omega), pk_un (by omega)]; exact (h6 j hj).2.1
  · rw [pk_un (by omega), pk_un (by omega), pk_un (by omega)]; exact (h6 j hj).2.2
  · rw [pk_un (by omega), pk_un (by omega), pk_un (by omega)]; exact (h7 j hj).2.1
  · rw [pk_un (by omega), pk_un (by omega), pk_un (by omega)]; exact (h7 j hj).2.2
  · rw [pk_un (by omega), pk_un (by omega), pk_un (by omega), pk_un (by omega), pk_un (by omega), pk_un (by omega)]; exact c1 j hj
  · rw [pk_un (by omega), pk_un (by omega), pk_un (by omega)]; exact c2 j hj hj2
  · rw [pk_un (by omega), pk_un (by omega), pk_un (by omega), pk_un (by omega), pk_un (by omega), pk_un (by omega)]; exact c3 j hj
theorem RR.drain (h : RR f g N fc w r t) : RR (zerF f 44) (zerF g 44) N fc w r t ∧ sumC f N = smM g 12 := by
  obtain ⟨hs, c1, c2, c3⟩ := h
  have hN := hs.1
  have zi : ∀ (f : Nat → Int32) j, 28 ≤ j → j < 44 → zerF f 44 j = 0 := fun f j h1 h2 => by unfold zerF; rw [if_pos ⟨h1, h2⟩]
  have zo : ∀ (f : Nat → Int32) j, j < 28 → zerF f 44 j = f j := fun f j h1 => by unfold zerF; rw [if_neg (by omega)]
  refine ⟨⟨hs.congr (fun j hj => zo f j hj) (fun j hj => zo g j hj), fun k hk => ?_, fun k hk hk2 => ?_, fun k hk => ?_⟩, ?_⟩
  · rw [zi _ _ (by omega) (by omega), zi _ _ (by omega) (by omega)]
  · rw [zi _ _ (by omega) (by omega)]
  · rw [zi _ _ (by omega) (by omega), zi _ _ (by omega) (by omega)]
  · have e1 : ∀ i, i ≤ N → sumC f i = smM g (2 * i) := by
      intro i
      induction i with
      | zero => intro _; rfl
      | succ i ih =>
        intro hi
        have a0 := c1 (2 * i) (by omega)
        have a1 := c1 (2 * i + 1) (by omega)
        show sumC f i + (f (28 + 2 * i + 0) + f (28 + 2 * i + 1)) = smM g (2 * i + 1 + 1)
        rw [smM, smM, ih (by omega), Nat.add_zero, Nat.add_assoc 28, a0, a1, Int32.add_assoc]
    have e2 : ∀ m, 2 * N + m ≤ 12 → smM g (2 * N + m) = smM g (2 * N) := by
      intro m
      induction m with
      | zero => intro _; rfl
      | succ m ih =>
        intro hm
        show smM g (2 * N + m + 1) = _
        rw [smM, ih (by omega), c2 _ (by omega) (by omega), Int32.add_zero]
    have e3 := e2 (12 - 2 * N) (by omega)
    rw [show 2 * N + (12 - 2 * N) = 12 by omega] at e3
    rw [e1 N (Nat.le_refl N), e3]
end
/-- two rows of one state -/
def RX (f g : Nat → Int32) : Prop := ∃ N fc w r t, RR f g N fc w r t
theorem RX.congr {f g f2 g2 : Nat → Int32} (h : RX f g) (hf : ∀ j, j < 44 → f2 j = f j) (hg : ∀ j, j < 44 → g2 j = g j) : RX f2 g2 := by
  obtain ⟨N, fc, w, r, t, h⟩ := h
  exact ⟨N, fc, w, r, t, h.congr hf hg⟩
/-- the rows at their start -/
theorem RR_0 {f g : Nat → Int32} {a b : Nat} (ha : a ≤ 999) (hb : b ≤ 999) (f0 : ∀ j, j < 44 → ¬ j = 2 → ¬ j = 3 → f j = 0) (g0 : ∀ j, j < 44 → ¬ j = 26 → ¬ j = 27 → g j = 0) (f2 : f 2 = nI a) (f3 : f 3 = nI b) (g2 : g 26 = nI a) (g3 : g 27 = nI b) : RR f g 0 0 (fun d => if d = 0 then a else b) (fun _ => 0) (fun _ => 0) := by
  refine ⟨⟨by omega, by omega, ⟨?_, ?_⟩, ⟨?_, ?_⟩, fun d hd => ?_, fun k hk => by omega, fun k hk => by omega⟩, fun k hk => by omega, fun k hk hk2 => ?_, fun k hk => ?_⟩
  · exact (f0 0 (by omega) (by omega) (by omega)).trans nI_0.symm
  · exact (g0 0 (by omega) (by omega) (by omega)).trans nI_0.symm
  · exact (f0 1 (by omega) (by omega) (by omega)).trans nI_0.symm
  · exact (g0 25 (by omega) (by omega) (by omega)).trans nI_0.symm
  · match d, hd with
    | 0, _ => exact ⟨ha, f2, g2⟩
    | 1, _ => exact ⟨hb, f3, g3⟩
  · exact g0 _ (by omega) (by omega) (by omega)
  · rw [f0 _ (by omega) (by omega) (by omega), g0 _ (by omega) (by omega) (by omega)]
theorem dig_le {t : Nat → Nat} {a : Nat} (h : isDig (t a)) : t a - 48 ≤ 9 := by unfold isDig at h; omega
theorem dN_1 (t : Nat → Nat) (a : Nat) : dN t a 1 = t a - 48 := by rw [dN, dN, Nat.add_zero]; omega
theorem dN_2 {t : Nat → Nat} {a : Nat} (h0 : isDig (t a)) (h1 : isDig (t (a + 1))) : dN t a 2 ≤ 99 := by
  have := dig_le h0
  have := dig_le h1
  rw [dN, dN_1]; omega
theorem dN_3 {t : Nat → Nat} {a : Nat} (h0 : isDig (t a)) (h1 : isDig (t (a + 1))) (h2 : isDig (t (a + 2))) : dN t a 3 ≤ 999 := by
  have := dN_2 h0 h1
  have := dig_le h2
  rw [dN]; omega
/-- a text read -/
theorem RX_read {t : Nat → Nat} {f g : Nat → Int32} {c : Nat} (hc : c ≤ 6) (ht : ∀ j, j < 8 + 7 * c → allow j (t j)) : ∃ fc w r tt, RR (rdF t f c) (rdM t g c) c fc w r tt := by
  have h1 := ht 1 (by omega)
  have hd : ∀ j, 2 ≤ j → j < 8 → isDig (t j) := fun j a b => by
    have := ht j (by omega)
    unfold allow at this
    rw [if_neg (by omega), if_neg (by omega), if_pos b] at this
    exact this
  unfold allow at h1
  rw [if_neg (by omega), if_pos rfl] at h1
  unfold isCD at h1
  have key : ∀ i, i ≤ c → ∃ fc w r tt, RR (rdF t f i) (rdM t g i) i fc w r tt := by
    intro i
    induction i with
    | zero =>
      intro _
      have h0 : RR (zerF (upd f 0 0) 44) (filF g 0 44) 0 0 (fun d => if d = 0 then 0 else 0) (fun _ => 0) (fun _ => 0) ∨ True := Or.inr trivial
      have z1 : ∀ j, j < 44 → filF g 0 44 j = 0 := fun j hj => by unfold filF; rw [if_pos hj]
      have w1 := dN_3 (t := t) (a := 2) (hd 2 (by omega) (by omega)) (hd 3 (by omega) (by omega)) (hd 4 (by omega) (by omega))
      have w2 := dN_3 (t := t) (a := 5) (hd 5 (by omega) (by omega)) (hd 6 (by omega) (by omega)) (hd 7 (by omega) (by omega))
      refine ⟨t 1 - 48, fun d => if d = 0 then dN t 2 3 else dN t 5 3, fun _ => 0, fun _ => 0, ?_⟩
      have zf : ∀ j, 28 ≤ j → j < 44 → rdF t f 0 j = 0 := fun j a b => by
        rw [rdF, pk_un (by omega), pk_un (by omega), pk_un (by omega)]
        unfold zerF
        rw [if_pos ⟨a, b⟩]
      have zg : ∀ j, j < 44 → ¬ j = 25 → ¬ j = 26 → ¬ j = 27 → rdM t g 0 j = 0 := fun j a b c d => by
        rw [rdM, pk_un d, pk_un c, pk_un b]
        exact z1 j a
      refine ⟨⟨by omega, by omega, ⟨rdF_0 t f 0, rdM_0 t g 0⟩, ⟨?_, ?_⟩, fun d hd2 => ?_, fun k hk => by omega, fun k hk => by omega⟩, fun k hk => by omega, fun k hk hk2 => zg _ (by omega) (by omega) (by omega) (by omega), fun k hk => by rw [zf _ (by omega) (by omega), zg _ (by omega) (by omega) (by omega) (by omega)]⟩
      · rw [rdF, pk_un (by omega), pk_un (by omega), upd_self, dN_1]
      · rw [rdM, pk_un (by omega), pk_un (by omega), upd_self]
      · match d, hd2 with
        | 0, _ => exact ⟨w1, by rw [rdF, pk_un (by omega)]; exact upd_self _ _ _, by rw [rdM, pk_un (by omega)]; exact upd_self _ _ _⟩
        | 1, _ => exact ⟨w2, by rw [rdF]; exact upd_self _ _ _, by rw [rdM]; exact upd_self _ _ _⟩
    | succ i ih =>
      intro hi
      obtain ⟨fc, w, r, tt, hR⟩ := ih (by omega)
      have al : ∀ p, p < 7 → allowC p (t (8 + 7 * i + p)) := fun p hp => by
        have := ht (8 + 7 * i + p) (by omega)
        unfold allow at this
        rw [if_neg (by omega), if_neg (by omega), if_neg (by omega), show (8 + 7 * i + p - 8) % 7 = p by omega] at this
        exact this.2
      have dg : ∀ p, 1 ≤ p → p < 5 → isDig (t (8 + 7 * i + p)) := fun p a b => by
        have := al p (by omega)
        unfold allowC at this
        rw [if_neg (by omega), if_pos b] at this
        exact this
      have gl : ∀ p, 5 ≤ p → p < 7 → okG (t (8 + 7 * i + p) - 48) := fun p a b => by
        have := al p b
        unfold allowC at this
        rw [if_neg (by omega), if_neg (by omega)] at this
        unfold isCD at this
        unfold okG
        omega
      have a1 := dN_2 (t := t) (a := 8 + 7 * i + 1) (dg 1 (by omega) (by omega)) (dg 2 (by omega) (by omega))
      have a2 := dN_2 (t := t) (a := 8 + 7 * i + 3) (dg 3 (by omega) (by omega)) (dg 4 (by omega) (by omega))
      rw [rdF, rdM, dN_1, dN_1]
      exact ⟨fc, w, _, _, hR.push (by omega) (by omega) (by omega) (gl 5 (by omega) (by omega)) (gl 6 (by omega) (by omega))⟩
  exact key c (Nat.le_refl c)
/-- rings of rows -/
def RG (n : Nat) (H D : Nat → Int32) : Prop := ∀ p, p < n → RX (fun j => H (p * 44 + j)) (fun j => D (p * 44 + j))
theorem RG.put {n p : Nat} {H D f g : Nat → Int32} (h : RG n H D) (hx : RX f g) : RG n (va_cpy f H 0 (p * 44) 44) (va_cpy g D 0 (p * 44) 44) := by
  intro q hq
  by_cases z : q = p
  · refine hx.congr (fun j hj => ?_) (fun j hj => ?_)
    · show va_cpy f H 0 (p * 44) 44 (q * 44 + j) = f j
      rw [z, pk_cpy_in (by omega) (by omega)]
      exact congrArg f (by omega)
    · show va_cpy g D 0 (p * 44) 44 (q * 44 + j) = g j
      rw [z, pk_cpy_in (by omega) (by omega)]
      exact congrArg g (by omega)
  · refine (h q hq).congr (fun j hj => ?_) (fun j hj => ?_)
    · exact pk_cpy_out (by omega)
    · exact pk_cpy_out (by omega)
theorem RG.get {n p : Nat} {H D f g : Nat → Int32} (h : RG n H D) (hp : p < n) : RX (va_cpy H f (p * 44) 0 44) (va_cpy D g (p * 44) 0 44) := by
  refine (h p hp).congr (fun j hj => ?_) (fun j hj => ?_)
  · rw [pk_cpy_in (by omega) (by omega)]; exact congrArg H (by omega)
  · rw [pk_cpy_in (by omega) (by omega)]; exact congrArg D (by omega)
theorem RG_0 {n : Nat} {H D : Nat → Int32} (hH : ∀ j, j < n * 44 → H j = 0) (hD : ∀ j, j < n * 44 → D j = 0) : RG n H D := by
  intro p hp
  have hl : ∀ j, j < 44 → p * 44 + j < n * 44 := fun j hj => by
    have := Nat.mul_le_mul_right 44 (show p + 1 ≤ n from hp)
    omega
  exact ⟨0, 0, _, _, _, RR_0 (a := 0) (b := 0) (by omega) (by omega) (fun j hj _ _ => hH _ (hl j hj)) (fun j hj _ _ => hD _ (hl j hj)) ((hH _ (hl 2 (by omega))).trans nI_0.symm) ((hH _ (hl 3 (by omega))).trans nI_0.symm) ((hD _ (hl 26 (by omega))).trans nI_0.symm) ((hD _ (hl 27 (by omega))).trans nI_0.symm)⟩
/-- measurements: the class's ring and the reference's list -/
def MRm (qk qv mw ms : Nat → Int32) (p q : Nat) : Prop := p < 5 ∧ q ≤ 5 ∧ (q < 5 → p = q) ∧ ∀ k, k < q → qk ((p + 5 - q + k) % 5) = mw k ∧ qv ((p + 5 - q + k) % 5) = ms k
theorem MRm.add {qk qv mw ms : Nat → Int32} {p q : Nat} (h : MRm qk qv mw ms p q) (hq : q < 5) (a b : Int32) : MRm (upd qk p a) (upd qv p b) (upd mw q a) (upd ms q b) ((p + 1) % 5) (q + 1) := by
  obtain ⟨h1, h2, h3, h4⟩ := h
  have h3' := h3 hq
  subst h3'
  refine ⟨by omega, by omega, fun z => by omega, fun k hk => ?_⟩
  rw [show ((p + 1) % 5 + 5 - (p + 1) + k) % 5 = k by omega]
  by_cases z : k = p
  · rw [z, upd_self, upd_self, upd_self, upd_self]; exact ⟨rfl, rfl⟩
  · rw [pk_un z, pk_un z, pk_un z, pk_un z]
    have := h4 k (by omega)
    rw [show (p + 5 - p + k) % 5 = k by omega] at this
    exact this
theorem MRm.add5 {qk qv mw ms : Nat → Int32} {p : Nat} (h : MRm qk qv mw ms p 5) (a b : Int32) : MRm (upd qk p a) (upd qv p b) (upd (shF mw 4) 4 a) (upd (shF ms 4) 4 b) ((p + 1) % 5) 5 := by
  obtain ⟨h1, h2, h3, h4⟩ := h
  refine ⟨by omega, by omega, fun z => by omega, fun k hk => ?_⟩
  by_cases z : k = 4
  · subst z
    rw [show ((p + 1) % 5 + 5 - 5 + 4) % 5 = p by omega, upd_self, upd_self, upd_self, upd_self]; exact ⟨rfl, rfl⟩
  · rw [pk_un z, pk_un z, pk_un (by omega), pk_un (by omega)]
    have := h4 (k + 1) (by omega)
    rw [show (p + 5 - 5 + (k + 1)) % 5 = ((p + 1) % 5 + 5 - 5 + k) % 5 by omega] at this
    unfold shF
    rw [if_pos (by omega), if_pos (by omega)]
    exact this
theorem MRm.agree {qk qv mw ms : Nat → Int32} {p q : Nat} (h : MRm qk qv mw ms p q) (R G : Int32) : agF qk qv R G q ↔ ∀ i, i < q → (if mw i = 0 then R else G) = ms i := by
  obtain ⟨h1, h2, h3, h4⟩ := h
  unfold agF
  constructor
  · intro hA i hi
    have hlt : (p + 5 - q + i) % 5 < q := by
      by_cases z : q < 5
      · have := h3 z; omega
      · omega
    have e := hA _ hlt
    rw [(h4 i hi).1, (h4 i hi).2] at e
    exact e.symm
  · intro hA j hj
    obtain ⟨i, hi, hij⟩ : ∃ i, i < q ∧ (p + 5 - q + i) % 5 = j := by
      by_cases z : q < 5
      · have := h3 z
        exact ⟨j, hj, by omega⟩
      · refine ⟨(j + 5 - p) % 5, by omega, by omega⟩
    have e := hA i hi
    rw [← hij, (h4 i hi).1, (h4 i hi).2]
    exact e.symm
