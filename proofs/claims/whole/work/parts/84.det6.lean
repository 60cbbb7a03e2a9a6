theorem DE6_0_1 (a c d e f : Nat → Int) (p q r s t u : Nat) : D6 a a c d e f p q r s t u = 0 := by
  have h := DW6_0 a a c d e f p q r s t u
  omega
theorem DE6_1_2 (a b d e f : Nat → Int) (p q r s t u : Nat) : D6 a b b d e f p q r s t u = 0 := by
  have h := DW6_1 a b b d e f p q r s t u
  omega
theorem DE6_2_3 (a b c e f : Nat → Int) (p q r s t u : Nat) : D6 a b c c e f p q r s t u = 0 := by
  have h := DW6_2 a b c c e f p q r s t u
  omega
theorem DE6_3_4 (a b c d f : Nat → Int) (p q r s t u : Nat) : D6 a b c d d f p q r s t u = 0 := by
  have h := DW6_3 a b c d d f p q r s t u
  omega
theorem DE6_4_5 (a b c d e : Nat → Int) (p q r s t u : Nat) : D6 a b c d e e p q r s t u = 0 := by
  have h := DW6_4 a b c d e e p q r s t u
  omega
theorem DE6_0_2 (a b d e f : Nat → Int) (p q r s t u : Nat) : D6 a b a d e f p q r s t u = 0 := by
  have h := DW6_1 a a b d e f p q r s t u
  rw [DE6_0_1 a b d e f p q r s t u] at h
  rw [h]; rfl
theorem DE6_1_3 (a b c e f : Nat → Int) (p q r s t u : Nat) : D6 a b c b e f p q r s t u = 0 := by
  have h := DW6_2 a b b c e f p q r s t u
  rw [DE6_1_2 a b c e f p q r s t u] at h
  rw [h]; rfl
theorem DE6_2_4 (a b c d f : Nat → Int) (p q r s t u : Nat) : D6 a b c d c f p q r s t u = 0 := by
  have h := DW6_3 a b c c d f p q r s t u
  rw [DE6_2_3 a b c d f p q r s t u] at h
  rw [h]; rfl
theorem DE6_3_5 (a b c d e : Nat → Int) (p q r s t u : Nat) : D6 a b c d e d p q r s t u = 0 := by
  have h := DW6_4 a b c d d e p q r s t u
  rw [DE6_3_4 a b c d e p q r s t u] at h
  rw [h]; rfl
theorem DE6_0_3 (a b c e f : Nat → Int) (p q r s t u : Nat) : D6 a b c a e f p q r s t u = 0 := by
  have h := DW6_2 a b a c e f p q r s t u
  rw [DE6_0_2 a b c e f p q r s t u] at h
  rw [h]; rfl
theorem DE6_1_4 (a b c d f : Nat → Int) (p q r s t u : Nat) : D6 a b c d b f p q r s t u = 0 := by
  have h := DW6_3 a b c b d f p q r s t u
  rw [DE6_1_3 a b c d f p q r s t u] at h
  rw [h]; rfl
theorem DE6_2_5 (a b c d e : Nat → Int) (p q r s t u : Nat) : D6 a b c d e c p q r s t u = 0 := by
  have h := DW6_4 a b c d c e p q r s t u
  rw [DE6_2_4 a b c d e p q r s t u] at h
  rw [h]; rfl
theorem DE6_0_4 (a b c d f : Nat → Int) (p q r s t u : Nat) : D6 a b c d a f p q r s t u = 0 := by
  have h := DW6_3 a b c a d f p q r s t u
  rw [DE6_0_3 a b c d f p q r s t u] at h
  rw [h]; rfl
theorem DE6_1_5 (a b c d e : Nat → Int) (p q r s t u : Nat) : D6 a b c d e b p q r s t u = 0 := by
  have h := DW6_4 a b c d b e p q r s t u
  rw [DE6_1_4 a b c d e p q r s t u] at h
  rw [h]; rfl
theorem DE6_0_5 (a b c d e : Nat → Int) (p q r s t u : Nat) : D6 a b c d e a p q r s t u = 0 := by
  have h := DW6_4 a b c d a e p q r s t u
  rw [DE6_0_4 a b c d e p q r s t u] at h
  rw [h]; rfl
def dt6 (M : Nat → Nat → Int) : Int := D6 (M 0) (M 1) (M 2) (M 3) (M 4) (M 5) 0 1 2 3 4 5
def ro (M : Nat → Nat → Int) (c : Nat) (v : Nat → Int) : Nat → Nat → Int := fun i => if i = c then v else M i
theorem dt_congr {M M' : Nat → Nat → Int} (h : ∀ i, i < 6 → ∀ j, j < 6 → M i j = M' i j) : dt6 M = dt6 M' :=
  DC6 (h 0 (by decide)) (h 1 (by decide)) (h 2 (by decide)) (h 3 (by decide)) (h 4 (by decide)) (h 5 (by decide)) (by decide) (by decide) (by decide) (by decide) (by decide) (by decide)
theorem dt_tr (M : Nat → Nat → Int) : dt6 (fun i j => M j i) = dt6 M := (DT6 M 0 1 2 3 4 5 0 1 2 3 4 5).symm
theorem dt_lin {c : Nat} (hc : c < 6) (M : Nat → Nat → Int) (u w : Nat → Int) (x y : Int) : dt6 (ro M c (fun j => x * u j + y * w j)) = x * dt6 (ro M c u) + y * dt6 (ro M c w) := by
  match c, hc with
  | 0, _ => exact DL6_0 (M 1) (M 2) (M 3) (M 4) (M 5) u w x y 0 1 2 3 4 5
  | 1, _ => exact DL6_1 (M 0) (M 2) (M 3) (M 4) (M 5) u w x y 0 1 2 3 4 5
  | 2, _ => exact DL6_2 (M 0) (M 1) (M 3) (M 4) (M 5) u w x y 0 1 2 3 4 5
  | 3, _ => exact DL6_3 (M 0) (M 1) (M 2) (M 4) (M 5) u w x y 0 1 2 3 4 5
  | 4, _ => exact DL6_4 (M 0) (M 1) (M 2) (M 3) (M 5) u w x y 0 1 2 3 4 5
  | 5, _ => exact DL6_5 (M 0) (M 1) (M 2) (M 3) (M 4) u w x y 0 1 2 3 4 5
  | n + 6, h => exact absurd h (by omega)
theorem dt_eq0 {c d : Nat} (hc : c < 6) (hd : d < 6) (hn : c < d) (M : Nat → Nat → Int) (h : M c = M d) : dt6 M = 0 := by
  unfold dt6
  match c, d, hc, hd, hn, h with
  | 0, 0, _, _, hn, _ => exact absurd hn (by omega)
  | 0, 1, _, _, _, h => rw [← h]; exact DE6_0_1 (M 0) (M 2) (M 3) (M 4) (M 5) 0 1 2 3 4 5
  | 0, 2, _, _, _, h => rw [← h]; exact DE6_0_2 (M 0) (M 1) (M 3) (M 4) (M 5) 0 1 2 3 4 5
  | 0, 3, _, _, _, h => rw [← h]; exact DE6_0_3 (M 0) (M 1) (M 2) (M 4) (M 5) 0 1 2 3 4 5
  | 0, 4, _, _, _, h => rw [← h]; exact DE6_0_4 (M 0) (M 1) (M 2) (M 3) (M 5) 0 1 2 3 4 5
  | 0, 5, _, _, _, h => rw [← h]; exact DE6_0_5 (M 0) (M 1) (M 2) (M 3) (M 4) 0 1 2 3 4 5
  | 1, 0, _, _, hn, _ => exact absurd hn (by omega)
  | 1, 1, _, _, hn, _ => exact absurd hn (by omega)
  | 1, 2, _, _, _, h => rw [← h]; exact DE6_1_2 (M 0) (M 1) (M 3) (M 4) (M 5) 0 1 2 3 4 5
  | 1, 3, _, _, _, h => rw [← h]; exact DE6_1_3 (M 0) (M 1) (M 2) (M 4) (M 5) 0 1 2 3 4 5
  | 1, 4, _, _, _, h => rw [← h]; exact DE6_1_4 (M 0) (M 1) (M 2) (M 3) (M 5) 0 1 2 3 4 5
  | 1, 5, _, _, _, h => rw [← h]; exact DE6_1_5 (M 0) (M 1) (M 2) (M 3) (M 4) 0 1 2 3 4 5
  | 2, 0, _, _, hn, _ => exact absurd hn (by omega)
  | 2, 1, _, _, hn, _ => exact absurd hn (by omega)
  | 2, 2, _, _, hn, _ => exact absurd hn (by omega)
  | 2, 3, _, _, _, h => rw [← h]; exact DE6_2_3 (M 0) (M 1) (M 2) (M 4) (M 5) 0 1 2 3 4 5
  | 2, 4, _, _, _, h => rw [← h]; exact DE6_2_4 (M 0) (M 1) (M 2) (M 3) (M 5) 0 1 2 3 4 5
  | 2, 5, _, _, _, h => rw [← h]; exact DE6_2_5 (M 0) (M 1) (M 2) (M 3) (M 4) 0 1 2 3 4 5
  | 3, 0, _, _, hn, _ => exact absurd hn (by omega)
  | 3, 1, _, _, hn, _ => exact absurd hn (by omega)
  | 3, 2, _, _, hn, _ => exact absurd hn (by omega)
  | 3, 3, _, _, hn, _ => exact absurd hn (by omega)
  | 3, 4, _, _, _, h => rw [← h]; exact DE6_3_4 (M 0) (M 1) (M 2) (M 3) (M 5) 0 1 2 3 4 5
  | 3, 5, _, _, _, h => rw [← h]; exact DE6_3_5 (M 0) (M 1) (M 2) (M 3) (M 4) 0 1 2 3 4 5
  | 4, 0, _, _, hn, _ => exact absurd hn (by omega)
  | 4, 1, _, _, hn, _ => exact absurd hn (by omega)
  | 4, 2, _, _, hn, _ => exact absurd hn (by omega)
  | 4, 3, _, _, hn, _ => exact absurd hn (by omega)
  | 4, 4, _, _, hn, _ => exact absurd hn (by omega)
  | 4, 5, _, _, _, h => rw [← h]; exact DE6_4_5 (M 0) (M 1) (M 2) (M 3) (M 4) 0 1 2 3 4 5
  | 5, 0, _, _, hn, _ => exact absurd hn (by omega)
  | 5, 1, _, _, hn, _ => exact absurd hn (by omega)
  | 5, 2, _, _, hn, _ => exact absurd hn (by omega)
  | 5, 3, _, _, hn, _ => exact absurd hn (by omega)
  | 5, 4, _, _, hn, _ => exact absurd hn (by omega)
  | 5, 5, _, _, hn, _ => exact absurd hn (by omega)
  | n + 6, _, h, _, _, _ => exact absurd h (by omega)
  | 0, n + 6, _, h, _, _ => exact absurd h (by omega)
  | 1, n + 6, _, h, _, _ => exact absurd h (by omega)
  | 2, n + 6, _, h, _, _ => exact absurd h (by omega)
  | 3, n + 6, _, h, _, _ => exact absurd h (by omega)
  | 4, n + 6, _, h, _, _ => exact absurd h (by omega)
  | 5, n + 6, _, h, _, _ => exact absurd h (by omega)
theorem dt_eq {c d : Nat} (hc : c < 6) (hd : d < 6) (hn : ¬ c = d) (M : Nat → Nat → Int) (h : M c = M d) : dt6 M = 0 := by
  rcases Nat.lt_or_ge c d with z | z
  · exact dt_eq0 hc hd z M h
  · exact dt_eq0 hd hc (by omega) M h.symm
theorem ro_self (M : Nat → Nat → Int) (c : Nat) (v : Nat → Int) : ro M c v c = v := by unfold ro; rw [if_pos rfl]
theorem ro_ne (M : Nat → Nat → Int) {c i : Nat} (v : Nat → Int) (h : ¬ i = c) : ro M c v i = M i := by unfold ro; rw [if_neg h]
theorem ro_same (M : Nat → Nat → Int) (c : Nat) : ro M c (M c) = M := by
  funext i
  by_cases z : i = c
  · rw [z, ro_self]
  · rw [ro_ne _ _ z]
/-- the row c of M is x * u + y * w -/
theorem dt_row {c : Nat} (hc : c < 6) (M : Nat → Nat → Int) (u w : Nat → Int) (x y : Int) (h : ∀ j, j < 6 → M c j = x * u j + y * w j) : dt6 M = x * dt6 (ro M c u) + y * dt6 (ro M c w) := by
  rw [← dt_lin hc]
  refine dt_congr (fun i _ j hj => ?_)
  by_cases z : i = c
  · rw [z, ro_self]; exact h j hj
  · rw [ro_ne _ _ z]
theorem dt_r0 {c : Nat} (hc : c < 6) (M : Nat → Nat → Int) (h : ∀ j, j < 6 → M c j = 0) : dt6 M = 0 := by
  rw [dt_row hc M (M c) (M c) 0 0 (fun j hj => by rw [h j hj]; rfl)]
  omega
theorem dt_c0 {s : Nat} (hs : s < 6) (M : Nat → Nat → Int) (h : ∀ i, i < 6 → M i s = 0) : dt6 M = 0 := by
  rw [← dt_tr M]
  exact dt_r0 hs _ h
theorem dt_add {c d : Nat} (hc : c < 6) (hd : d < 6) (hn : ¬ c = d) (M : Nat → Nat → Int) (v : Nat → Int) (h : ∀ j, j < 6 → v j = M c j + M d j) : dt6 (ro M c v) = dt6 M := by
  rw [dt_row hc (ro M c v) (M c) (M d) 1 1 (fun j hj => by rw [ro_self, h j hj]; omega)]
  have e1 : ro (ro M c v) c (M c) = M := by
    funext i
    by_cases z : i = c
    · rw [z, ro_self]
    · rw [ro_ne _ _ z, ro_ne _ _ z]
  have e2 : dt6 (ro (ro M c v) c (M d)) = 0 := by
    refine dt_eq hc hd hn _ ?_
    rw [ro_self, ro_ne _ _ (fun z => hn z.symm), ro_ne _ _ (fun z => hn z.symm)]
  rw [e1, e2]
  omega
def iD (i j : Nat) : Int := if j = i then 1 else 0
set_option maxRecDepth 100000 in
theorem dt_I : dt6 iD = 1 := by decide
/-- the unit matrix with a row of its own -/
theorem dt_Ir {s : Nat} (hs : s < 6) (x : Nat → Int) : dt6 (ro iD s x) = x s := by
  rw [dt_row hs (ro iD s x) (iD s) (fun j => if j = s then 0 else x j) (x s) 1 (fun j hj => by
    rw [ro_self]
    by_cases z : j = s
    · rw [iD, if_pos z, if_pos z, z]; omega
    · rw [iD, if_neg z, if_neg z]; omega)]
  have e1 : ro (ro iD s x) s (iD s) = iD := by
    funext i
    by_cases z : i = s
    · rw [z, ro_self]
    · rw [ro_ne _ _ z, ro_ne _ _ z]
  rw [e1, dt_I, dt_c0 hs (ro (ro iD s x) s (fun j => if j = s then 0 else x j)) (fun i hi => by
    by_cases z : i = s
    · rw [z, ro_self, if_pos rfl]
    · rw [ro_ne _ _ z, ro_ne _ _ z, iD, if_neg (fun y => z y.symm)])]
  omega
theorem dt_Ic {s : Nat} (hs : s < 6) (x : Nat → Int) : dt6 (fun i j => if j = s then x i else iD i j) = x s := by
  rw [← dt_Ir hs x, ← dt_tr]
  refine dt_congr (fun i hi j hj => ?_)
  by_cases z : i = s
  · rw [z, ro_self, if_pos rfl]
  · rw [ro_ne _ _ z, if_neg z, iD, iD]
    by_cases y : i = j
    · rw [if_pos y, if_pos y.symm]
    · rw [if_neg y, if_neg (fun q => y q.symm)]
/-- a cell c that sends all to t; column s (7: none) says whether t is go -/
def vR (s go c t : Nat) : Nat → Int := fun j => if j = s then (if t = go then 1 else 0) else (if j = c then 1 else 0) - (if j = t then 1 else 0)
theorem vR_add {s go c d e j : Nat} (h : ¬ d = go) : vR s go c d j + vR s go d e j = vR s go c e j := by
  unfold vR
  rw [if_neg h]
  by_cases z : j = s
  · rw [if_pos z, if_pos z, if_pos z]; omega
  · rw [if_neg z, if_neg z, if_neg z]; omega
theorem vR_self {s go c j : Nat} (h : ¬ c = go) : vR s go c c j = 0 := by
  unfold vR
  rw [if_neg h]
  by_cases z : j = s
  · rw [if_pos z]
  · rw [if_neg z]; omega
def dF (s go : Nat) (F : Nat → Nat) : Int := dt6 (fun c => vR s go c (F c))
theorem dF_congr {s go : Nat} {F G : Nat → Nat} (h : ∀ c, c < 6 → F c = G c) : dF s go F = dF s go G :=
  dt_congr (fun i hi j _ => by rw [h i hi])
theorem dF_one {s go k j : Nat} (hk : k < 6) (hj : j < 6) (hgo : 6 ≤ go) {F : Nat → Nat} (hn : ¬ j = k) (h : F j = k) : dF s go (fun c => if c = j then F k else F c) = dF s go F := by
  unfold dF
  rw [← dt_add hj hk hn (fun c => vR s go c (F c)) (vR s go j (F k)) (fun i _ => by
    show _ = vR s go j (F j) i + vR s go k (F k) i
    rw [h, vR_add (by omega)])]
  refine dt_congr (fun i hi q _ => ?_)
  show vR s go i (if i = j then F k else F i) q = _
  by_cases z : i = j
  · rw [z, ro_self, if_pos rfl]
  · rw [ro_ne _ _ z, if_neg z]
theorem dF_byp {s go k : Nat} (hk : k < 6) (hgo : 6 ≤ go) {F : Nat → Nat} (hn : ¬ F k = k) : dF s go F = dF s go (fun c => if F c = k then F k else F c) := by
  have st : ∀ m, m ≤ 6 → dF s go (fun c => if c < m ∧ F c = k then F k else F c) = dF s go F := by
    intro m
    induction m with
    | zero => intro _; exact dF_congr (fun c _ => by rw [if_neg (by omega)])
    | succ m ih =>
      intro hm
      rw [← ih (by omega)]
      by_cases z : F m = k
      · have hmk : ¬ m = k := fun y => hn (by rw [y] at z; exact z)
        rw [← dF_one (j := m) (k := k) (F := fun c => if c < m ∧ F c = k then F k else F c) hk (by omega) hgo hmk (by rw [if_neg (by omega)]; exact z)]
        refine dF_congr (fun c _ => ?_)
        by_cases y : c = m
        · rw [y, if_pos ⟨by omega, z⟩, if_pos rfl, if_neg (fun q => hn q.2)]
        · rw [if_neg y]
          by_cases w : c < m ∧ F c = k
          · rw [if_pos w, if_pos ⟨by omega, w.2⟩]
          · rw [if_neg w, if_neg (fun q => w ⟨by omega, q.2⟩)]
      · refine dF_congr (fun c _ => ?_)
        by_cases w : c < m ∧ F c = k
        · rw [if_pos w, if_pos ⟨by omega, w.2⟩]
        · rw [if_neg w, if_neg (fun q => w ⟨by
            have : ¬ c = m := fun y => z (by rw [← y]; exact q.2)
            omega, q.2⟩)]
  rw [← st 6 (Nat.le_refl 6)]
  refine dF_congr (fun c hc => ?_)
  by_cases w : F c = k
  · rw [if_pos ⟨hc, w⟩, if_pos w]
  · rw [if_neg (fun q => w q.2), if_neg w]
theorem dF_loop {s go k : Nat} (hk : k < 6) (hgo : 6 ≤ go) {F : Nat → Nat} (h : F k = k) : dF s go F = 0 :=
  dt_r0 hk _ (fun j _ => by
    show vR s go k (F k) j = 0
    rw [h]; exact vR_self (by omega))
theorem fun_ok {s go : Nat} (hs : s < 6) (hgo : 6 ≤ go) : ∀ k, k ≤ 6 → ∀ F : Nat → Nat, (∀ c, c < 6 → F c < k ∨ 6 ≤ F c) → 0 ≤ dF s go F ∧ dF s go F ≤ dF 7 go F ∧ dF 7 go F ≤ 1 := by
  intro k
  induction k with
  | zero =>
    intro _ F h
    have e1 : dF 7 go F = 1 := by
      rw [← dt_I]
      refine dt_congr (fun i hi j hj => ?_)
      have := h i hi
      unfold vR iD
      rw [if_neg (by omega), if_neg (show ¬ j = F i by omega)]
      omega
    have e2 : dF s go F = if F s = go then 1 else 0 := by
      rw [← dt_Ic hs (fun i => if F i = go then 1 else 0)]
      refine dt_congr (fun i hi j hj => ?_)
      have := h i hi
      unfold vR iD
      by_cases z : j = s
      · rw [if_pos z, if_pos z]
      · rw [if_neg z, if_neg z, if_neg (show ¬ j = F i by omega)]
        omega
    rw [e1, e2]
    by_cases z : F s = go
    · rw [if_pos z]; omega
    · rw [if_neg z]; omega
  | succ k ih =>
    intro hk F h
    by_cases z : F k = k
    · rw [dF_loop (by omega) hgo z, dF_loop (by omega) hgo z]; omega
    · rw [dF_byp (s := s) (by omega) hgo z, dF_byp (s := 7) (by omega) hgo z]
      refine ih (by omega) _ (fun c hc => ?_)
      have h1 := h c hc
      have h2 := h k (by omega)
      by_cases y : F c = k
      · rw [if_pos y]; omega
      · rw [if_neg y]; omega
theorem fun_0 {go : Nat} (hgo : 6 ≤ go) : ∀ k, k ≤ 6 → ∀ (F : Nat → Nat) (B : Nat → Prop), (∀ c, c < 6 → F c < k ∨ 6 ≤ F c) → (∀ c, B c → c < 6 ∧ B (F c)) → (∃ c, B c) → dF 7 go F = 0 := by
  intro k
  induction k with
  | zero =>
    intro _ F B h hB hx
    obtain ⟨c, hc⟩ := hx
    have h1 := hB c hc
    have h2 := hB _ h1.2
    have h3 := h c h1.1
    omega
  | succ k ih =>
    intro hk F B h hB hx
    by_cases z : F k = k
    · exact dF_loop (by omega) hgo z
    · rw [dF_byp (by omega) hgo z]
      refine ih (by omega) _ (fun c => B c ∧ ¬ c = k) (fun c hc => ?_) (fun c hc => ?_) ?_
      · have h1 := h c hc
        have h2 := h k (by omega)
        by_cases y : F c = k
        · rw [if_pos y]; omega
        · rw [if_neg y]; omega
      · refine ⟨(hB c hc.1).1, ?_⟩
        by_cases y : F c = k
        · have hb := (hB c hc.1).2
          rw [y] at hb
          show B (if F c = k then F k else F c) ∧ ¬ (if F c = k then F k else F c) = k
          rw [if_pos y]
          exact ⟨(hB k hb).2, z⟩
        · show B (if F c = k then F k else F c) ∧ ¬ (if F c = k then F k else F c) = k
          rw [if_neg y]
          exact ⟨(hB c hc.1).2, y⟩
      · obtain ⟨c, hc⟩ := hx
        by_cases y : c = k
        · rw [y] at hc
          exact ⟨F k, (hB k hc).2, z⟩
        · exact ⟨c, hc, y⟩
/-- rows that are mixed of two streams: weight, target, weight, target -/
abbrev QD : Type := Nat → Int × Nat × Int × Nat
def xR (s go c : Nat) (z : Int × Nat × Int × Nat) : Nat → Int := fun j => z.1 * vR s go c z.2.1 j + z.2.2.1 * vR s go c z.2.2.2 j
def XX (s go : Nat) (q : QD) : Int := dt6 (fun c => xR s go c (q c))
def pu (t : Nat) : Int × Nat × Int × Nat := (1, t, 0, t)
def uq (q : QD) (c : Nat) (z : Int × Nat × Int × Nat) : QD := fun i => if i = c then z else q i
theorem uq_self (q : QD) (c : Nat) (z : Int × Nat × Int × Nat) : uq q c z c = z := by unfold uq; rw [if_pos rfl]
theorem uq_ne (q : QD) {c i : Nat} (z : Int × Nat × Int × Nat) (h : ¬ i = c) : uq q c z i = q i := by unfold uq; rw [if_neg h]
theorem xR_pu (s go c t j : Nat) : xR s go c (pu t) j = vR s go c t j := by unfold xR pu; simp only; omega
theorem XX_congr {s go : Nat} {q q' : QD} (h : ∀ c, c < 6 → q c = q' c) : XX s go q = XX s go q' := dt_congr (fun i hi j _ => by rw [h i hi])
theorem XX_pure {s go : Nat} {q : QD} {F : Nat → Nat} (h : ∀ c, c < 6 → q c = pu (F c)) : XX s go q = dF s go F := dt_congr (fun i hi j _ => by rw [h i hi, xR_pu])
theorem XX_put (s go : Nat) (q : QD) (c t : Nat) : XX s go (uq q c (pu t)) = dt6 (ro (fun i => xR s go i (q i)) c (vR s go c t)) := by
  refine dt_congr (fun i _ j _ => ?_)
  by_cases z : i = c
  · rw [z, ro_self, uq_self, xR_pu]
  · rw [ro_ne _ _ z, uq_ne _ _ z]
theorem XX_split {s go : Nat} (q : QD) {c : Nat} (hc : c < 6) : XX s go q = (q c).1 * XX s go (uq q c (pu (q c).2.1)) + (q c).2.2.1 * XX s go (uq q c (pu (q c).2.2.2)) := by
  rw [XX_put, XX_put, ← dt_row hc (fun i => xR s go i (q i)) (vR s go c (q c).2.1) (vR s go c (q c).2.2.2) (q c).1 (q c).2.2.1 (fun j _ => rfl)]
  rfl
/-- weights that are shares of a hundred -/
def wOk (q : QD) : Prop := ∀ c, c < 6 → 0 ≤ (q c).1 ∧ 0 ≤ (q c).2.2.1 ∧ (q c).1 + (q c).2.2.1 ≤ 100
theorem wOk_pu {q : QD} (h : wOk q) (c t : Nat) : wOk (uq q c (pu t)) := by
  intro i hi
  by_cases z : i = c
  · rw [z, uq_self]; unfold pu; simp only; omega
  · rw [uq_ne _ _ z]; exact h i hi
theorem XX_ok {s go : Nat} (hs : s < 6) (hgo : 6 ≤ go) : ∀ k, k ≤ 6 → ∀ q : QD, wOk q → (∀ c, c < 6 → k ≤ c → ∃ t, q c = pu t) → 0 ≤ XX s go q ∧ XX s go q ≤ XX 7 go q ∧ XX 7 go q ≤ 100 ^ k := by
  intro k
  induction k with
  | zero =>
    intro _ q _ h
    have e : ∀ c, c < 6 → q c = pu ((q c).2.1) := fun c hc => by
      obtain ⟨t, ht⟩ := h c hc (Nat.zero_le c)
      rw [ht]; rfl
    rw [XX_pure (s := s) e, XX_pure (s := 7) e]
    exact fun_ok hs hgo 6 (Nat.le_refl 6) _ (fun c _ => by omega)
  | succ k ih =>
    intro hk q hw h
    have hp : ∀ t, ∀ c, c < 6 → k ≤ c → ∃ t', (uq q k (pu t)) c = pu t' := fun t c hc hkc => by
      by_cases z : c = k
      · exact ⟨t, by rw [z, uq_self]⟩
      · rw [uq_ne _ _ z]; exact h c hc (by omega)
    obtain ⟨a1, a2, a3⟩ := ih (by omega) (uq q k (pu (q k).2.1)) (wOk_pu hw _ _) (hp _)
    obtain ⟨b1, b2, b3⟩ := ih (by omega) (uq q k (pu (q k).2.2.2)) (wOk_pu hw _ _) (hp _)
    rw [XX_split (s := s) q (c := k) (by omega), XX_split (s := 7) q (c := k) (by omega)]
    obtain ⟨w1, w2, w3⟩ := hw k (by omega)
    have h100 : (0 : Int) ≤ 100 ^ k := by omega
    refine ⟨Int.add_nonneg (Int.mul_nonneg w1 a1) (Int.mul_nonneg w2 b1), Int.add_le_add (Int.mul_le_mul_of_nonneg_left a2 w1) (Int.mul_le_mul_of_nonneg_left b2 w2), ?_⟩
    have c1 := Int.mul_le_mul_of_nonneg_left a3 w1
    have c2 := Int.mul_le_mul_of_nonneg_left b3 w2
    have c3 : ((q k).1 + (q k).2.2.1) * 100 ^ k ≤ 100 * 100 ^ k := Int.mul_le_mul_of_nonneg_right w3 h100
    rw [Int.add_mul] at c3
    rw [Int.pow_succ, Int.mul_comm (100 ^ k)]
    omega
theorem XX_all {s go : Nat} (hs : s < 6) (hgo : 6 ≤ go) {q : QD} (hw : wOk q) : 0 ≤ XX s go q ∧ XX s go q ≤ XX 7 go q ∧ XX 7 go q ≤ 1000000000000 :=
  XX_ok hs hgo 6 (Nat.le_refl 6) q hw (fun c hc hk => by omega)
theorem XX_0 {go : Nat} (hgo : 6 ≤ go) (B : Nat → Prop) (hB6 : ∀ c, B c → c < 6) (hx : ∃ c, B c) : ∀ k, k ≤ 6 → ∀ q : QD, (∀ c, B c → ((q c).1 = 0 ∨ B (q c).2.1) ∧ ((q c).2.2.1 = 0 ∨ B (q c).2.2.2)) → (∀ c, c < 6 → k ≤ c → ∃ t, q c = pu t) → XX 7 go q = 0 := by
  intro k
  induction k with
  | zero =>
    intro _ q h hp
    have e : ∀ c, c < 6 → q c = pu ((q c).2.1) := fun c hc => by
      obtain ⟨t, ht⟩ := hp c hc (Nat.zero_le c)
      rw [ht]; rfl
    rw [XX_pure e]
    refine fun_0 hgo 6 (Nat.le_refl 6) _ B (fun c _ => by omega) (fun c hc => ⟨hB6 c hc, ?_⟩) hx
    have h1 := (h c hc).1
    rcases h1 with z | z
    · rw [e c (hB6 c hc)] at z
      exact absurd z (by unfold pu; simp only; decide)
    · exact z
  | succ k ih =>
    intro hk q h hp
    have hp2 : ∀ t, ∀ c, c < 6 → k ≤ c → ∃ t', (uq q k (pu t)) c = pu t' := fun t c hc hkc => by
      by_cases z : c = k
      · exact ⟨t, by rw [z, uq_self]⟩
      · rw [uq_ne _ _ z]; exact hp c hc (by omega)
    have key : ∀ t, (B k → B t) → XX 7 go (uq q k (pu t)) = 0 := fun t ht => by
      refine ih (by omega) _ (fun c hc => ?_) (hp2 t)
      by_cases z : c = k
      · rw [z, uq_self]
        rw [z] at hc
        exact ⟨Or.inr (ht hc), Or.inl rfl⟩
      · rw [uq_ne _ _ z]; exact h c hc
    rw [XX_split q (c := k) (by omega)]
    have e1 : (q k).1 * XX 7 go (uq q k (pu (q k).2.1)) = 0 := by
      by_cases hk2 : B k
      · rcases (h k hk2).1 with z | z
        · rw [z, Int.zero_mul]
        · rw [key _ (fun _ => z), Int.mul_zero]
      · rw [key _ (fun y => (hk2 y).elim), Int.mul_zero]
    have e2 : (q k).2.2.1 * XX 7 go (uq q k (pu (q k).2.2.2)) = 0 := by
      by_cases hk2 : B k
      · rcases (h k hk2).2 with z | z
        · rw [z, Int.zero_mul]
        · rw [key _ (fun _ => z), Int.mul_zero]
      · rw [key _ (fun y => (hk2 y).elim), Int.mul_zero]
    rw [e1, e2]; rfl
theorem XX_nil {go : Nat} (hgo : 6 ≤ go) (B : Nat → Prop) (hB6 : ∀ c, B c → c < 6) (hx : ∃ c, B c) {q : QD} (h : ∀ c, B c → ((q c).1 = 0 ∨ B (q c).2.1) ∧ ((q c).2.2.1 = 0 ∨ B (q c).2.2.2)) : XX 7 go q = 0 :=
  XX_0 hgo B hB6 hx 6 (Nat.le_refl 6) q h (fun c hc hk => by omega)
/-- a cell is marked: what leaves it goes out, or to a marked cell -/
theorem XX_out {go : Nat} (hgo : 6 ≤ go) {q : QD} {c t : Nat} (hc : c < 6) (h : 6 ≤ t ∨ (t < 6 ∧ ¬ t = c ∧ q t = pu 7)) : XX 7 go (uq q c (pu t)) = XX 7 go (uq q c (pu 7)) := by
  rcases h with z | ⟨z1, z2, z3⟩
  · refine dt_congr (fun i hi j hj => ?_)
    by_cases y : i = c
    · rw [y, uq_self, uq_self, xR_pu, xR_pu]
      unfold vR
      simp only [if_neg (show ¬ j = 7 by omega), if_neg (show ¬ j = t by omega)]
    · rw [uq_ne _ _ y, uq_ne _ _ y]
  · rw [XX_put, XX_put]
    rw [← dt_add (c := c) (d := t) hc z1 (fun y => z2 y.symm) (ro (fun i => xR 7 go i (q i)) c (vR 7 go c t)) (vR 7 go c 7) (fun j _ => by
      rw [ro_self, ro_ne _ _ z2, z3, xR_pu, vR_add (by omega)])]
    refine dt_congr (fun i _ j _ => ?_)
    by_cases y : i = c
    · rw [y, ro_self, ro_self]
    · rw [ro_ne _ _ y, ro_ne _ _ y, ro_ne _ _ y]
theorem XX_mark {go : Nat} (hgo : 6 ≤ go) {q : QD} (hw : wOk q) {c : Nat} (hc : c < 6) (h : (0 < (q c).1 ∧ (6 ≤ (q c).2.1 ∨ ((q c).2.1 < 6 ∧ ¬ (q c).2.1 = c ∧ q (q c).2.1 = pu 7))) ∨ (0 < (q c).2.2.1 ∧ (6 ≤ (q c).2.2.2 ∨ ((q c).2.2.2 < 6 ∧ ¬ (q c).2.2.2 = c ∧ q (q c).2.2.2 = pu 7)))) : XX 7 go (uq q c (pu 7)) ≤ XX 7 go q := by
  obtain ⟨w1, w2, _⟩ := hw c hc
  obtain ⟨a1, a2, _⟩ := XX_all (s := 0) (by decide) hgo (wOk_pu hw c (q c).2.1)
  obtain ⟨b1, b2, _⟩ := XX_all (s := 0) (by decide) hgo (wOk_pu hw c (q c).2.2.2)
  rw [XX_split (s := 7) (go := go) q (c := c) hc]
  have m1 := Int.mul_nonneg w1 (Int.le_trans a1 a2)
  have m2 := Int.mul_nonneg w2 (Int.le_trans b1 b2)
  rcases h with ⟨p, z⟩ | ⟨p, z⟩
  · have e := XX_out hgo hc z
    have := Int.mul_le_mul_of_nonneg_right (show (1 : Int) ≤ (q c).1 by omega) (Int.le_trans a1 a2)
    rw [e] at this m1 ⊢
    omega
  · have e := XX_out hgo hc z
    have := Int.mul_le_mul_of_nonneg_right (show (1 : Int) ≤ (q c).2.2.1 by omega) (Int.le_trans b1 b2)
    rw [e] at this m2 ⊢
    omega
theorem XX_one {go : Nat} {q : QD} (h : ∀ c, c < 6 → q c = pu 7) : XX 7 go q = 1 := by
  rw [XX_pure (F := fun _ => 7) h, ← dt_I]
  refine dt_congr (fun i hi j hj => ?_)
  unfold vR iD
  rw [if_neg (by omega), if_neg (show ¬ j = 7 by omega)]
  omega

