def D1 (a : Nat → Int) (p : Nat) : Int := a p
def D2 (a b : Nat → Int) (p q : Nat) : Int := b q * D1 a p - b p * D1 a q
def D3 (a b c : Nat → Int) (p q r : Nat) : Int := c r * D2 a b p q - c q * D2 a b p r + c p * D2 a b q r
def D4 (a b c d : Nat → Int) (p q r s : Nat) : Int := d s * D3 a b c p q r - d r * D3 a b c p q s + d q * D3 a b c p r s - d p * D3 a b c q r s
def D5 (a b c d e : Nat → Int) (p q r s t : Nat) : Int := e t * D4 a b c d p q r s - e s * D4 a b c d p q r t + e r * D4 a b c d p q s t - e q * D4 a b c d p r s t + e p * D4 a b c d q r s t
def D6 (a b c d e f : Nat → Int) (p q r s t u : Nat) : Int := f u * D5 a b c d e p q r s t - f t * D5 a b c d e p q r s u + f s * D5 a b c d e p q r t u - f r * D5 a b c d e p q s t u + f q * D5 a b c d e p r s t u - f p * D5 a b c d e q r s t u
theorem DC1 {a a' : Nat → Int} {p : Nat} (ha : ∀ j, j < 6 → a j = a' j) (kp : p < 6) : D1 a p = D1 a' p := by
  exact ha p kp
theorem DC2 {a b a' b' : Nat → Int} {p q : Nat} (ha : ∀ j, j < 6 → a j = a' j) (hb : ∀ j, j < 6 → b j = b' j) (kp : p < 6) (kq : q < 6) : D2 a b p q = D2 a' b' p q := by
  simp only [D2, hb p kp, hb q kq, DC1 ha kq, DC1 ha kp]
theorem DC3 {a b c a' b' c' : Nat → Int} {p q r : Nat} (ha : ∀ j, j < 6 → a j = a' j) (hb : ∀ j, j < 6 → b j = b' j) (hc : ∀ j, j < 6 → c j = c' j) (kp : p < 6) (kq : q < 6) (kr : r < 6) : D3 a b c p q r = D3 a' b' c' p q r := by
  simp only [D3, hc p kp, hc q kq, hc r kr, DC2 ha hb kq kr, DC2 ha hb kp kr, DC2 ha hb kp kq]
theorem DC4 {a b c d a' b' c' d' : Nat → Int} {p q r s : Nat} (ha : ∀ j, j < 6 → a j = a' j) (hb : ∀ j, j < 6 → b j = b' j) (hc : ∀ j, j < 6 → c j = c' j) (hd : ∀ j, j < 6 → d j = d' j) (kp : p < 6) (kq : q < 6) (kr : r < 6) (ks : s < 6) : D4 a b c d p q r s = D4 a' b' c' d' p q r s := by
  simp only [D4, hd p kp, hd q kq, hd r kr, hd s ks, DC3 ha hb hc kq kr ks, DC3 ha hb hc kp kr ks, DC3 ha hb hc kp kq ks, DC3 ha hb hc kp kq kr]
theorem DC5 {a b c d e a' b' c' d' e' : Nat → Int} {p q r s t : Nat} (ha : ∀ j, j < 6 → a j = a' j) (hb : ∀ j, j < 6 → b j = b' j) (hc : ∀ j, j < 6 → c j = c' j) (hd : ∀ j, j < 6 → d j = d' j) (he : ∀ j, j < 6 → e j = e' j) (kp : p < 6) (kq : q < 6) (kr : r < 6) (ks : s < 6) (kt : t < 6) : D5 a b c d e p q r s t = D5 a' b' c' d' e' p q r s t := by
  simp only [D5, he p kp, he q kq, he r kr, he s ks, he t kt, DC4 ha hb hc hd kq kr ks kt, DC4 ha hb hc hd kp kr ks kt, DC4 ha hb hc hd kp kq ks kt, DC4 ha hb hc hd kp kq kr kt, DC4 ha hb hc hd kp kq kr ks]
theorem DC6 {a b c d e f a' b' c' d' e' f' : Nat → Int} {p q r s t u : Nat} (ha : ∀ j, j < 6 → a j = a' j) (hb : ∀ j, j < 6 → b j = b' j) (hc : ∀ j, j < 6 → c j = c' j) (hd : ∀ j, j < 6 → d j = d' j) (he : ∀ j, j < 6 → e j = e' j) (hf : ∀ j, j < 6 → f j = f' j) (kp : p < 6) (kq : q < 6) (kr : r < 6) (ks : s < 6) (kt : t < 6) (ku : u < 6) : D6 a b c d e f p q r s t u = D6 a' b' c' d' e' f' p q r s t u := by
  simp only [D6, hf p kp, hf q kq, hf r kr, hf s ks, hf t kt, hf u ku, DC5 ha hb hc hd he kq kr ks kt ku, DC5 ha hb hc hd he kp kr ks kt ku, DC5 ha hb hc hd he kp kq ks kt ku, DC5 ha hb hc hd he kp kq kr kt ku, DC5 ha hb hc hd he kp kq kr ks ku, DC5 ha hb hc hd he kp kq kr ks kt]
theorem DL1_0 (g h : Nat → Int) (x y : Int) (p : Nat) : D1 (fun j => x * g j + y * h j) p = x * D1 g p + y * D1 h p := by
  rfl
theorem DL2_0 (b : Nat → Int) (g h : Nat → Int) (x y : Int) (p q : Nat) : D2 (fun j => x * g j + y * h j) b p q = x * D2 g b p q + y * D2 h b p q := by
  simp only [D2, DL1_0]; grind
theorem DL2_1 (a : Nat → Int) (g h : Nat → Int) (x y : Int) (p q : Nat) : D2 a (fun j => x * g j + y * h j) p q = x * D2 a g p q + y * D2 a h p q := by
  simp only [D2]; grind
theorem DL3_0 (b c : Nat → Int) (g h : Nat → Int) (x y : Int) (p q r : Nat) : D3 (fun j => x * g j + y * h j) b c p q r = x * D3 g b c p q r + y * D3 h b c p q r := by
  simp only [D3, DL2_0]; grind
theorem DL3_1 (a c : Nat → Int) (g h : Nat → Int) (x y : Int) (p q r : Nat) : D3 a (fun j => x * g j + y * h j) c p q r = x * D3 a g c p q r + y * D3 a h c p q r := by
  simp only [D3, DL2_1]; grind
theorem DL3_2 (a b : Nat → Int) (g h : Nat → Int) (x y : Int) (p q r : Nat) : D3 a b (fun j => x * g j + y * h j) p q r = x * D3 a b g p q r + y * D3 a b h p q r := by
  simp only [D3]; grind
theorem DL4_0 (b c d : Nat → Int) (g h : Nat → Int) (x y : Int) (p q r s : Nat) : D4 (fun j => x * g j + y * h j) b c d p q r s = x * D4 g b c d p q r s + y * D4 h b c d p q r s := by
  simp only [D4, DL3_0]; grind
theorem DL4_1 (a c d : Nat → Int) (g h : Nat → Int) (x y : Int) (p q r s : Nat) : D4 a (fun j => x * g j + y * h j) c d p q r s = x * D4 a g c d p q r s + y * D4 a h c d p q r s := by
  simp only [D4, DL3_1]; grind
theorem DL4_2 (a b d : Nat → Int) (g h : Nat → Int) (x y : Int) (p q r s : Nat) : D4 a b (fun j => x * g j + y * h j) d p q r s = x * D4 a b g d p q r s + y * D4 a b h d p q r s := by
  simp only [D4, DL3_2]; grind
theorem DL4_3 (a b c : Nat → Int) (g h : Nat → Int) (x y : Int) (p q r s : Nat) : D4 a b c (fun j => x * g j + y * h j) p q r s = x * D4 a b c g p q r s + y * D4 a b c h p q r s := by
  simp only [D4]; grind
theorem DL5_0 (b c d e : Nat → Int) (g h : Nat → Int) (x y : Int) (p q r s t : Nat) : D5 (fun j => x * g j + y * h j) b c d e p q r s t = x * D5 g b c d e p q r s t + y * D5 h b c d e p q r s t := by
  simp only [D5, DL4_0]; grind
theorem DL5_1 (a c d e : Nat → Int) (g h : Nat → Int) (x y : Int) (p q r s t : Nat) : D5 a (fun j => x * g j + y * h j) c d e p q r s t = x * D5 a g c d e p q r s t + y * D5 a h c d e p q r s t := by
  simp only [D5, DL4_1]; grind
theorem DL5_2 (a b d e : Nat → Int) (g h : Nat → Int) (x y : Int) (p q r s t : Nat) : D5 a b (fun j => x * g j + y * h j) d e p q r s t = x * D5 a b g d e p q r s t + y * D5 a b h d e p q r s t := by
  simp only [D5, DL4_2]; grind
theorem DL5_3 (a b c e : Nat → Int) (g h : Nat → Int) (x y : Int) (p q r s t : Nat) : D5 a b c (fun j => x * g j + y * h j) e p q r s t = x * D5 a b c g e p q r s t + y * D5 a b c h e p q r s t := by
  simp only [D5, DL4_3]; grind
theorem DL5_4 (a b c d : Nat → Int) (g h : Nat → Int) (x y : Int) (p q r s t : Nat) : D5 a b c d (fun j => x * g j + y * h j) p q r s t = x * D5 a b c d g p q r s t + y * D5 a b c d h p q r s t := by
  simp only [D5]; grind
theorem DL6_0 (b c d e f : Nat → Int) (g h : Nat → Int) (x y : Int) (p q r s t u : Nat) : D6 (fun j => x * g j + y * h j) b c d e f p q r s t u = x * D6 g b c d e f p q r s t u + y * D6 h b c d e f p q r s t u := by
  simp only [D6, DL5_0]; grind
theorem DL6_1 (a c d e f : Nat → Int) (g h : Nat → Int) (x y : Int) (p q r s t u : Nat) : D6 a (fun j => x * g j + y * h j) c d e f p q r s t u = x * D6 a g c d e f p q r s t u + y * D6 a h c d e f p q r s t u := by
  simp only [D6, DL5_1]; grind
theorem DL6_2 (a b d e f : Nat → Int) (g h : Nat → Int) (x y : Int) (p q r s t u : Nat) : D6 a b (fun j => x * g j + y * h j) d e f p q r s t u = x * D6 a b g d e f p q r s t u + y * D6 a b h d e f p q r s t u := by
  simp only [D6, DL5_2]; grind
theorem DL6_3 (a b c e f : Nat → Int) (g h : Nat → Int) (x y : Int) (p q r s t u : Nat) : D6 a b c (fun j => x * g j + y * h j) e f p q r s t u = x * D6 a b c g e f p q r s t u + y * D6 a b c h e f p q r s t u := by
  simp only [D6, DL5_3]; grind
theorem DL6_4 (a b c d f : Nat → Int) (g h : Nat → Int) (x y : Int) (p q r s t u : Nat) : D6 a b c d (fun j => x * g j + y * h j) f p q r s t u = x * D6 a b c d g f p q r s t u + y * D6 a b c d h f p q r s t u := by
  simp only [D6, DL5_4]; grind
theorem DL6_5 (a b c d e : Nat → Int) (g h : Nat → Int) (x y : Int) (p q r s t u : Nat) : D6 a b c d e (fun j => x * g j + y * h j) p q r s t u = x * D6 a b c d e g p q r s t u + y * D6 a b c d e h p q r s t u := by
  simp only [D6]; grind
theorem DW2_0 (a b : Nat → Int) (p q : Nat) : D2 b a p q = -(D2 a b p q) := by
  simp only [D2, D1]; grind
theorem DW3_0 (a b c : Nat → Int) (p q r : Nat) : D3 b a c p q r = -(D3 a b c p q r) := by
  simp only [D3, DW2_0 a b q r, DW2_0 a b p r, DW2_0 a b p q]; grind
theorem DW3_1 (a b c : Nat → Int) (p q r : Nat) : D3 a c b p q r = -(D3 a b c p q r) := by
  simp only [D3, D2]; grind
theorem DW4_0 (a b c d : Nat → Int) (p q r s : Nat) : D4 b a c d p q r s = -(D4 a b c d p q r s) := by
  simp only [D4, DW3_0 a b c q r s, DW3_0 a b c p r s, DW3_0 a b c p q s, DW3_0 a b c p q r]; grind
theorem DW4_1 (a b c d : Nat → Int) (p q r s : Nat) : D4 a c b d p q r s = -(D4 a b c d p q r s) := by
  simp only [D4, DW3_1 a b c q r s, DW3_1 a b c p r s, DW3_1 a b c p q s, DW3_1 a b c p q r]; grind
theorem DW4_2 (a b c d : Nat → Int) (p q r s : Nat) : D4 a b d c p q r s = -(D4 a b c d p q r s) := by
  simp only [D4, D3]; grind
theorem DW5_0 (a b c d e : Nat → Int) (p q r s t : Nat) : D5 b a c d e p q r s t = -(D5 a b c d e p q r s t) := by
  simp only [D5, DW4_0 a b c d q r s t, DW4_0 a b c d p r s t, DW4_0 a b c d p q s t, DW4_0 a b c d p q r t, DW4_0 a b c d p q r s]; grind
theorem DW5_1 (a b c d e : Nat → Int) (p q r s t : Nat) : D5 a c b d e p q r s t = -(D5 a b c d e p q r s t) := by
  simp only [D5, DW4_1 a b c d q r s t, DW4_1 a b c d p r s t, DW4_1 a b c d p q s t, DW4_1 a b c d p q r t, DW4_1 a b c d p q r s]; grind
theorem DW5_2 (a b c d e : Nat → Int) (p q r s t : Nat) : D5 a b d c e p q r s t = -(D5 a b c d e p q r s t) := by
  simp only [D5, DW4_2 a b c d q r s t, DW4_2 a b c d p r s t, DW4_2 a b c d p q s t, DW4_2 a b c d p q r t, DW4_2 a b c d p q r s]; grind
theorem DW5_3 (a b c d e : Nat → Int) (p q r s t : Nat) : D5 a b c e d p q r s t = -(D5 a b c d e p q r s t) := by
  simp only [D5, D4]; grind
theorem DW6_0 (a b c d e f : Nat → Int) (p q r s t u : Nat) : D6 b a c d e f p q r s t u = -(D6 a b c d e f p q r s t u) := by
  simp only [D6, DW5_0 a b c d e q r s t u, DW5_0 a b c d e p r s t u, DW5_0 a b c d e p q s t u, DW5_0 a b c d e p q r t u, DW5_0 a b c d e p q r s u, DW5_0 a b c d e p q r s t]; grind
theorem DW6_1 (a b c d e f : Nat → Int) (p q r s t u : Nat) : D6 a c b d e f p q r s t u = -(D6 a b c d e f p q r s t u) := by
  simp only [D6, DW5_1 a b c d e q r s t u, DW5_1 a b c d e p r s t u, DW5_1 a b c d e p q s t u, DW5_1 a b c d e p q r t u, DW5_1 a b c d e p q r s u, DW5_1 a b c d e p q r s t]; grind
theorem DW6_2 (a b c d e f : Nat → Int) (p q r s t u : Nat) : D6 a b d c e f p q r s t u = -(D6 a b c d e f p q r s t u) := by
  simp only [D6, DW5_2 a b c d e q r s t u, DW5_2 a b c d e p r s t u, DW5_2 a b c d e p q s t u, DW5_2 a b c d e p q r t u, DW5_2 a b c d e p q r s u, DW5_2 a b c d e p q r s t]; grind
theorem DW6_3 (a b c d e f : Nat → Int) (p q r s t u : Nat) : D6 a b c e d f p q r s t u = -(D6 a b c d e f p q r s t u) := by
  simp only [D6, DW5_3 a b c d e q r s t u, DW5_3 a b c d e p r s t u, DW5_3 a b c d e p q s t u, DW5_3 a b c d e p q r t u, DW5_3 a b c d e p q r s u, DW5_3 a b c d e p q r s t]; grind
theorem DW6_4 (a b c d e f : Nat → Int) (p q r s t u : Nat) : D6 a b c d f e p q r s t u = -(D6 a b c d e f p q r s t u) := by
  simp only [D6, D5]; grind
theorem D2x (a b : Nat → Int) (p q : Nat) : D2 a b p q = b q * D1 a p - b p * D1 a q := rfl
theorem D3x (a b c : Nat → Int) (p q r : Nat) : D3 a b c p q r = c r * D2 a b p q - c q * D2 a b p r + c p * D2 a b q r := rfl
theorem D4x (a b c d : Nat → Int) (p q r s : Nat) : D4 a b c d p q r s = d s * D3 a b c p q r - d r * D3 a b c p q s + d q * D3 a b c p r s - d p * D3 a b c q r s := rfl
theorem D5x (a b c d e : Nat → Int) (p q r s t : Nat) : D5 a b c d e p q r s t = e t * D4 a b c d p q r s - e s * D4 a b c d p q r t + e r * D4 a b c d p q s t - e q * D4 a b c d p r s t + e p * D4 a b c d q r s t := rfl
theorem DK2 (a b : Nat → Int) (p q : Nat) : D2 a b p q = b q * D1 a p - a q * D1 b p := by
  simp only [D2, D1]; grind
theorem DK3 (a b c : Nat → Int) (p q r : Nat) : D3 a b c p q r = c r * D2 a b p q - b r * D2 a c p q + a r * D2 b c p q := by
  rw [D3]
  rw [DK2 a b q r, DK2 a b p r]
  rw [D2x b c p q, D2x a c p q]
  grind
theorem DK4 (a b c d : Nat → Int) (p q r s : Nat) : D4 a b c d p q r s = d s * D3 a b c p q r - c s * D3 a b d p q r + b s * D3 a c d p q r - a s * D3 b c d p q r := by
  rw [D4]
  rw [DK3 a b c q r s, DK3 a b c p r s, DK3 a b c p q s]
  rw [D3x b c d p q r, D3x a c d p q r, D3x a b d p q r]
  grind
theorem DK5 (a b c d e : Nat → Int) (p q r s t : Nat) : D5 a b c d e p q r s t = e t * D4 a b c d p q r s - d t * D4 a b c e p q r s + c t * D4 a b d e p q r s - b t * D4 a c d e p q r s + a t * D4 b c d e p q r s := by
  rw [D5]
  rw [DK4 a b c d q r s t, DK4 a b c d p r s t, DK4 a b c d p q s t, DK4 a b c d p q r t]
  rw [D4x b c d e p q r s, D4x a c d e p q r s, D4x a b d e p q r s, D4x a b c e p q r s]
  grind
theorem DK6 (a b c d e f : Nat → Int) (p q r s t u : Nat) : D6 a b c d e f p q r s t u = f u * D5 a b c d e p q r s t - e u * D5 a b c d f p q r s t + d u * D5 a b c e f p q r s t - c u * D5 a b d e f p q r s t + b u * D5 a c d e f p q r s t - a u * D5 b c d e f p q r s t := by
  rw [D6]
  rw [DK5 a b c d e q r s t u, DK5 a b c d e p r s t u, DK5 a b c d e p q s t u, DK5 a b c d e p q r t u, DK5 a b c d e p q r s u]
  rw [D5x b c d e f p q r s t, D5x a c d e f p q r s t, D5x a b d e f p q r s t, D5x a b c e f p q r s t, D5x a b c d f p q r s t]
  grind
theorem DT1 (M : Nat → Nat → Int) (r0 c0 : Nat) : D1 (M r0) c0 = D1 (fun i => M i c0) r0 := by
  rfl
theorem DT2 (M : Nat → Nat → Int) (r0 r1 c0 c1 : Nat) : D2 (M r0) (M r1) c0 c1 = D2 (fun i => M i c0) (fun i => M i c1) r0 r1 := by
  rw [DK2, DT1 M r1 c0, DT1 M r0 c0]
  rfl
theorem DT3 (M : Nat → Nat → Int) (r0 r1 r2 c0 c1 c2 : Nat) : D3 (M r0) (M r1) (M r2) c0 c1 c2 = D3 (fun i => M i c0) (fun i => M i c1) (fun i => M i c2) r0 r1 r2 := by
  rw [DK3, DT2 M r1 r2 c0 c1, DT2 M r0 r2 c0 c1, DT2 M r0 r1 c0 c1]
  rfl
theorem DT4 (M : Nat → Nat → Int) (r0 r1 r2 r3 c0 c1 c2 c3 : Nat) : D4 (M r0) (M r1) (M r2) (M r3) c0 c1 c2 c3 = D4 (fun i => M i c0) (fun i => M i c1) (fun i => M i c2) (fun i => M i c3) r0 r1 r2 r3 := by
  rw [DK4, DT3 M r1 r2 r3 c0 c1 c2, DT3 M r0 r2 r3 c0 c1 c2, DT3 M r0 r1 r3 c0 c1 c2, DT3 M r0 r1 r2 c0 c1 c2]
  rfl
theorem DT5 (M : Nat → Nat → Int) (r0 r1 r2 r3 r4 c0 c1 c2 c3 c4 : Nat) : D5 (M r0) (M r1) (M r2) (M r3) (M r4) c0 c1 c2 c3 c4 = D5 (fun i => M i c0) (fun i => M i c1) (fun i => M i c2) (fun i => M i c3) (fun i => M i c4) r0 r1 r2 r3 r4 := by
  rw [DK5, DT4 M r1 r2 r3 r4 c0 c1 c2 c3, DT4 M r0 r2 r3 r4 c0 c1 c2 c3, DT4 M r0 r1 r3 r4 c0 c1 c2 c3, DT4 M r0 r1 r2 r4 c0 c1 c2 c3, DT4 M r0 r1 r2 r3 c0 c1 c2 c3]
  rfl
theorem DT6 (M : Nat → Nat → Int) (r0 r1 r2 r3 r4 r5 c0 c1 c2 c3 c4 c5 : Nat) : D6 (M r0) (M r1) (M r2) (M r3) (M r4) (M r5) c0 c1 c2 c3 c4 c5 = D6 (fun i => M i c0) (fun i => M i c1) (fun i => M i c2) (fun i => M i c3) (fun i => M i c4) (fun i => M i c5) r0 r1 r2 r3 r4 r5 := by
  rw [DK6, DT5 M r1 r2 r3 r4 r5 c0 c1 c2 c3 c4, DT5 M r0 r2 r3 r4 r5 c0 c1 c2 c3 c4, DT5 M r0 r1 r3 r4 r5 c0 c1 c2 c3 c4, DT5 M r0 r1 r2 r4 r5 c0 c1 c2 c3 c4, DT5 M r0 r1 r2 r3 r5 c0 c1 c2 c3 c4, DT5 M r0 r1 r2 r3 r4 c0 c1 c2 c3 c4]
  rfl
