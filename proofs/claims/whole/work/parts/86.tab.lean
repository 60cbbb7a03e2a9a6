theorem oi_add (a b : Int) : Int64.ofInt a + Int64.ofInt b = Int64.ofInt (a + b) := (Int64.ofInt_add a b).symm
theorem oi_mul (a b : Int) : Int64.ofInt a * Int64.ofInt b = Int64.ofInt (a * b) := (Int64.ofInt_mul a b).symm
theorem oi_neg (a : Int) : -Int64.ofInt a = Int64.ofInt (-a) := (Int64.ofInt_neg a).symm
theorem oi_sub (a b : Int) : Int64.ofInt a - Int64.ofInt b = Int64.ofInt (a - b) := (Int64.ofInt_sub a b).symm
def DM (M : Nat → Nat → Int) : List Nat → Int
  | [] => 1
  | [p] => D1 (M 0) p
  | [p, q] => D2 (M 0) (M 1) p q
  | [p, q, r] => D3 (M 0) (M 1) (M 2) p q r
  | [p, q, r, s] => D4 (M 0) (M 1) (M 2) (M 3) p q r s
  | [p, q, r, s, t] => D5 (M 0) (M 1) (M 2) (M 3) (M 4) p q r s t
  | [p, q, r, s, t, u] => D6 (M 0) (M 1) (M 2) (M 3) (M 4) (M 5) p q r s t u
  | _ => 0
def bl (c : Nat) : List Nat := (List.range 6).filter (fun j => c.testBit j)
def dm (M : Nat → Nat → Int) (c : Nat) : Int := DM M (bl c)
def exI (v φ : Nat → Int) (c : Nat) : Nat → Int × Int
  | 0 => (0, 1)
  | k + 1 => if c.testBit (5 - k) = true then ((exI v φ c k).1 + (exI v φ c k).2 * v (5 - k) * φ (c - 2 ^ (5 - k)), -(exI v φ c k).2) else exI v φ c k
def dsI (v φ : Nat → Int) (k row : Nat) : Nat → Int
  | 0 => 0
  | i + 1 => if k / 2 ^ i % 2 = 1 then dsI v φ k row i + (if (row + pcN k i) % 2 = 0 then v i else -(v i)) * φ (k - 2 ^ i) else dsI v φ k row i
theorem rp_1 (M : Nat → Nat → Int) : (exI (M 0) (dm M) 1 6).1 = dm M 1 := by
  show 0 + 1 * M 0 0 * 1 = D1 (M 0) 0
  simp only [D1]; grind
theorem rs_1 (M : Nat → Nat → Int) : dsI (M 0) (dm M) 1 0 6 = dm M 1 := by
  show 0 + M 0 0 * 1 = D1 (M 0) 0
  simp only [D1]; grind
theorem rp_2 (M : Nat → Nat → Int) : (exI (M 0) (dm M) 2 6).1 = dm M 2 := by
  show 0 + 1 * M 0 1 * 1 = D1 (M 0) 1
  simp only [D1]; grind
theorem rs_2 (M : Nat → Nat → Int) : dsI (M 0) (dm M) 2 0 6 = dm M 2 := by
  show 0 + M 0 1 * 1 = D1 (M 0) 1
  simp only [D1]; grind
theorem rp_3 (M : Nat → Nat → Int) : (exI (M 1) (dm M) 3 6).1 = dm M 3 := by
  show 0 + 1 * M 1 1 * D1 (M 0) 0 + -1 * M 1 0 * D1 (M 0) 1 = D2 (M 0) (M 1) 0 1
  simp only [D2]; grind
theorem rs_3 (M : Nat → Nat → Int) : dsI (M 1) (dm M) 3 1 6 = dm M 3 := by
  show 0 + -(M 1 0) * D1 (M 0) 1 + M 1 1 * D1 (M 0) 0 = D2 (M 0) (M 1) 0 1
  simp only [D2]; grind
theorem rp_4 (M : Nat → Nat → Int) : (exI (M 0) (dm M) 4 6).1 = dm M 4 := by
  show 0 + 1 * M 0 2 * 1 = D1 (M 0) 2
  simp only [D1]; grind
theorem rs_4 (M : Nat → Nat → Int) : dsI (M 0) (dm M) 4 0 6 = dm M 4 := by
  show 0 + M 0 2 * 1 = D1 (M 0) 2
  simp only [D1]; grind
theorem rp_5 (M : Nat → Nat → Int) : (exI (M 1) (dm M) 5 6).1 = dm M 5 := by
  show 0 + 1 * M 1 2 * D1 (M 0) 0 + -1 * M 1 0 * D1 (M 0) 2 = D2 (M 0) (M 1) 0 2
  simp only [D2]; grind
theorem rs_5 (M : Nat → Nat → Int) : dsI (M 1) (dm M) 5 1 6 = dm M 5 := by
  show 0 + -(M 1 0) * D1 (M 0) 2 + M 1 2 * D1 (M 0) 0 = D2 (M 0) (M 1) 0 2
  simp only [D2]; grind
theorem rp_6 (M : Nat → Nat → Int) : (exI (M 1) (dm M) 6 6).1 = dm M 6 := by
  show 0 + 1 * M 1 2 * D1 (M 0) 1 + -1 * M 1 1 * D1 (M 0) 2 = D2 (M 0) (M 1) 1 2
  simp only [D2]; grind
theorem rs_6 (M : Nat → Nat → Int) : dsI (M 1) (dm M) 6 1 6 = dm M 6 := by
  show 0 + -(M 1 1) * D1 (M 0) 2 + M 1 2 * D1 (M 0) 1 = D2 (M 0) (M 1) 1 2
  simp only [D2]; grind
theorem rp_7 (M : Nat → Nat → Int) : (exI (M 2) (dm M) 7 6).1 = dm M 7 := by
  show 0 + 1 * M 2 2 * D2 (M 0) (M 1) 0 1 + -1 * M 2 1 * D2 (M 0) (M 1) 0 2 + -(-1) * M 2 0 * D2 (M 0) (M 1) 1 2 = D3 (M 0) (M 1) (M 2) 0 1 2
  simp only [D3]; grind
theorem rs_7 (M : Nat → Nat → Int) : dsI (M 2) (dm M) 7 2 6 = dm M 7 := by
  show 0 + M 2 0 * D2 (M 0) (M 1) 1 2 + -(M 2 1) * D2 (M 0) (M 1) 0 2 + M 2 2 * D2 (M 0) (M 1) 0 1 = D3 (M 0) (M 1) (M 2) 0 1 2
  simp only [D3]; grind
theorem rp_8 (M : Nat → Nat → Int) : (exI (M 0) (dm M) 8 6).1 = dm M 8 := by
  show 0 + 1 * M 0 3 * 1 = D1 (M 0) 3
  simp only [D1]; grind
theorem rs_8 (M : Nat → Nat → Int) : dsI (M 0) (dm M) 8 0 6 = dm M 8 := by
  show 0 + M 0 3 * 1 = D1 (M 0) 3
  simp only [D1]; grind
theorem rp_9 (M : Nat → Nat → Int) : (exI (M 1) (dm M) 9 6).1 = dm M 9 := by
  show 0 + 1 * M 1 3 * D1 (M 0) 0 + -1 * M 1 0 * D1 (M 0) 3 = D2 (M 0) (M 1) 0 3
  simp only [D2]; grind
theorem rs_9 (M : Nat → Nat → Int) : dsI (M 1) (dm M) 9 1 6 = dm M 9 := by
  show 0 + -(M 1 0) * D1 (M 0) 3 + M 1 3 * D1 (M 0) 0 = D2 (M 0) (M 1) 0 3
  simp only [D2]; grind
theorem rp_10 (M : Nat → Nat → Int) : (exI (M 1) (dm M) 10 6).1 = dm M 10 := by
  show 0 + 1 * M 1 3 * D1 (M 0) 1 + -1 * M 1 1 * D1 (M 0) 3 = D2 (M 0) (M 1) 1 3
  simp only [D2]; grind
theorem rs_10 (M : Nat → Nat → Int) : dsI (M 1) (dm M) 10 1 6 = dm M 10 := by
  show 0 + -(M 1 1) * D1 (M 0) 3 + M 1 3 * D1 (M 0) 1 = D2 (M 0) (M 1) 1 3
  simp only [D2]; grind
theorem rp_11 (M : Nat → Nat → Int) : (exI (M 2) (dm M) 11 6).1 = dm M 11 := by
  show 0 + 1 * M 2 3 * D2 (M 0) (M 1) 0 1 + -1 * M 2 1 * D2 (M 0) (M 1) 0 3 + -(-1) * M 2 0 * D2 (M 0) (M 1) 1 3 = D3 (M 0) (M 1) (M 2) 0 1 3
  simp only [D3]; grind
theorem rs_11 (M : Nat → Nat → Int) : dsI (M 2) (dm M) 11 2 6 = dm M 11 := by
  show 0 + M 2 0 * D2 (M 0) (M 1) 1 3 + -(M 2 1) * D2 (M 0) (M 1) 0 3 + M 2 3 * D2 (M 0) (M 1) 0 1 = D3 (M 0) (M 1) (M 2) 0 1 3
  simp only [D3]; grind
theorem rp_12 (M : Nat → Nat → Int) : (exI (M 1) (dm M) 12 6).1 = dm M 12 := by
  show 0 + 1 * M 1 3 * D1 (M 0) 2 + -1 * M 1 2 * D1 (M 0) 3 = D2 (M 0) (M 1) 2 3
  simp only [D2]; grind
theorem rs_12 (M : Nat → Nat → Int) : dsI (M 1) (dm M) 12 1 6 = dm M 12 := by
  show 0 + -(M 1 2) * D1 (M 0) 3 + M 1 3 * D1 (M 0) 2 = D2 (M 0) (M 1) 2 3
  simp only [D2]; grind
theorem rp_13 (M : Nat → Nat → Int) : (exI (M 2) (dm M) 13 6).1 = dm M 13 := by
  show 0 + 1 * M 2 3 * D2 (M 0) (M 1) 0 2 + -1 * M 2 2 * D2 (M 0) (M 1) 0 3 + -(-1) * M 2 0 * D2 (M 0) (M 1) 2 3 = D3 (M 0) (M 1) (M 2) 0 2 3
  simp only [D3]; grind
theorem rs_13 (M : Nat → Nat → Int) : dsI (M 2) (dm M) 13 2 6 = dm M 13 := by
  show 0 + M 2 0 * D2 (M 0) (M 1) 2 3 + -(M 2 2) * D2 (M 0) (M 1) 0 3 + M 2 3 * D2 (M 0) (M 1) 0 2 = D3 (M 0) (M 1) (M 2) 0 2 3
  simp only [D3]; grind
theorem rp_14 (M : Nat → Nat → Int) : (exI (M 2) (dm M) 14 6).1 = dm M 14 := by
  show 0 + 1 * M 2 3 * D2 (M 0) (M 1) 1 2 + -1 * M 2 2 * D2 (M 0) (M 1) 1 3 + -(-1) * M 2 1 * D2 (M 0) (M 1) 2 3 = D3 (M 0) (M 1) (M 2) 1 2 3
  simp only [D3]; grind
theorem rs_14 (M : Nat → Nat → Int) : dsI (M 2) (dm M) 14 2 6 = dm M 14 := by
  show 0 + M 2 1 * D2 (M 0) (M 1) 2 3 + -(M 2 2) * D2 (M 0) (M 1) 1 3 + M 2 3 * D2 (M 0) (M 1) 1 2 = D3 (M 0) (M 1) (M 2) 1 2 3
  simp only [D3]; grind
theorem rp_15 (M : Nat → Nat → Int) : (exI (M 3) (dm M) 15 6).1 = dm M 15 := by
  show 0 + 1 * M 3 3 * D3 (M 0) (M 1) (M 2) 0 1 2 + -1 * M 3 2 * D3 (M 0) (M 1) (M 2) 0 1 3 + -(-1) * M 3 1 * D3 (M 0) (M 1) (M 2) 0 2 3 + -(-(-1)) * M 3 0 * D3 (M 0) (M 1) (M 2) 1 2 3 = D4 (M 0) (M 1) (M 2) (M 3) 0 1 2 3
  simp only [D4]; grind
theorem rs_15 (M : Nat → Nat → Int) : dsI (M 3) (dm M) 15 3 6 = dm M 15 := by
  show 0 + -(M 3 0) * D3 (M 0) (M 1) (M 2) 1 2 3 + M 3 1 * D3 (M 0) (M 1) (M 2) 0 2 3 + -(M 3 2) * D3 (M 0) (M 1) (M 2) 0 1 3 + M 3 3 * D3 (M 0) (M 1) (M 2) 0 1 2 = D4 (M 0) (M 1) (M 2) (M 3) 0 1 2 3
  simp only [D4]; grind
theorem rp_16 (M : Nat → Nat → Int) : (exI (M 0) (dm M) 16 6).1 = dm M 16 := by
  show 0 + 1 * M 0 4 * 1 = D1 (M 0) 4
  simp only [D1]; grind
theorem rs_16 (M : Nat → Nat → Int) : dsI (M 0) (dm M) 16 0 6 = dm M 16 := by
  show 0 + M 0 4 * 1 = D1 (M 0) 4
  simp only [D1]; grind
theorem rp_17 (M : Nat → Nat → Int) : (exI (M 1) (dm M) 17 6).1 = dm M 17 := by
  show 0 + 1 * M 1 4 * D1 (M 0) 0 + -1 * M 1 0 * D1 (M 0) 4 = D2 (M 0) (M 1) 0 4
  simp only [D2]; grind
theorem rs_17 (M : Nat → Nat → Int) : dsI (M 1) (dm M) 17 1 6 = dm M 17 := by
  show 0 + -(M 1 0) * D1 (M 0) 4 + M 1 4 * D1 (M 0) 0 = D2 (M 0) (M 1) 0 4
  simp only [D2]; grind
theorem rp_18 (M : Nat → Nat → Int) : (exI (M 1) (dm M) 18 6).1 = dm M 18 := by
  show 0 + 1 * M 1 4 * D1 (M 0) 1 + -1 * M 1 1 * D1 (M 0) 4 = D2 (M 0) (M 1) 1 4
  simp only [D2]; grind
theorem rs_18 (M : Nat → Nat → Int) : dsI (M 1) (dm M) 18 1 6 = dm M 18 := by
  show 0 + -(M 1 1) * D1 (M 0) 4 + M 1 4 * D1 (M 0) 1 = D2 (M 0) (M 1) 1 4
  simp only [D2]; grind
theorem rp_19 (M : Nat → Nat → Int) : (exI (M 2) (dm M) 19 6).1 = dm M 19 := by
  show 0 + 1 * M 2 4 * D2 (M 0) (M 1) 0 1 + -1 * M 2 1 * D2 (M 0) (M 1) 0 4 + -(-1) * M 2 0 * D2 (M 0) (M 1) 1 4 = D3 (M 0) (M 1) (M 2) 0 1 4
  simp only [D3]; grind
theorem rs_19 (M : Nat → Nat → Int) : dsI (M 2) (dm M) 19 2 6 = dm M 19 := by
  show 0 + M 2 0 * D2 (M 0) (M 1) 1 4 + -(M 2 1) * D2 (M 0) (M 1) 0 4 + M 2 4 * D2 (M 0) (M 1) 0 1 = D3 (M 0) (M 1) (M 2) 0 1 4
  simp only [D3]; grind
theorem rp_20 (M : Nat → Nat → Int) : (exI (M 1) (dm M) 20 6).1 = dm M 20 := by
  show 0 + 1 * M 1 4 * D1 (M 0) 2 + -1 * M 1 2 * D1 (M 0) 4 = D2 (M 0) (M 1) 2 4
  simp only [D2]; grind
theorem rs_20 (M : Nat → Nat → Int) : dsI (M 1) (dm M) 20 1 6 = dm M 20 := by
  show 0 + -(M 1 2) * D1 (M 0) 4 + M 1 4 * D1 (M 0) 2 = D2 (M 0) (M 1) 2 4
  simp only [D2]; grind
theorem rp_21 (M : Nat → Nat → Int) : (exI (M 2) (dm M) 21 6).1 = dm M 21 := by
  show 0 + 1 * M 2 4 * D2 (M 0) (M 1) 0 2 + -1 * M 2 2 * D2 (M 0) (M 1) 0 4 + -(-1) * M 2 0 * D2 (M 0) (M 1) 2 4 = D3 (M 0) (M 1) (M 2) 0 2 4
  simp only [D3]; grind
theorem rs_21 (M : Nat → Nat → Int) : dsI (M 2) (dm M) 21 2 6 = dm M 21 := by
  show 0 + M 2 0 * D2 (M 0) (M 1) 2 4 + -(M 2 2) * D2 (M 0) (M 1) 0 4 + M 2 4 * D2 (M 0) (M 1) 0 2 = D3 (M 0) (M 1) (M 2) 0 2 4
  simp only [D3]; grind
theorem rp_22 (M : Nat → Nat → Int) : (exI (M 2) (dm M) 22 6).1 = dm M 22 := by
  show 0 + 1 * M 2 4 * D2 (M 0) (M 1) 1 2 + -1 * M 2 2 * D2 (M 0) (M 1) 1 4 + -(-1) * M 2 1 * D2 (M 0) (M 1) 2 4 = D3 (M 0) (M 1) (M 2) 1 2 4
  simp only [D3]; grind
theorem rs_22 (M : Nat → Nat → Int) : dsI (M 2) (dm M) 22 2 6 = dm M 22 := by
  show 0 + M 2 1 * D2 (M 0) (M 1) 2 4 + -(M 2 2) * D2 (M 0) (M 1) 1 4 + M 2 4 * D2 (M 0) (M 1) 1 2 = D3 (M 0) (M 1) (M 2) 1 2 4
  simp only [D3]; grind
theorem rp_23 (M : Nat → Nat → Int) : (exI (M 3) (dm M) 23 6).1 = dm M 23 := by
  show 0 + 1 * M 3 4 * D3 (M 0) (M 1) (M 2) 0 1 2 + -1 * M 3 2 * D3 (M 0) (M 1) (M 2) 0 1 4 + -(-1) * M 3 1 * D3 (M 0) (M 1) (M 2) 0 2 4 + -(-(-1)) * M 3 0 * D3 (M 0) (M 1) (M 2) 1 2 4 = D4 (M 0) (M 1) (M 2) (M 3) 0 1 2 4
  simp only [D4]; grind
theorem rs_23 (M : Nat → Nat → Int) : dsI (M 3) (dm M) 23 3 6 = dm M 23 := by
  show 0 + -(M 3 0) * D3 (M 0) (M 1) (M 2) 1 2 4 + M 3 1 * D3 (M 0) (M 1) (M 2) 0 2 4 + -(M 3 2) * D3 (M 0) (M 1) (M 2) 0 1 4 + M 3 4 * D3 (M 0) (M 1) (M 2) 0 1 2 = D4 (M 0) (M 1) (M 2) (M 3) 0 1 2 4
  simp only [D4]; grind
theorem rp_24 (M : Nat → Nat → Int) : (exI (M 1) (dm M) 24 6).1 = dm M 24 := by
  show 0 + 1 * M 1 4 * D1 (M 0) 3 + -1 * M 1 3 * D1 (M 0) 4 = D2 (M 0) (M 1) 3 4
  simp only [D2]; grind
theorem rs_24 (M : Nat → Nat → Int) : dsI (M 1) (dm M) 24 1 6 = dm M 24 := by
  show 0 + -(M 1 3) * D1 (M 0) 4 + M 1 4 * D1 (M 0) 3 = D2 (M 0) (M 1) 3 4
  simp only [D2]; grind
theorem rp_25 (M : Nat → Nat → Int) : (exI (M 2) (dm M) 25 6).1 = dm M 25 := by
  show 0 + 1 * M 2 4 * D2 (M 0) (M 1) 0 3 + -1 * M 2 3 * D2 (M 0) (M 1) 0 4 + -(-1) * M 2 0 * D2 (M 0) (M 1) 3 4 = D3 (M 0) (M 1) (M 2) 0 3 4
  simp only [D3]; grind
theorem rs_25 (M : Nat → Nat → Int) : dsI (M 2) (dm M) 25 2 6 = dm M 25 := by
  show 0 + M 2 0 * D2 (M 0) (M 1) 3 4 + -(M 2 3) * D2 (M 0) (M 1) 0 4 + M 2 4 * D2 (M 0) (M 1) 0 3 = D3 (M 0) (M 1) (M 2) 0 3 4
  simp only [D3]; grind
theorem rp_26 (M : Nat → Nat → Int) : (exI (M 2) (dm M) 26 6).1 = dm M 26 := by
  show 0 + 1 * M 2 4 * D2 (M 0) (M 1) 1 3 + -1 * M 2 3 * D2 (M 0) (M 1) 1 4 + -(-1) * M 2 1 * D2 (M 0) (M 1) 3 4 = D3 (M 0) (M 1) (M 2) 1 3 4
  simp only [D3]; grind
theorem rs_26 (M : Nat → Nat → Int) : dsI (M 2) (dm M) 26 2 6 = dm M 26 := by
  show 0 + M 2 1 * D2 (M 0) (M 1) 3 4 + -(M 2 3) * D2 (M 0) (M 1) 1 4 + M 2 4 * D2 (M 0) (M 1) 1 3 = D3 (M 0) (M 1) (M 2) 1 3 4
  simp only [D3]; grind
theorem rp_27 (M : Nat → Nat → Int) : (exI (M 3) (dm M) 27 6).1 = dm M 27 := by
  show 0 + 1 * M 3 4 * D3 (M 0) (M 1) (M 2) 0 1 3 + -1 * M 3 3 * D3 (M 0) (M 1) (M 2) 0 1 4 + -(-1) * M 3 1 * D3 (M 0) (M 1) (M 2) 0 3 4 + -(-(-1)) * M 3 0 * D3 (M 0) (M 1) (M 2) 1 3 4 = D4 (M 0) (M 1) (M 2) (M 3) 0 1 3 4
  simp only [D4]; grind
theorem rs_27 (M : Nat → Nat → Int) : dsI (M 3) (dm M) 27 3 6 = dm M 27 := by
  show 0 + -(M 3 0) * D3 (M 0) (M 1) (M 2) 1 3 4 + M 3 1 * D3 (M 0) (M 1) (M 2) 0 3 4 + -(M 3 3) * D3 (M 0) (M 1) (M 2) 0 1 4 + M 3 4 * D3 (M 0) (M 1) (M 2) 0 1 3 = D4 (M 0) (M 1) (M 2) (M 3) 0 1 3 4
  simp only [D4]; grind
theorem rp_28 (M : Nat → Nat → Int) : (exI (M 2) (dm M) 28 6).1 = dm M 28 := by
  show 0 + 1 * M 2 4 * D2 (M 0) (M 1) 2 3 + -1 * M 2 3 * D2 (M 0) (M 1) 2 4 + -(-1) * M 2 2 * D2 (M 0) (M 1) 3 4 = D3 (M 0) (M 1) (M 2) 2 3 4
  simp only [D3]; grind
theorem rs_28 (M : Nat → Nat → Int) : dsI (M 2) (dm M) 28 2 6 = dm M 28 := by
  show 0 + M 2 2 * D2 (M 0) (M 1) 3 4 + -(M 2 3) * D2 (M 0) (M 1) 2 4 + M 2 4 * D2 (M 0) (M 1) 2 3 = D3 (M 0) (M 1) (M 2) 2 3 4
  simp only [D3]; grind
theorem rp_29 (M : Nat → Nat → Int) : (exI (M 3) (dm M) 29 6).1 = dm M 29 := by
  show 0 + 1 * M 3 4 * D3 (M 0) (M 1) (M 2) 0 2 3 + -1 * M 3 3 * D3 (M 0) (M 1) (M 2) 0 2 4 + -(-1) * M 3 2 * D3 (M 0) (M 1) (M 2) 0 3 4 + -(-(-1)) * M 3 0 * D3 (M 0) (M 1) (M 2) 2 3 4 = D4 (M 0) (M 1) (M 2) (M 3) 0 2 3 4
  simp only [D4]; grind
theorem rs_29 (M : Nat → Nat → Int) : dsI (M 3) (dm M) 29 3 6 = dm M 29 := by
  show 0 + -(M 3 0) * D3 (M 0) (M 1) (M 2) 2 3 4 + M 3 2 * D3 (M 0) (M 1) (M 2) 0 3 4 + -(M 3 3) * D3 (M 0) (M 1) (M 2) 0 2 4 + M 3 4 * D3 (M 0) (M 1) (M 2) 0 2 3 = D4 (M 0) (M 1) (M 2) (M 3) 0 2 3 4
  simp only [D4]; grind
theorem rp_30 (M : Nat → Nat → Int) : (exI (M 3) (dm M) 30 6).1 = dm M 30 := by
  show 0 + 1 * M 3 4 * D3 (M 0) (M 1) (M 2) 1 2 3 + -1 * M 3 3 * D3 (M 0) (M 1) (M 2) 1 2 4 + -(-1) * M 3 2 * D3 (M 0) (M 1) (M 2) 1 3 4 + -(-(-1)) * M 3 1 * D3 (M 0) (M 1) (M 2) 2 3 4 = D4 (M 0) (M 1) (M 2) (M 3) 1 2 3 4
  simp only [D4]; grind
theorem rs_30 (M : Nat → Nat → Int) : dsI (M 3) (dm M) 30 3 6 = dm M 30 := by
  show 0 + -(M 3 1) * D3 (M 0) (M 1) (M 2) 2 3 4 + M 3 2 * D3 (M 0) (M 1) (M 2) 1 3 4 + -(M 3 3) * D3 (M 0) (M 1) (M 2) 1 2 4 + M 3 4 * D3 (M 0) (M 1) (M 2) 1 2 3 = D4 (M 0) (M 1) (M 2) (M 3) 1 2 3 4
  simp only [D4]; grind
theorem rp_31 (M : Nat → Nat → Int) : (exI (M 4) (dm M) 31 6).1 = dm M 31 := by
  show 0 + 1 * M 4 4 * D4 (M 0) (M 1) (M 2) (M 3) 0 1 2 3 + -1 * M 4 3 * D4 (M 0) (M 1) (M 2) (M 3) 0 1 2 4 + -(-1) * M 4 2 * D4 (M 0) (M 1) (M 2) (M 3) 0 1 3 4 + -(-(-1)) * M 4 1 * D4 (M 0) (M 1) (M 2) (M 3) 0 2 3 4 + -(-(-(-1))) * M 4 0 * D4 (M 0) (M 1) (M 2) (M 3) 1 2 3 4 = D5 (M 0) (M 1) (M 2) (M 3) (M 4) 0 1 2 3 4
  simp only [D5]; grind
theorem rs_31 (M : Nat → Nat → Int) : dsI (M 4) (dm M) 31 4 6 = dm M 31 := by
  show 0 + M 4 0 * D4 (M 0) (M 1) (M 2) (M 3) 1 2 3 4 + -(M 4 1) * D4 (M 0) (M 1) (M 2) (M 3) 0 2 3 4 + M 4 2 * D4 (M 0) (M 1) (M 2) (M 3) 0 1 3 4 + -(M 4 3) * D4 (M 0) (M 1) (M 2) (M 3) 0 1 2 4 + M 4 4 * D4 (M 0) (M 1) (M 2) (M 3) 0 1 2 3 = D5 (M 0) (M 1) (M 2) (M 3) (M 4) 0 1 2 3 4
  simp only [D5]; grind
theorem rp_32 (M : Nat → Nat → Int) : (exI (M 0) (dm M) 32 6).1 = dm M 32 := by
  show 0 + 1 * M 0 5 * 1 = D1 (M 0) 5
  simp only [D1]; grind
theorem rs_32 (M : Nat → Nat → Int) : dsI (M 0) (dm M) 32 0 6 = dm M 32 := by
  show 0 + M 0 5 * 1 = D1 (M 0) 5
  simp only [D1]; grind
theorem rp_33 (M : Nat → Nat → Int) : (exI (M 1) (dm M) 33 6).1 = dm M 33 := by
  show 0 + 1 * M 1 5 * D1 (M 0) 0 + -1 * M 1 0 * D1 (M 0) 5 = D2 (M 0) (M 1) 0 5
  simp only [D2]; grind
theorem rs_33 (M : Nat → Nat → Int) : dsI (M 1) (dm M) 33 1 6 = dm M 33 := by
  show 0 + -(M 1 0) * D1 (M 0) 5 + M 1 5 * D1 (M 0) 0 = D2 (M 0) (M 1) 0 5
  simp only [D2]; grind
theorem rp_34 (M : Nat → Nat → Int) : (exI (M 1) (dm M) 34 6).1 = dm M 34 := by
  show 0 + 1 * M 1 5 * D1 (M 0) 1 + -1 * M 1 1 * D1 (M 0) 5 = D2 (M 0) (M 1) 1 5
  simp only [D2]; grind
theorem rs_34 (M : Nat → Nat → Int) : dsI (M 1) (dm M) 34 1 6 = dm M 34 := by
  show 0 + -(M 1 1) * D1 (M 0) 5 + M 1 5 * D1 (M 0) 1 = D2 (M 0) (M 1) 1 5
  simp only [D2]; grind
theorem rp_35 (M : Nat → Nat → Int) : (exI (M 2) (dm M) 35 6).1 = dm M 35 := by
  show 0 + 1 * M 2 5 * D2 (M 0) (M 1) 0 1 + -1 * M 2 1 * D2 (M 0) (M 1) 0 5 + -(-1) * M 2 0 * D2 (M 0) (M 1) 1 5 = D3 (M 0) (M 1) (M 2) 0 1 5
  simp only [D3]; grind
theorem rs_35 (M : Nat → Nat → Int) : dsI (M 2) (dm M) 35 2 6 = dm M 35 := by
  show 0 + M 2 0 * D2 (M 0) (M 1) 1 5 + -(M 2 1) * D2 (M 0) (M 1) 0 5 + M 2 5 * D2 (M 0) (M 1) 0 1 = D3 (M 0) (M 1) (M 2) 0 1 5
  simp only [D3]; grind
theorem rp_36 (M : Nat → Nat → Int) : (exI (M 1) (dm M) 36 6).1 = dm M 36 := by
  show 0 + 1 * M 1 5 * D1 (M 0) 2 + -1 * M 1 2 * D1 (M 0) 5 = D2 (M 0) (M 1) 2 5
  simp only [D2]; grind
theorem rs_36 (M : Nat → Nat → Int) : dsI (M 1) (dm M) 36 1 6 = dm M 36 := by
  show 0 + -(M 1 2) * D1 (M 0) 5 + M 1 5 * D1 (M 0) 2 = D2 (M 0) (M 1) 2 5
  simp only [D2]; grind
theorem rp_37 (M : Nat → Nat → Int) : (exI (M 2) (dm M) 37 6).1 = dm M 37 := by
  show 0 + 1 * M 2 5 * D2 (M 0) (M 1) 0 2 + -1 * M 2 2 * D2 (M 0) (M 1) 0 5 + -(-1) * M 2 0 * D2 (M 0) (M 1) 2 5 = D3 (M 0) (M 1) (M 2) 0 2 5
  simp only [D3]; grind
theorem rs_37 (M : Nat → Nat → Int) : dsI (M 2) (dm M) 37 2 6 = dm M 37 := by
  show 0 + M 2 0 * D2 (M 0) (M 1) 2 5 + -(M 2 2) * D2 (M 0) (M 1) 0 5 + M 2 5 * D2 (M 0) (M 1) 0 2 = D3 (M 0) (M 1) (M 2) 0 2 5
  simp only [D3]; grind
theorem rp_38 (M : Nat → Nat → Int) : (exI (M 2) (dm M) 38 6).1 = dm M 38 := by
  show 0 + 1 * M 2 5 * D2 (M 0) (M 1) 1 2 + -1 * M 2 2 * D2 (M 0) (M 1) 1 5 + -(-1) * M 2 1 * D2 (M 0) (M 1) 2 5 = D3 (M 0) (M 1) (M 2) 1 2 5
  simp only [D3]; grind
theorem rs_38 (M : Nat → Nat → Int) : dsI (M 2) (dm M) 38 2 6 = dm M 38 := by
  show 0 + M 2 1 * D2 (M 0) (M 1) 2 5 + -(M 2 2) * D2 (M 0) (M 1) 1 5 + M 2 5 * D2 (M 0) (M 1) 1 2 = D3 (M 0) (M 1) (M 2) 1 2 5
  simp only [D3]; grind
theorem rp_39 (M : Nat → Nat → Int) : (exI (M 3) (dm M) 39 6).1 = dm M 39 := by
  show 0 + 1 * M 3 5 * D3 (M 0) (M 1) (M 2) 0 1 2 + -1 * M 3 2 * D3 (M 0) (M 1) (M 2) 0 1 5 + -(-1) * M 3 1 * D3 (M 0) (M 1) (M 2) 0 2 5 + -(-(-1)) * M 3 0 * D3 (M 0) (M 1) (M 2) 1 2 5 = D4 (M 0) (M 1) (M 2) (M 3) 0 1 2 5
  simp only [D4]; grind
theorem rs_39 (M : Nat → Nat → Int) : dsI (M 3) (dm M) 39 3 6 = dm M 39 := by
  show 0 + -(M 3 0) * D3 (M 0) (M 1) (M 2) 1 2 5 + M 3 1 * D3 (M 0) (M 1) (M 2) 0 2 5 + -(M 3 2) * D3 (M 0) (M 1) (M 2) 0 1 5 + M 3 5 * D3 (M 0) (M 1) (M 2) 0 1 2 = D4 (M 0) (M 1) (M 2) (M 3) 0 1 2 5
  simp only [D4]; grind
theorem rp_40 (M : Nat → Nat → Int) : (exI (M 1) (dm M) 40 6).1 = dm M 40 := by
  show 0 + 1 * M 1 5 * D1 (M 0) 3 + -1 * M 1 3 * D1 (M 0) 5 = D2 (M 0) (M 1) 3 5
  simp only [D2]; grind
theorem rs_40 (M : Nat → Nat → Int) : dsI (M 1) (dm M) 40 1 6 = dm M 40 := by
  show 0 + -(M 1 3) * D1 (M 0) 5 + M 1 5 * D1 (M 0) 3 = D2 (M 0) (M 1) 3 5
  simp only [D2]; grind
theorem rp_41 (M : Nat → Nat → Int) : (exI (M 2) (dm M) 41 6).1 = dm M 41 := by
  show 0 + 1 * M 2 5 * D2 (M 0) (M 1) 0 3 + -1 * M 2 3 * D2 (M 0) (M 1) 0 5 + -(-1) * M 2 0 * D2 (M 0) (M 1) 3 5 = D3 (M 0) (M 1) (M 2) 0 3 5
  simp only [D3]; grind
theorem rs_41 (M : Nat → Nat → Int) : dsI (M 2) (dm M) 41 2 6 = dm M 41 := by
  show 0 + M 2 0 * D2 (M 0) (M 1) 3 5 + -(M 2 3) * D2 (M 0) (M 1) 0 5 + M 2 5 * D2 (M 0) (M 1) 0 3 = D3 (M 0) (M 1) (M 2) 0 3 5
  simp only [D3]; grind
theorem rp_42 (M : Nat → Nat → Int) : (exI (M 2) (dm M) 42 6).1 = dm M 42 := by
  show 0 + 1 * M 2 5 * D2 (M 0) (M 1) 1 3 + -1 * M 2 3 * D2 (M 0) (M 1) 1 5 + -(-1) * M 2 1 * D2 (M 0) (M 1) 3 5 = D3 (M 0) (M 1) (M 2) 1 3 5
  simp only [D3]; grind
theorem rs_42 (M : Nat → Nat → Int) : dsI (M 2) (dm M) 42 2 6 = dm M 42 := by
  show 0 + M 2 1 * D2 (M 0) (M 1) 3 5 + -(M 2 3) * D2 (M 0) (M 1) 1 5 + M 2 5 * D2 (M 0) (M 1) 1 3 = D3 (M 0) (M 1) (M 2) 1 3 5
  simp only [D3]; grind
theorem rp_43 (M : Nat → Nat → Int) : (exI (M 3) (dm M) 43 6).1 = dm M 43 := by
  show 0 + 1 * M 3 5 * D3 (M 0) (M 1) (M 2) 0 1 3 + -1 * M 3 3 * D3 (M 0) (M 1) (M 2) 0 1 5 + -(-1) * M 3 1 * D3 (M 0) (M 1) (M 2) 0 3 5 + -(-(-1)) * M 3 0 * D3 (M 0) (M 1) (M 2) 1 3 5 = D4 (M 0) (M 1) (M 2) (M 3) 0 1 3 5
  simp only [D4]; grind
theorem rs_43 (M : Nat → Nat → Int) : dsI (M 3) (dm M) 43 3 6 = dm M 43 := by
  show 0 + -(M 3 0) * D3 (M 0) (M 1) (M 2) 1 3 5 + M 3 1 * D3 (M 0) (M 1) (M 2) 0 3 5 + -(M 3 3) * D3 (M 0) (M 1) (M 2) 0 1 5 + M 3 5 * D3 (M 0) (M 1) (M 2) 0 1 3 = D4 (M 0) (M 1) (M 2) (M 3) 0 1 3 5
  simp only [D4]; grind
theorem rp_44 (M : Nat → Nat → Int) : (exI (M 2) (dm M) 44 6).1 = dm M 44 := by
  show 0 + 1 * M 2 5 * D2 (M 0) (M 1) 2 3 + -1 * M 2 3 * D2 (M 0) (M 1) 2 5 + -(-1) * M 2 2 * D2 (M 0) (M 1) 3 5 = D3 (M 0) (M 1) (M 2) 2 3 5
  simp only [D3]; grind
theorem rs_44 (M : Nat → Nat → Int) : dsI (M 2) (dm M) 44 2 6 = dm M 44 := by
  show 0 + M 2 2 * D2 (M 0) (M 1) 3 5 + -(M 2 3) * D2 (M 0) (M 1) 2 5 + M 2 5 * D2 (M 0) (M 1) 2 3 = D3 (M 0) (M 1) (M 2) 2 3 5
  simp only [D3]; grind
theorem rp_45 (M : Nat → Nat → Int) : (exI (M 3) (dm M) 45 6).1 = dm M 45 := by
  show 0 + 1 * M 3 5 * D3 (M 0) (M 1) (M 2) 0 2 3 + -1 * M 3 3 * D3 (M 0) (M 1) (M 2) 0 2 5 + -(-1) * M 3 2 * D3 (M 0) (M 1) (M 2) 0 3 5 + -(-(-1)) * M 3 0 * D3 (M 0) (M 1) (M 2) 2 3 5 = D4 (M 0) (M 1) (M 2) (M 3) 0 2 3 5
  simp only [D4]; grind
theorem rs_45 (M : Nat → Nat → Int) : dsI (M 3) (dm M) 45 3 6 = dm M 45 := by
  show 0 + -(M 3 0) * D3 (M 0) (M 1) (M 2) 2 3 5 + M 3 2 * D3 (M 0) (M 1) (M 2) 0 3 5 + -(M 3 3) * D3 (M 0) (M 1) (M 2) 0 2 5 + M 3 5 * D3 (M 0) (M 1) (M 2) 0 2 3 = D4 (M 0) (M 1) (M 2) (M 3) 0 2 3 5
  simp only [D4]; grind
theorem rp_46 (M : Nat → Nat → Int) : (exI (M 3) (dm M) 46 6).1 = dm M 46 := by
  show 0 + 1 * M 3 5 * D3 (M 0) (M 1) (M 2) 1 2 3 + -1 * M 3 3 * D3 (M 0) (M 1) (M 2) 1 2 5 + -(-1) * M 3 2 * D3 (M 0) (M 1) (M 2) 1 3 5 + -(-(-1)) * M 3 1 * D3 (M 0) (M 1) (M 2) 2 3 5 = D4 (M 0) (M 1) (M 2) (M 3) 1 2 3 5
  simp only [D4]; grind
theorem rs_46 (M : Nat → Nat → Int) : dsI (M 3) (dm M) 46 3 6 = dm M 46 := by
  show 0 + -(M 3 1) * D3 (M 0) (M 1) (M 2) 2 3 5 + M 3 2 * D3 (M 0) (M 1) (M 2) 1 3 5 + -(M 3 3) * D3 (M 0) (M 1) (M 2) 1 2 5 + M 3 5 * D3 (M 0) (M 1) (M 2) 1 2 3 = D4 (M 0) (M 1) (M 2) (M 3) 1 2 3 5
  simp only [D4]; grind
theorem rp_47 (M : Nat → Nat → Int) : (exI (M 4) (dm M) 47 6).1 = dm M 47 := by
  show 0 + 1 * M 4 5 * D4 (M 0) (M 1) (M 2) (M 3) 0 1 2 3 + -1 * M 4 3 * D4 (M 0) (M 1) (M 2) (M 3) 0 1 2 5 + -(-1) * M 4 2 * D4 (M 0) (M 1) (M 2) (M 3) 0 1 3 5 + -(-(-1)) * M 4 1 * D4 (M 0) (M 1) (M 2) (M 3) 0 2 3 5 + -(-(-(-1))) * M 4 0 * D4 (M 0) (M 1) (M 2) (M 3) 1 2 3 5 = D5 (M 0) (M 1) (M 2) (M 3) (M 4) 0 1 2 3 5
  simp only [D5]; grind
theorem rs_47 (M : Nat → Nat → Int) : dsI (M 4) (dm M) 47 4 6 = dm M 47 := by
  show 0 + M 4 0 * D4 (M 0) (M 1) (M 2) (M 3) 1 2 3 5 + -(M 4 1) * D4 (M 0) (M 1) (M 2) (M 3) 0 2 3 5 + M 4 2 * D4 (M 0) (M 1) (M 2) (M 3) 0 1 3 5 + -(M 4 3) * D4 (M 0) (M 1) (M 2) (M 3) 0 1 2 5 + M 4 5 * D4 (M 0) (M 1) (M 2) (M 3) 0 1 2 3 = D5 (M 0) (M 1) (M 2) (M 3) (M 4) 0 1 2 3 5
  simp only [D5]; grind
theorem rp_48 (M : Nat → Nat → Int) : (exI (M 1) (dm M) 48 6).1 = dm M 48 := by
  show 0 + 1 * M 1 5 * D1 (M 0) 4 + -1 * M 1 4 * D1 (M 0) 5 = D2 (M 0) (M 1) 4 5
  simp only [D2]; grind
theorem rs_48 (M : Nat → Nat → Int) : dsI (M 1) (dm M) 48 1 6 = dm M 48 := by
  show 0 + -(M 1 4) * D1 (M 0) 5 + M 1 5 * D1 (M 0) 4 = D2 (M 0) (M 1) 4 5
  simp only [D2]; grind
theorem rp_49 (M : Nat → Nat → Int) : (exI (M 2) (dm M) 49 6).1 = dm M 49 := by
  show 0 + 1 * M 2 5 * D2 (M 0) (M 1) 0 4 + -1 * M 2 4 * D2 (M 0) (M 1) 0 5 + -(-1) * M 2 0 * D2 (M 0) (M 1) 4 5 = D3 (M 0) (M 1) (M 2) 0 4 5
  simp only [D3]; grind
theorem rs_49 (M : Nat → Nat → Int) : dsI (M 2) (dm M) 49 2 6 = dm M 49 := by
  show 0 + M 2 0 * D2 (M 0) (M 1) 4 5 + -(M 2 4) * D2 (M 0) (M 1) 0 5 + M 2 5 * D2 (M 0) (M 1) 0 4 = D3 (M 0) (M 1) (M 2) 0 4 5
  simp only [D3]; grind
theorem rp_50 (M : Nat → Nat → Int) : (exI (M 2) (dm M) 50 6).1 = dm M 50 := by
  show 0 + 1 * M 2 5 * D2 (M 0) (M 1) 1 4 + -1 * M 2 4 * D2 (M 0) (M 1) 1 5 + -(-1) * M 2 1 * D2 (M 0) (M 1) 4 5 = D3 (M 0) (M 1) (M 2) 1 4 5
  simp only [D3]; grind
theorem rs_50 (M : Nat → Nat → Int) : dsI (M 2) (dm M) 50 2 6 = dm M 50 := by
  show 0 + M 2 1 * D2 (M 0) (M 1) 4 5 + -(M 2 4) * D2 (M 0) (M 1) 1 5 + M 2 5 * D2 (M 0) (M 1) 1 4 = D3 (M 0) (M 1) (M 2) 1 4 5
  simp only [D3]; grind
theorem rp_51 (M : Nat → Nat → Int) : (exI (M 3) (dm M) 51 6).1 = dm M 51 := by
  show 0 + 1 * M 3 5 * D3 (M 0) (M 1) (M 2) 0 1 4 + -1 * M 3 4 * D3 (M 0) (M 1) (M 2) 0 1 5 + -(-1) * M 3 1 * D3 (M 0) (M 1) (M 2) 0 4 5 + -(-(-1)) * M 3 0 * D3 (M 0) (M 1) (M 2) 1 4 5 = D4 (M 0) (M 1) (M 2) (M 3) 0 1 4 5
  simp only [D4]; grind
theorem rs_51 (M : Nat → Nat → Int) : dsI (M 3) (dm M) 51 3 6 = dm M 51 := by
  show 0 + -(M 3 0) * D3 (M 0) (M 1) (M 2) 1 4 5 + M 3 1 * D3 (M 0) (M 1) (M 2) 0 4 5 + -(M 3 4) * D3 (M 0) (M 1) (M 2) 0 1 5 + M 3 5 * D3 (M 0) (M 1) (M 2) 0 1 4 = D4 (M 0) (M 1) (M 2) (M 3) 0 1 4 5
  simp only [D4]; grind
theorem rp_52 (M : Nat → Nat → Int) : (exI (M 2) (dm M) 52 6).1 = dm M 52 := by
  show 0 + 1 * M 2 5 * D2 (M 0) (M 1) 2 4 + -1 * M 2 4 * D2 (M 0) (M 1) 2 5 + -(-1) * M 2 2 * D2 (M 0) (M 1) 4 5 = D3 (M 0) (M 1) (M 2) 2 4 5
  simp only [D3]; grind
theorem rs_52 (M : Nat → Nat → Int) : dsI (M 2) (dm M) 52 2 6 = dm M 52 := by
  show 0 + M 2 2 * D2 (M 0) (M 1) 4 5 + -(M 2 4) * D2 (M 0) (M 1) 2 5 + M 2 5 * D2 (M 0) (M 1) 2 4 = D3 (M 0) (M 1) (M 2) 2 4 5
  simp only [D3]; grind
theorem rp_53 (M : Nat → Nat → Int) : (exI (M 3) (dm M) 53 6).1 = dm M 53 := by
  show 0 + 1 * M 3 5 * D3 (M 0) (M 1) (M 2) 0 2 4 + -1 * M 3 4 * D3 (M 0) (M 1) (M 2) 0 2 5 + -(-1) * M 3 2 * D3 (M 0) (M 1) (M 2) 0 4 5 + -(-(-1)) * M 3 0 * D3 (M 0) (M 1) (M 2) 2 4 5 = D4 (M 0) (M 1) (M 2) (M 3) 0 2 4 5
  simp only [D4]; grind
theorem rs_53 (M : Nat → Nat → Int) : dsI (M 3) (dm M) 53 3 6 = dm M 53 := by
  show 0 + -(M 3 0) * D3 (M 0) (M 1) (M 2) 2 4 5 + M 3 2 * D3 (M 0) (M 1) (M 2) 0 4 5 + -(M 3 4) * D3 (M 0) (M 1) (M 2) 0 2 5 + M 3 5 * D3 (M 0) (M 1) (M 2) 0 2 4 = D4 (M 0) (M 1) (M 2) (M 3) 0 2 4 5
  simp only [D4]; grind
theorem rp_54 (M : Nat → Nat → Int) : (exI (M 3) (dm M) 54 6).1 = dm M 54 := by
  show 0 + 1 * M 3 5 * D3 (M 0) (M 1) (M 2) 1 2 4 + -1 * M 3 4 * D3 (M 0) (M 1) (M 2) 1 2 5 + -(-1) * M 3 2 * D3 (M 0) (M 1) (M 2) 1 4 5 + -(-(-1)) * M 3 1 * D3 (M 0) (M 1) (M 2) 2 4 5 = D4 (M 0) (M 1) (M 2) (M 3) 1 2 4 5
  simp only [D4]; grind
theorem rs_54 (M : Nat → Nat → Int) : dsI (M 3) (dm M) 54 3 6 = dm M 54 := by
  show 0 + -(M 3 1) * D3 (M 0) (M 1) (M 2) 2 4 5 + M 3 2 * D3 (M 0) (M 1) (M 2) 1 4 5 + -(M 3 4) * D3 (M 0) (M 1) (M 2) 1 2 5 + M 3 5 * D3 (M 0) (M 1) (M 2) 1 2 4 = D4 (M 0) (M 1) (M 2) (M 3) 1 2 4 5
  simp only [D4]; grind
theorem rp_55 (M : Nat → Nat → Int) : (exI (M 4) (dm M) 55 6).1 = dm M 55 := by
  show 0 + 1 * M 4 5 * D4 (M 0) (M 1) (M 2) (M 3) 0 1 2 4 + -1 * M 4 4 * D4 (M 0) (M 1) (M 2) (M 3) 0 1 2 5 + -(-1) * M 4 2 * D4 (M 0) (M 1) (M 2) (M 3) 0 1 4 5 + -(-(-1)) * M 4 1 * D4 (M 0) (M 1) (M 2) (M 3) 0 2 4 5 + -(-(-(-1))) * M 4 0 * D4 (M 0) (M 1) (M 2) (M 3) 1 2 4 5 = D5 (M 0) (M 1) (M 2) (M 3) (M 4) 0 1 2 4 5
  simp only [D5]; grind
theorem rs_55 (M : Nat → Nat → Int) : dsI (M 4) (dm M) 55 4 6 = dm M 55 := by
  show 0 + M 4 0 * D4 (M 0) (M 1) (M 2) (M 3) 1 2 4 5 + -(M 4 1) * D4 (M 0) (M 1) (M 2) (M 3) 0 2 4 5 + M 4 2 * D4 (M 0) (M 1) (M 2) (M 3) 0 1 4 5 + -(M 4 4) * D4 (M 0) (M 1) (M 2) (M 3) 0 1 2 5 + M 4 5 * D4 (M 0) (M 1) (M 2) (M 3) 0 1 2 4 = D5 (M 0) (M 1) (M 2) (M 3) (M 4) 0 1 2 4 5
  simp only [D5]; grind
theorem rp_56 (M : Nat → Nat → Int) : (exI (M 2) (dm M) 56 6).1 = dm M 56 := by
  show 0 + 1 * M 2 5 * D2 (M 0) (M 1) 3 4 + -1 * M 2 4 * D2 (M 0) (M 1) 3 5 + -(-1) * M 2 3 * D2 (M 0) (M 1) 4 5 = D3 (M 0) (M 1) (M 2) 3 4 5
  simp only [D3]; grind
theorem rs_56 (M : Nat → Nat → Int) : dsI (M 2) (dm M) 56 2 6 = dm M 56 := by
  show 0 + M 2 3 * D2 (M 0) (M 1) 4 5 + -(M 2 4) * D2 (M 0) (M 1) 3 5 + M 2 5 * D2 (M 0) (M 1) 3 4 = D3 (M 0) (M 1) (M 2) 3 4 5
  simp only [D3]; grind
theorem rp_57 (M : Nat → Nat → Int) : (exI (M 3) (dm M) 57 6).1 = dm M 57 := by
  show 0 + 1 * M 3 5 * D3 (M 0) (M 1) (M 2) 0 3 4 + -1 * M 3 4 * D3 (M 0) (M 1) (M 2) 0 3 5 + -(-1) * M 3 3 * D3 (M 0) (M 1) (M 2) 0 4 5 + -(-(-1)) * M 3 0 * D3 (M 0) (M 1) (M 2) 3 4 5 = D4 (M 0) (M 1) (M 2) (M 3) 0 3 4 5
  simp only [D4]; grind
theorem rs_57 (M : Nat → Nat → Int) : dsI (M 3) (dm M) 57 3 6 = dm M 57 := by
  show 0 + -(M 3 0) * D3 (M 0) (M 1) (M 2) 3 4 5 + M 3 3 * D3 (M 0) (M 1) (M 2) 0 4 5 + -(M 3 4) * D3 (M 0) (M 1) (M 2) 0 3 5 + M 3 5 * D3 (M 0) (M 1) (M 2) 0 3 4 = D4 (M 0) (M 1) (M 2) (M 3) 0 3 4 5
  simp only [D4]; grind
theorem rp_58 (M : Nat → Nat → Int) : (exI (M 3) (dm M) 58 6).1 = dm M 58 := by
  show 0 + 1 * M 3 5 * D3 (M 0) (M 1) (M 2) 1 3 4 + -1 * M 3 4 * D3 (M 0) (M 1) (M 2) 1 3 5 + -(-1) * M 3 3 * D3 (M 0) (M 1) (M 2) 1 4 5 + -(-(-1)) * M 3 1 * D3 (M 0) (M 1) (M 2) 3 4 5 = D4 (M 0) (M 1) (M 2) (M 3) 1 3 4 5
  simp only [D4]; grind
theorem rs_58 (M : Nat → Nat → Int) : dsI (M 3) (dm M) 58 3 6 = dm M 58 := by
  show 0 + -(M 3 1) * D3 (M 0) (M 1) (M 2) 3 4 5 + M 3 3 * D3 (M 0) (M 1) (M 2) 1 4 5 + -(M 3 4) * D3 (M 0) (M 1) (M 2) 1 3 5 + M 3 5 * D3 (M 0) (M 1) (M 2) 1 3 4 = D4 (M 0) (M 1) (M 2) (M 3) 1 3 4 5
  simp only [D4]; grind
theorem rp_59 (M : Nat → Nat → Int) : (exI (M 4) (dm M) 59 6).1 = dm M 59 := by
  show 0 + 1 * M 4 5 * D4 (M 0) (M 1) (M 2) (M 3) 0 1 3 4 + -1 * M 4 4 * D4 (M 0) (M 1) (M 2) (M 3) 0 1 3 5 + -(-1) * M 4 3 * D4 (M 0) (M 1) (M 2) (M 3) 0 1 4 5 + -(-(-1)) * M 4 1 * D4 (M 0) (M 1) (M 2) (M 3) 0 3 4 5 + -(-(-(-1))) * M 4 0 * D4 (M 0) (M 1) (M 2) (M 3) 1 3 4 5 = D5 (M 0) (M 1) (M 2) (M 3) (M 4) 0 1 3 4 5
  simp only [D5]; grind
theorem rs_59 (M : Nat → Nat → Int) : dsI (M 4) (dm M) 59 4 6 = dm M 59 := by
  show 0 + M 4 0 * D4 (M 0) (M 1) (M 2) (M 3) 1 3 4 5 + -(M 4 1) * D4 (M 0) (M 1) (M 2) (M 3) 0 3 4 5 + M 4 3 * D4 (M 0) (M 1) (M 2) (M 3) 0 1 4 5 + -(M 4 4) * D4 (M 0) (M 1) (M 2) (M 3) 0 1 3 5 + M 4 5 * D4 (M 0) (M 1) (M 2) (M 3) 0 1 3 4 = D5 (M 0) (M 1) (M 2) (M 3) (M 4) 0 1 3 4 5
  simp only [D5]; grind
theorem rp_60 (M : Nat → Nat → Int) : (exI (M 3) (dm M) 60 6).1 = dm M 60 := by
  show 0 + 1 * M 3 5 * D3 (M 0) (M 1) (M 2) 2 3 4 + -1 * M 3 4 * D3 (M 0) (M 1) (M 2) 2 3 5 + -(-1) * M 3 3 * D3 (M 0) (M 1) (M 2) 2 4 5 + -(-(-1)) * M 3 2 * D3 (M 0) (M 1) (M 2) 3 4 5 = D4 (M 0) (M 1) (M 2) (M 3) 2 3 4 5
  simp only [D4]; grind
theorem rs_60 (M : Nat → Nat → Int) : dsI (M 3) (dm M) 60 3 6 = dm M 60 := by
  show 0 + -(M 3 2) * D3 (M 0) (M 1) (M 2) 3 4 5 + M 3 3 * D3 (M 0) (M 1) (M 2) 2 4 5 + -(M 3 4) * D3 (M 0) (M 1) (M 2) 2 3 5 + M 3 5 * D3 (M 0) (M 1) (M 2) 2 3 4 = D4 (M 0) (M 1) (M 2) (M 3) 2 3 4 5
  simp only [D4]; grind
theorem rp_61 (M : Nat → Nat → Int) : (exI (M 4) (dm M) 61 6).1 = dm M 61 := by
  show 0 + 1 * M 4 5 * D4 (M 0) (M 1) (M 2) (M 3) 0 2 3 4 + -1 * M 4 4 * D4 (M 0) (M 1) (M 2) (M 3) 0 2 3 5 + -(-1) * M 4 3 * D4 (M 0) (M 1) (M 2) (M 3) 0 2 4 5 + -(-(-1)) * M 4 2 * D4 (M 0) (M 1) (M 2) (M 3) 0 3 4 5 + -(-(-(-1))) * M 4 0 * D4 (M 0) (M 1) (M 2) (M 3) 2 3 4 5 = D5 (M 0) (M 1) (M 2) (M 3) (M 4) 0 2 3 4 5
  simp only [D5]; grind
theorem rs_61 (M : Nat → Nat → Int) : dsI (M 4) (dm M) 61 4 6 = dm M 61 := by
  show 0 + M 4 0 * D4 (M 0) (M 1) (M 2) (M 3) 2 3 4 5 + -(M 4 2) * D4 (M 0) (M 1) (M 2) (M 3) 0 3 4 5 + M 4 3 * D4 (M 0) (M 1) (M 2) (M 3) 0 2 4 5 + -(M 4 4) * D4 (M 0) (M 1) (M 2) (M 3) 0 2 3 5 + M 4 5 * D4 (M 0) (M 1) (M 2) (M 3) 0 2 3 4 = D5 (M 0) (M 1) (M 2) (M 3) (M 4) 0 2 3 4 5
  simp only [D5]; grind
theorem rp_62 (M : Nat → Nat → Int) : (exI (M 4) (dm M) 62 6).1 = dm M 62 := by
  show 0 + 1 * M 4 5 * D4 (M 0) (M 1) (M 2) (M 3) 1 2 3 4 + -1 * M 4 4 * D4 (M 0) (M 1) (M 2) (M 3) 1 2 3 5 + -(-1) * M 4 3 * D4 (M 0) (M 1) (M 2) (M 3) 1 2 4 5 + -(-(-1)) * M 4 2 * D4 (M 0) (M 1) (M 2) (M 3) 1 3 4 5 + -(-(-(-1))) * M 4 1 * D4 (M 0) (M 1) (M 2) (M 3) 2 3 4 5 = D5 (M 0) (M 1) (M 2) (M 3) (M 4) 1 2 3 4 5
  simp only [D5]; grind
theorem rs_62 (M : Nat → Nat → Int) : dsI (M 4) (dm M) 62 4 6 = dm M 62 := by
  show 0 + M 4 1 * D4 (M 0) (M 1) (M 2) (M 3) 2 3 4 5 + -(M 4 2) * D4 (M 0) (M 1) (M 2) (M 3) 1 3 4 5 + M 4 3 * D4 (M 0) (M 1) (M 2) (M 3) 1 2 4 5 + -(M 4 4) * D4 (M 0) (M 1) (M 2) (M 3) 1 2 3 5 + M 4 5 * D4 (M 0) (M 1) (M 2) (M 3) 1 2 3 4 = D5 (M 0) (M 1) (M 2) (M 3) (M 4) 1 2 3 4 5
  simp only [D5]; grind
theorem rp_63 (M : Nat → Nat → Int) : (exI (M 5) (dm M) 63 6).1 = dm M 63 := by
  show 0 + 1 * M 5 5 * D5 (M 0) (M 1) (M 2) (M 3) (M 4) 0 1 2 3 4 + -1 * M 5 4 * D5 (M 0) (M 1) (M 2) (M 3) (M 4) 0 1 2 3 5 + -(-1) * M 5 3 * D5 (M 0) (M 1) (M 2) (M 3) (M 4) 0 1 2 4 5 + -(-(-1)) * M 5 2 * D5 (M 0) (M 1) (M 2) (M 3) (M 4) 0 1 3 4 5 + -(-(-(-1))) * M 5 1 * D5 (M 0) (M 1) (M 2) (M 3) (M 4) 0 2 3 4 5 + -(-(-(-(-1)))) * M 5 0 * D5 (M 0) (M 1) (M 2) (M 3) (M 4) 1 2 3 4 5 = D6 (M 0) (M 1) (M 2) (M 3) (M 4) (M 5) 0 1 2 3 4 5
  simp only [D6]; grind
theorem rs_63 (M : Nat → Nat → Int) : dsI (M 5) (dm M) 63 5 6 = dm M 63 := by
  show 0 + -(M 5 0) * D5 (M 0) (M 1) (M 2) (M 3) (M 4) 1 2 3 4 5 + M 5 1 * D5 (M 0) (M 1) (M 2) (M 3) (M 4) 0 2 3 4 5 + -(M 5 2) * D5 (M 0) (M 1) (M 2) (M 3) (M 4) 0 1 3 4 5 + M 5 3 * D5 (M 0) (M 1) (M 2) (M 3) (M 4) 0 1 2 4 5 + -(M 5 4) * D5 (M 0) (M 1) (M 2) (M 3) (M 4) 0 1 2 3 5 + M 5 5 * D5 (M 0) (M 1) (M 2) (M 3) (M 4) 0 1 2 3 4 = D6 (M 0) (M 1) (M 2) (M 3) (M 4) (M 5) 0 1 2 3 4 5
  simp only [D6]; grind
theorem rp_all (M : Nat → Nat → Int) : ∀ c, 0 < c → c < 64 → (exI (M (popc c - 1)) (dm M) c 6).1 = dm M c := by
  intro c h0 h1
  match c, h0, h1 with
  | 0, h, _ => exact absurd h (by omega)
  | 1, _, _ => exact rp_1 M
  | 2, _, _ => exact rp_2 M
  | 3, _, _ => exact rp_3 M
  | 4, _, _ => exact rp_4 M
  | 5, _, _ => exact rp_5 M
  | 6, _, _ => exact rp_6 M
  | 7, _, _ => exact rp_7 M
  | 8, _, _ => exact rp_8 M
  | 9, _, _ => exact rp_9 M
  | 10, _, _ => exact rp_10 M
  | 11, _, _ => exact rp_11 M
  | 12, _, _ => exact rp_12 M
  | 13, _, _ => exact rp_13 M
  | 14, _, _ => exact rp_14 M
  | 15, _, _ => exact rp_15 M
  | 16, _, _ => exact rp_16 M
  | 17, _, _ => exact rp_17 M
  | 18, _, _ => exact rp_18 M
  | 19, _, _ => exact rp_19 M
  | 20, _, _ => exact rp_20 M
  | 21, _, _ => exact rp_21 M
  | 22, _, _ => exact rp_22 M
  | 23, _, _ => exact rp_23 M
  | 24, _, _ => exact rp_24 M
  | 25, _, _ => exact rp_25 M
  | 26, _, _ => exact rp_26 M
  | 27, _, _ => exact rp_27 M
  | 28, _, _ => exact rp_28 M
  | 29, _, _ => exact rp_29 M
  | 30, _, _ => exact rp_30 M
  | 31, _, _ => exact rp_31 M
  | 32, _, _ => exact rp_32 M
  | 33, _, _ => exact rp_33 M
  | 34, _, _ => exact rp_34 M
  | 35, _, _ => exact rp_35 M
  | 36, _, _ => exact rp_36 M
  | 37, _, _ => exact rp_37 M
  | 38, _, _ => exact rp_38 M
  | 39, _, _ => exact rp_39 M
  | 40, _, _ => exact rp_40 M
  | 41, _, _ => exact rp_41 M
  | 42, _, _ => exact rp_42 M
  | 43, _, _ => exact rp_43 M
  | 44, _, _ => exact rp_44 M
  | 45, _, _ => exact rp_45 M
  | 46, _, _ => exact rp_46 M
  | 47, _, _ => exact rp_47 M
  | 48, _, _ => exact rp_48 M
  | 49, _, _ => exact rp_49 M
  | 50, _, _ => exact rp_50 M
  | 51, _, _ => exact rp_51 M
  | 52, _, _ => exact rp_52 M
  | 53, _, _ => exact rp_53 M
  | 54, _, _ => exact rp_54 M
  | 55, _, _ => exact rp_55 M
  | 56, _, _ => exact rp_56 M
  | 57, _, _ => exact rp_57 M
  | 58, _, _ => exact rp_58 M
  | 59, _, _ => exact rp_59 M
  | 60, _, _ => exact rp_60 M
  | 61, _, _ => exact rp_61 M
  | 62, _, _ => exact rp_62 M
  | 63, _, _ => exact rp_63 M
  | n + 64, _, h => exact absurd h (by omega)
theorem rs_all (M : Nat → Nat → Int) : ∀ c, 0 < c → c < 64 → dsI (M (popc c - 1)) (dm M) c (popc c - 1) 6 = dm M c := by
  intro c h0 h1
  match c, h0, h1 with
  | 0, h, _ => exact absurd h (by omega)
  | 1, _, _ => exact rs_1 M
  | 2, _, _ => exact rs_2 M
  | 3, _, _ => exact rs_3 M
  | 4, _, _ => exact rs_4 M
  | 5, _, _ => exact rs_5 M
  | 6, _, _ => exact rs_6 M
  | 7, _, _ => exact rs_7 M
  | 8, _, _ => exact rs_8 M
  | 9, _, _ => exact rs_9 M
  | 10, _, _ => exact rs_10 M
  | 11, _, _ => exact rs_11 M
  | 12, _, _ => exact rs_12 M
  | 13, _, _ => exact rs_13 M
  | 14, _, _ => exact rs_14 M
  | 15, _, _ => exact rs_15 M
  | 16, _, _ => exact rs_16 M
  | 17, _, _ => exact rs_17 M
  | 18, _, _ => exact rs_18 M
  | 19, _, _ => exact rs_19 M
  | 20, _, _ => exact rs_20 M
  | 21, _, _ => exact rs_21 M
  | 22, _, _ => exact rs_22 M
  | 23, _, _ => exact rs_23 M
  | 24, _, _ => exact rs_24 M
  | 25, _, _ => exact rs_25 M
  | 26, _, _ => exact rs_26 M
  | 27, _, _ => exact rs_27 M
  | 28, _, _ => exact rs_28 M
  | 29, _, _ => exact rs_29 M
  | 30, _, _ => exact rs_30 M
  | 31, _, _ => exact rs_31 M
  | 32, _, _ => exact rs_32 M
  | 33, _, _ => exact rs_33 M
  | 34, _, _ => exact rs_34 M
  | 35, _, _ => exact rs_35 M
  | 36, _, _ => exact rs_36 M
  | 37, _, _ => exact rs_37 M
  | 38, _, _ => exact rs_38 M
  | 39, _, _ => exact rs_39 M
  | 40, _, _ => exact rs_40 M
  | 41, _, _ => exact rs_41 M
  | 42, _, _ => exact rs_42 M
  | 43, _, _ => exact rs_43 M
  | 44, _, _ => exact rs_44 M
  | 45, _, _ => exact rs_45 M
  | 46, _, _ => exact rs_46 M
  | 47, _, _ => exact rs_47 M
  | 48, _, _ => exact rs_48 M
  | 49, _, _ => exact rs_49 M
  | 50, _, _ => exact rs_50 M
  | 51, _, _ => exact rs_51 M
  | 52, _, _ => exact rs_52 M
  | 53, _, _ => exact rs_53 M
  | 54, _, _ => exact rs_54 M
  | 55, _, _ => exact rs_55 M
  | 56, _, _ => exact rs_56 M
  | 57, _, _ => exact rs_57 M
  | 58, _, _ => exact rs_58 M
  | 59, _, _ => exact rs_59 M
  | 60, _, _ => exact rs_60 M
  | 61, _, _ => exact rs_61 M
  | 62, _, _ => exact rs_62 M
  | 63, _, _ => exact rs_63 M
  | n + 64, _, h => exact absurd h (by omega)
theorem exG_I {e m : Nat → Int64} {r c : Nat} {v φ : Nat → Int} (he : ∀ j, j < 6 → c.testBit j = true → e (6 * r + j) = Int64.ofInt (v j)) (hm : ∀ j, j < 6 → c.testBit j = true → m (c - 2 ^ j) = Int64.ofInt (φ (c - 2 ^ j))) : ∀ k, k ≤ 6 → (exG e m r c k).1 = Int64.ofInt (exI v φ c k).1 ∧ (exG e m r c k).2 = Int64.ofInt (exI v φ c k).2 := by
  intro k
  induction k with
  | zero => intro _; rw [exG, exI]; exact ⟨rfl, rfl⟩
  | succ k ih =>
    intro hk
    obtain ⟨i1, i2⟩ := ih (by omega)
    rw [exG, exI]
    by_cases z : c.testBit (5 - k) = true
    · rw [if_pos z, if_pos z]
      refine ⟨?_, ?_⟩
      · show (exG e m r c k).1 + (exG e m r c k).2 * e (6 * r + (5 - k)) * m (c - 2 ^ (5 - k)) = Int64.ofInt ((exI v φ c k).1 + (exI v φ c k).2 * v (5 - k) * φ (c - 2 ^ (5 - k)))
        rw [i1, i2, he (5 - k) (by omega) z, hm (5 - k) (by omega) z, oi_mul, oi_mul, oi_add]
      · show -(exG e m r c k).2 = Int64.ofInt (-(exI v φ c k).2)
        rw [i2, oi_neg]
    · rw [if_neg z, if_neg z]; exact ⟨i1, i2⟩
theorem dtS_I {mx rt mo : Nat → Int64} {k row : Nat} {col : Int32} {v φ : Nat → Int} (he : ∀ j, j < 6 → k / 2 ^ j % 2 = 1 → enM mx rt row col j = Int64.ofInt (v j)) (hm : ∀ j, j < 6 → k / 2 ^ j % 2 = 1 → mo (k - 2 ^ j) = Int64.ofInt (φ (k - 2 ^ j))) : ∀ i, i ≤ 6 → dtS mx rt mo k row col i = Int64.ofInt (dsI v φ k row i) := by
  intro i
  induction i with
  | zero => intro _; rw [dtS, dsI]; rfl
  | succ i ih =>
    intro hk
    rw [dtS, dsI]
    by_cases z : k / 2 ^ i % 2 = 1
    · rw [if_pos z, if_pos z, ih (by omega), he i (by omega) z, hm i (by omega) z]
      by_cases y : (row + pcN k i) % 2 = 0
      · rw [if_pos y, if_pos y, oi_mul, oi_add]
      · rw [if_neg y, if_neg y, oi_neg, oi_mul, oi_add]
    · rw [if_neg z, if_neg z]; exact ih (by omega)
theorem tb_1 : ∀ n, n < 7 → ∀ k, k < 64 → k < 2 ^ n → 0 < k → popc k - 1 < n := by decide +kernel
theorem tb_p {n k j : Nat} (h : k < 2 ^ n) (h2 : 2 ^ j ≤ k) : j < n := by
  rcases Nat.lt_or_ge j n with z | z
  · exact z
  · have := Nat.pow_le_pow_right (n := 2) (by decide) z
    omega
theorem tb_2 : ∀ n, n < 7 → ∀ k, k < 64 → k < 2 ^ n → ∀ j, j < 6 → k.testBit j = true → j < n ∧ 2 ^ j ≤ k := fun n hn k hk h j hj hb => ⟨tb_p h (bit_ge k hk j hj hb), bit_ge k hk j hj hb⟩
theorem tb_3 : ∀ n, n < 7 → ∀ k, k < 64 → k < 2 ^ n → ∀ j, j < 6 → k / 2 ^ j % 2 = 1 → j < n ∧ 2 ^ j ≤ k := fun n hn k hk h j hj hb => by
  have h2 : 2 ^ j ≤ k := by
    rcases Nat.lt_or_ge k (2 ^ j) with z | z
    · rw [Nat.div_eq_of_lt z] at hb; exact absurd hb (by decide)
    · exact z
  exact ⟨tb_p h h2, h2⟩
theorem tb_4 : ∀ n, n < 7 → ∀ k, k < 64 → k < 2 ^ n → pcN k n = popc k := by decide +kernel
theorem mn_I {e m : Nat → Int64} {M : Nat → Nat → Int} {N : Nat} (hN : N ≤ 6) (h : ∀ i, i < N → ∀ j, j < N → e (6 * i + j) = Int64.ofInt (M i j)) : ∀ K, K < 2 ^ N → ∀ c, c ≤ K → mnF e m K c = Int64.ofInt (dm M c) := by
  have h64 : 2 ^ N ≤ 64 := (p2_6 N (by omega)).2
  intro K
  induction K with
  | zero =>
    intro _ c hc
    have : c = 0 := by omega
    subst this
    rw [mnF, vp_updL, if_pos rfl]
    rfl
  | succ K ih =>
    intro hK c hc
    rw [mnF, vp_updL]
    by_cases z : c = K + 1
    · rw [if_pos z, z]
      rw [(exG_I (v := M (popc (K + 1) - 1)) (φ := dm M) (fun j hj hb => h _ (tb_1 N (by omega) (K + 1) (by omega) hK (by omega)) j (tb_2 N (by omega) (K + 1) (by omega) hK j hj hb).1) (fun j hj hb => ih (by omega) _ (by
        have := (tb_2 N (by omega) (K + 1) (by omega) hK j hj hb).2
        have := Nat.two_pow_pos j
        omega)) 6 (Nat.le_refl 6)).1]
      rw [rp_all M (K + 1) (by omega) (by omega)]
    · rw [if_neg z]; exact ih (by omega) c (by omega)
theorem dsI_ext {v φ : Nat → Int} {k row n : Nat} (hn : n < 7) (hk : k < 64) (h : k < 2 ^ n) : ∀ m, n + m ≤ 6 → dsI v φ k row (n + m) = dsI v φ k row n := by
  intro m
  induction m with
  | zero => intro _; rfl
  | succ m ih =>
    intro hm
    show dsI v φ k row (n + m + 1) = _
    rw [dsI, if_neg (fun z => by
      have := (tb_3 n hn k hk h (n + m) (by omega) z).1
      omega)]
    exact ih (by omega)
theorem mo_I {mx rt mo : Nat → Int64} {col : Int32} {M : Nat → Nat → Int} {N : Nat} (hN : N ≤ 6) (h : ∀ i, i < N → ∀ j, j < N → enM mx rt i col j = Int64.ofInt (M i j)) : ∀ K, K < 2 ^ N → ∀ c, c ≤ K → moM mx rt N col mo K c = Int64.ofInt (dm M c) := by
  have h64 : 2 ^ N ≤ 64 := (p2_6 N (by omega)).2
  intro K
  induction K with
  | zero =>
    intro _ c hc
    have : c = 0 := by omega
    subst this
    rw [moM, vp_updL, if_pos rfl]
    rfl
  | succ K ih =>
    intro hK c hc
    rw [moM, vp_updL]
    by_cases z : c = K + 1
    · rw [if_pos z, z, tb_4 N (by omega) (K + 1) (by omega) hK]
      rw [dtS_I (v := M (popc (K + 1) - 1)) (φ := dm M) (fun j hj hb => h _ (tb_1 N (by omega) (K + 1) (by omega) hK (by omega)) j (tb_3 N (by omega) (K + 1) (by omega) hK j hj hb).1) (fun j hj hb => ih (by omega) _ (by
        have := (tb_3 N (by omega) (K + 1) (by omega) hK j hj hb).2
        have := Nat.two_pow_pos j
        omega)) N hN]
      rw [← rs_all M (K + 1) (by omega) (by omega)]
      have e := dsI_ext (v := M (popc (K + 1) - 1)) (φ := dm M) (row := popc (K + 1) - 1) (n := N) (k := K + 1) (by omega) (by omega) hK (6 - N) (by omega)
      rw [show N + (6 - N) = 6 by omega] at e
      rw [e]
    · rw [if_neg z]; exact ih (by omega) c (by omega)
theorem ex_6 (a b c d e f : Nat → Int) (h : ∀ j, j < 6 → f j = iD 5 j) : D6 a b c d e f 0 1 2 3 4 5 = D5 a b c d e 0 1 2 3 4 := by
  simp only [D6, h 0 (by decide), h 1 (by decide), h 2 (by decide), h 3 (by decide), h 4 (by decide), h 5 (by decide)]
  simp [iD]
theorem ex_5 (a b c d f : Nat → Int) (h : ∀ j, j < 6 → f j = iD 4 j) : D5 a b c d f 0 1 2 3 4 = D4 a b c d 0 1 2 3 := by
  simp only [D5, h 0 (by decide), h 1 (by decide), h 2 (by decide), h 3 (by decide), h 4 (by decide)]
  simp [iD]
theorem ex_4 (a b c f : Nat → Int) (h : ∀ j, j < 6 → f j = iD 3 j) : D4 a b c f 0 1 2 3 = D3 a b c 0 1 2 := by
  simp only [D4, h 0 (by decide), h 1 (by decide), h 2 (by decide), h 3 (by decide)]
  simp [iD]
theorem ex_3 (a b f : Nat → Int) (h : ∀ j, j < 6 → f j = iD 2 j) : D3 a b f 0 1 2 = D2 a b 0 1 := by
  simp only [D3, h 0 (by decide), h 1 (by decide), h 2 (by decide)]
  simp [iD]
theorem ex_2 (a f : Nat → Int) (h : ∀ j, j < 6 → f j = iD 1 j) : D2 a f 0 1 = D1 a 0 := by
  simp only [D2, h 0 (by decide), h 1 (by decide)]
  simp [iD]
theorem ex_1 (f : Nat → Int) (h : ∀ j, j < 6 → f j = iD 0 j) : D1 f 0 = 1 := by
  rw [D1, h 0 (by decide)]; rfl
theorem dm_full {M : Nat → Nat → Int} {N : Nat} (hN : N ≤ 6) (hx : ∀ i, N ≤ i → i < 6 → ∀ j, j < 6 → M i j = iD i j) : dm M (2 ^ N - 1) = dt6 M := by
  unfold dt6
  match N, hN, hx with
  | 6, _, _ => rfl
  | 5, _, hx => rw [ex_6 _ _ _ _ _ _ (hx 5 (by decide) (by decide))]; rfl
  | 4, _, hx => rw [ex_6 _ _ _ _ _ _ (hx 5 (by decide) (by decide)), ex_5 _ _ _ _ _ (hx 4 (by decide) (by decide))]; rfl
  | 3, _, hx => rw [ex_6 _ _ _ _ _ _ (hx 5 (by decide) (by decide)), ex_5 _ _ _ _ _ (hx 4 (by decide) (by decide)), ex_4 _ _ _ _ (hx 3 (by decide) (by decide))]; rfl
  | 2, _, hx => rw [ex_6 _ _ _ _ _ _ (hx 5 (by decide) (by decide)), ex_5 _ _ _ _ _ (hx 4 (by decide) (by decide)), ex_4 _ _ _ _ (hx 3 (by decide) (by decide)), ex_3 _ _ _ (hx 2 (by decide) (by decide))]; rfl
  | 1, _, hx => rw [ex_6 _ _ _ _ _ _ (hx 5 (by decide) (by decide)), ex_5 _ _ _ _ _ (hx 4 (by decide) (by decide)), ex_4 _ _ _ _ (hx 3 (by decide) (by decide)), ex_3 _ _ _ (hx 2 (by decide) (by decide)), ex_2 _ _ (hx 1 (by decide) (by decide))]; rfl
  | 0, _, hx => rw [ex_6 _ _ _ _ _ _ (hx 5 (by decide) (by decide)), ex_5 _ _ _ _ _ (hx 4 (by decide) (by decide)), ex_4 _ _ _ _ (hx 3 (by decide) (by decide)), ex_3 _ _ _ (hx 2 (by decide) (by decide)), ex_2 _ _ (hx 1 (by decide) (by decide)), ex_1 _ (hx 0 (by decide) (by decide))]; rfl
  | n + 7, h, _ => exact absurd h (by omega)
/-- the class's determinant -/
theorem det_cls {e m : Nat → Int64} {M : Nat → Nat → Int} {N : Nat} (hN : N ≤ 6) (h : ∀ i, i < N → ∀ j, j < N → e (6 * i + j) = Int64.ofInt (M i j)) (hx : ∀ i, N ≤ i → i < 6 → ∀ j, j < 6 → M i j = iD i j) : detF e m N = Int64.ofInt (dt6 M) := by
  have := (p2_6 N (by omega)).1
  rw [← dm_full hN hx]
  exact mn_I hN h _ (by omega) _ (Nat.le_refl _)
/-- the reference's -/
theorem det_mod {mx rt mo : Nat → Int64} {col : Int32} {M : Nat → Nat → Int} {N : Nat} (hN : N ≤ 6) (h : ∀ i, i < N → ∀ j, j < N → enM mx rt i col j = Int64.ofInt (M i j)) (hx : ∀ i, N ≤ i → i < 6 → ∀ j, j < 6 → M i j = iD i j) : dmM mx rt N col mo = Int64.ofInt (dt6 M) := by
  have := (p2_6 N (by omega)).1
  rw [← dm_full hN hx]
  exact mo_I hN h _ (by omega) _ (Nat.le_refl _)

