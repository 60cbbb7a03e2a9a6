section QT
variable {g : G0} {h : G1} {μ : MI} {w : Nat → va_E} {L : List (Option Value)} {st : List Value} {b : Nat} {Q : State → Prop} {pc : Nat}
theorem wp_top {x y : Int32} (e : x = y) (k : wp g h μ w L (.int y :: st) b Q pc) : wp g h μ w L (.int x :: st) b Q pc := e ▸ k
theorem wp_topl {x y : Int64} (e : x = y) (k : wp g h μ w L (.long y :: st) b Q pc) : wp g h μ w L (.long x :: st) b Q pc := e ▸ k
theorem wp_top2 {v : Value} {x y : Int32} (e : x = y) (k : wp g h μ w L (v :: .int y :: st) b Q pc) : wp g h μ w L (v :: .int x :: st) b Q pc := e ▸ k
end QT
def minI (x y : Int32) : Int32 := if x ≤ y then x else y
def maxI (x y : Int32) : Int32 := if x < y then y else x
theorem minI_nI {a b : Nat} (ha : a < 2 ^ 31) (hb : b < 2 ^ 31) : minI (nI a) (nI b) = nI (min a b) := by
  by_cases h : a ≤ b
  · rw [minI, if_pos ((nI_leI ha hb).mpr h), Nat.min_eq_left h]
  · rw [minI, if_neg (mt (nI_leI ha hb).mp h), Nat.min_eq_right (by omega)]
def filF {α : Type} (f : Nat → α) (x : α) (i : Nat) : Nat → α := fun j => if j < i then x else f j
theorem fil_0 {α : Type} (f : Nat → α) (x : α) : filF f x 0 = f := by funext j; simp [filF]
theorem fil_up (f : Nat → Int32) (x : Int32) (i : Nat) : upd (filF f x i) i x = filF f x (i + 1) := by
  funext j
  simp only [upd, filF]
  by_cases h1 : j = i
  · rw [if_pos h1, if_pos (by omega)]
  · rw [if_neg h1]
    by_cases h2 : j < i
    · rw [if_pos h2, if_pos (by omega)]
    · rw [if_neg h2, if_neg (by omega)]
theorem fil_upL (f : Nat → Int64) (x : Int64) (i : Nat) : vp_updL (filF f x i) i x = filF f x (i + 1) := by
  funext j
  simp only [vp_updL, filF]
  by_cases h1 : j = i
  · rw [if_pos h1, if_pos (by omega)]
  · rw [if_neg h1]
    by_cases h2 : j < i
    · rw [if_pos h2, if_pos (by omega)]
    · rw [if_neg h2, if_neg (by omega)]
def ushI (x y : Int32) : Int32 := (x.toUInt32 >>> (y.toUInt32 &&& Int32.toUInt32 31)).toInt32
def bc1 (x : Int32) : Int32 := x - (ushI x 1 &&& 1431655765)
def bc2 (x : Int32) : Int32 := (x &&& 858993459) + (ushI x 2 &&& 858993459)
def bc3 (x : Int32) : Int32 := (x + ushI x 4) &&& 252645135
def bc4 (x : Int32) : Int32 := x + ushI x 8
def bc5 (x : Int32) : Int32 := x + ushI x 16
def bcF (x : Int32) : Int32 := bc5 (bc4 (bc3 (bc2 (bc1 x)))) &&& 63
