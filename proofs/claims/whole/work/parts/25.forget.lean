def subL : List (Option Value) → List (Option Value) → Prop
  | [], _ => True
  | none :: r, _ :: s => subL r s
  | some v :: r, a :: s => a = some v ∧ subL r s
  | _, _ => False
theorem subL_ok : ∀ (A B : List (Option Value)), subL A B → ∀ (i : Nat) (v : Value), A[i]? = some (some v) → B[i]? = some (some v)
  | [], _, _, i, v, h => by cases h
  | none :: r, a :: s, hs, i, v, h => by
    cases i with
    | zero => cases h
    | succ i => exact subL_ok r s hs i v h
  | some u :: r, a :: s, hs, i, v, h => by
    cases i with
    | zero => cases h; exact congrArg some hs.1
    | succ i => exact subL_ok r s hs.2 i v h
  | none :: r, [], hs, i, v, h => hs.elim
  | some u :: r, [], hs, i, v, h => hs.elim
theorem wp_fg {g : G0} {h : G1} {μ : MI} {w : Nat → va_E} {L L2 : List (Option Value)} {st : List Value} {b : Nat} {Q : State → Prop} {pc : Nat} (e : subL L2 L) (k : wp g h μ w L2 st b Q pc) : wp g h μ w L st b Q pc := wp_sub (subL_ok L2 L e) k
