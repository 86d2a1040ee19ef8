/-! the two sides of a lift, part by part -/
theorem k_bcO {α : Type} {x : Option (Option Nat)} {f g : Option Nat → Option α} (h0 : f none = g none) (h1 : ∀ n, f (some n) = g (some n)) : x.bind f = x.bind g := by
  cases x with
  | none => rfl
  | some o =>
    cases o with
    | none => exact h0
    | some n => exact h1 n
theorem k_bc {α β : Type} {x : Option α} {f g : α → Option β} (h : ∀ v, f v = g v) : x.bind f = x.bind g := by
  rw [funext h]
theorem k_ic {c : Prop} {_ : Decidable c} {α : Type} {a b a' b' : Option α} (h1 : a = a') (h2 : b = b') : (if c then a else b) = (if c then a' else b') := by
  rw [h1, h2]
