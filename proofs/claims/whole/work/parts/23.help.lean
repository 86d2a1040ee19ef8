theorem if_t {c : Prop} {_ : Decidable c} {α : Type} {a b : Option α} {y : α} (q : c) (h : (if c then a else b) = some y) : a = some y := by
  rw [if_pos q] at h
  exact h
theorem if_f {c : Prop} {_ : Decidable c} {α : Type} {a b : Option α} {y : α} (q : ¬ c) (h : (if c then a else b) = some y) : b = some y := by
  rw [if_neg q] at h
  exact h
theorem go_hp {d : Nat} {M : Mt} {pc : Nat} {L : List (Option Value)} {st : List Value} {h h1 h' : Hp} {r : Option Value} (e : h = h1) (kk : Go d M pc L st h1 r h') : Go d M pc L st h r h' := by rw [e]; exact kk
