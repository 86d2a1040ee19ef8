/-! binds as matches: a step of simp then looks at what is bound first, and not into what comes behind -/
theorem k_mt {α β : Type} (x : Option α) (f : α → Option β) : x.bind f = match x with
    | some v => f v
    | none => none := by cases x <;> rfl
theorem k_mp {α β : Type} (x : Option α) (f : α → β) : Option.map f x = match x with
    | some v => some (f v)
    | none => none := by cases x <;> rfl
