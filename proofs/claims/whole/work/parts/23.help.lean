theorem if_t {c : Prop} {_ : Decidable c} {α : Type} {a b : Option α} {y : α} (q : c) (h : (if c then a else b) = some y) : a = some y := by
  rw [if_pos q] at h
  exact h
theorem if_f {c : Prop} {_ : Decidable c} {α : Type} {a b : Option α} {y : α} (q : ¬ c) (h : (if c then a else b) = some y) : b = some y := by
  rw [if_neg q] at h
  exact h
theorem go_hp {d : Nat} {M : Mt} {pc : Nat} {L : List (Option Value)} {st : List Value} {h h1 h' : Hp} {r : Option Value} (e : h = h1) (kk : Go d M pc L st h1 r h') : Go d M pc L st h r h' := by rw [e]; exact kk
def hiB (o : Option Nat) : Bool := match o with
  | none => true
  | some n => decide (80 ≤ n)
def gH2 {α : Type} (a b : Option Nat) (e : Option α) : Option α := if hiB a = true ∧ hiB b = true then e else none
theorem hiB_at {o : Option Nat} (h : hiB o = true) : hiR o := by
  intro n hn
  subst hn
  simpa [hiB] using h
theorem gH2_at {α : Type} {a b : Option Nat} {e : Option α} {y : α} (q : gH2 a b e = some y) : hiR a ∧ hiR b ∧ e = some y := by
  unfold gH2 at q
  split at q
  · rename_i h
    exact ⟨hiB_at h.1, hiB_at h.2, q⟩
  · cases q
