/-! a law's codes, one turn -/
theorem ty_cases {g : Bool} {n : Nat} {ts ts1 : List Bool} {st : List Int32} (w : Nat → Int32) (ht : typ st ts) (hl : ts.length ≤ 64) (h : ty1 g n ts = some ts1) :
    (typ (ev1 w n st) ts1 ∧ ts1.length ≤ 64) ∧
    ((n < 1000 ∧ st.length < 64 ∧ ev1 w n st = nI n :: st) ∨ (1000 ≤ n ∧ n < 1008 ∧ okw g (n - 1000) = true ∧ st.length < 64 ∧ ev1 w n st = w (n - 1000) :: st) ∨
     (n = 3006 ∧ ∃ a r, st = a :: r ∧ ev1 w n st = (1 - a) :: r) ∨ (n = 3009 ∧ ∃ c b a r, st = c :: b :: a :: r ∧ ev1 w n st = (if a = 1 then b else c) :: r) ∨
     (3000 ≤ n ∧ n < 3009 ∧ n ≠ 3006 ∧ ∃ b a r, st = b :: a :: r ∧ ev1 w n st = btw n a b :: r ∧ (n = 3007 ∨ n = 3008 → (a = 0 ∨ a = 1) ∧ (b = 0 ∨ b = 1)))) := by
  have hlen := typ_len st ts ht
  unfold ty1 at h
  by_cases c1 : n < 1000
  · rw [if_pos c1] at h
    unfold psh at h
    split at h
    · cases h
      have e : ev1 w n st = nI n :: st := by unfold ev1; rw [if_pos c1]
      rw [e]
      exact ⟨⟨⟨fun q => (by cases q), ht⟩, by rw [List.length_cons]; omega⟩, Or.inl ⟨c1, by omega, rfl⟩⟩
    · cases h
  · rw [if_neg c1] at h
    by_cases c2 : n < 3000
    · rw [if_pos c2] at h
      split at h
      · rename_i hk
        unfold psh at h
        split at h
        · cases h
          have e : ev1 w n st = w (n - 1000) :: st := by unfold ev1; rw [if_neg c1, if_pos c2]
          rw [e]
          have h8 : n - 1000 < 8 := by
            unfold okw at hk
            split at hk
            · have := of_decide_eq_true hk; omega
            · simp at hk; omega
          exact ⟨⟨⟨fun q => (by cases q), ht⟩, by rw [List.length_cons]; omega⟩, Or.inr (Or.inl ⟨by omega, by omega, hk, by omega, rfl⟩)⟩
        · cases h
      · cases h
    · rw [if_neg c2] at h
      by_cases c3 : n = 3006
      · rw [if_pos c3] at h
        split at h
        · rename_i r
          cases h
          cases st with
          | nil => exact ht.elim
          | cons a q =>
            have e : ev1 w n (a :: q) = (1 - a) :: q := by unfold ev1; rw [if_neg c1, if_neg c2, if_pos c3]
            rw [e]
            refine ⟨⟨⟨fun _ => ?_, ht.2⟩, hl⟩, Or.inr (Or.inr (Or.inl ⟨c3, a, q, rfl, rfl⟩))⟩
            rcases ht.1 rfl with e | e <;> subst e <;> decide
        · cases h
      · rw [if_neg c3] at h
        by_cases c4 : n = 3009
        · rw [if_pos c4] at h
          split at h
          · rename_i r
            cases h
            match st, ht with
            | c :: b :: a :: q, ht =>
              have e : ev1 w n (c :: b :: a :: q) = (if a = 1 then b else c) :: q := by unfold ev1; rw [if_neg c1, if_neg c2, if_neg c3, if_pos c4]
              rw [e]
              exact ⟨⟨⟨fun q => (by cases q), ht.2.2.2⟩, by simp only [List.length_cons] at hl ⊢; omega⟩, Or.inr (Or.inr (Or.inr (Or.inl ⟨c4, c, b, a, q, rfl, rfl⟩)))⟩
          · cases h
        · rw [if_neg c4] at h
          by_cases c5 : n = 3007 ∨ n = 3008
          · rw [if_pos c5] at h
            split at h
            · rename_i r
              cases h
              match st, ht with
              | b :: a :: q, ht =>
                have e : ev1 w n (b :: a :: q) = btw n a b :: q := by unfold ev1; rw [if_neg c1, if_neg c2, if_neg c3, if_neg c4]
                rw [e]
                refine ⟨⟨⟨fun _ => ?_, ht.2.2⟩, by simp only [List.length_cons] at hl ⊢; omega⟩, Or.inr (Or.inr (Or.inr (Or.inr ⟨by omega, by omega, c3, b, a, q, rfl, rfl, fun _ => ⟨ht.2.1 rfl, ht.1 rfl⟩⟩)))⟩
                rcases c5 with e | e <;> subst e <;> rcases ht.1 rfl with e1 | e1 <;> rcases ht.2.1 rfl with e2 | e2 <;> subst e1 <;> subst e2 <;> decide
            · cases h
          · rw [if_neg c5] at h
            by_cases c6 : n < 3006
            · rw [if_pos c6] at h
              split at h
              · rename_i r
                cases h
                match st, ht with
                | b :: a :: q, ht =>
                  have e : ev1 w n (b :: a :: q) = btw n a b :: q := by unfold ev1; rw [if_neg c1, if_neg c2, if_neg c3, if_neg c4]
                  rw [e]
                  refine ⟨⟨⟨fun hd => ?_, ht.2.2⟩, by simp only [List.length_cons] at hl ⊢; omega⟩, Or.inr (Or.inr (Or.inr (Or.inr ⟨by omega, by omega, c3, b, a, q, rfl, rfl, fun hh => absurd hh c5⟩)))⟩
                  have hd := of_decide_eq_true hd
                  unfold btw
                  by_cases k1 : n = 3003
                  · rw [if_pos k1]; split
                    · exact Or.inr rfl
                    · exact Or.inl rfl
                  · rw [if_neg k1]
                    by_cases k2 : n = 3004
                    · rw [if_pos k2]; split
                      · exact Or.inr rfl
                      · exact Or.inl rfl
                    · rw [if_neg k2, if_pos (by omega)]; split
                      · exact Or.inr rfl
                      · exact Or.inl rfl
              · cases h
            · rw [if_neg c6] at h
              cases h
theorem clp_ref (v : Int64) : gX12_between_116 v = some (clp v) := by
  unfold gX12_between_116 gX12_between_146 clp
  simp only [lg_le, lg_ge]
  by_cases h : 1000000 < v
  · rw [if_neg (Int64.not_le.mpr h), if_pos h]; rfl
  · rw [if_pos (Int64.not_lt.mp h), if_neg h]
    by_cases h2 : v < -1000000
    · rw [if_neg (Int64.not_le.mpr h2), if_pos h2]; rfl
    · rw [if_pos (Int64.not_lt.mp h2), if_neg h2]
theorem q_between {n : Nat} (h0 : 3000 ≤ n) (h9 : n < 3009) (h6 : n ≠ 3006) (a b : Int32) : gX12_between (nI n) a b = some (btw n a b) := by
  unfold gX12_between gX12_between_50 gX12_between_61 gX12_between_72 btw
  have hc : n = 3000 ∨ n = 3001 ∨ n = 3002 ∨ n = 3003 ∨ n = 3004 ∨ n = 3005 ∨ n = 3007 ∨ n = 3008 := by omega
  simp (disch := omega) only [n_lit, nI_eq, clp_ref]
  rcases hc with e | e | e | e | e | e | e | e <;> subst e <;> simp only [Nat.reduceEqDiff, if_true, if_false] <;> try rfl
  · split <;> rfl
  · by_cases h : a < b
    · rw [if_neg (Int32.not_le.mpr h), if_pos h]
    · rw [if_pos (Int32.not_lt.mp h), if_neg h]
  · by_cases h : b < a
    · rw [if_neg (Int32.not_le.mpr h), if_pos h]
    · rw [if_pos (Int32.not_lt.mp h), if_neg h]
