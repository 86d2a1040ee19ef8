/-! the class follows its links back -/
section LNK
variable {h : Hp} {V : Nat → Cv} {c : Ch} {a ch s0 st : Nat} {q D W : Nat → Nat} {n hd k : Nat}
theorem lk_of {i : Nat} (hW : wV (V a)) (H : QB (V a) ch c s0 st q D W n hd k) (h0 : 0 < i) (hi : i < n) : ∃ j kk, j < i ∧ kk < nL (V a) ∧ q j < 10000 ∧ c.2.2.2.1 119 (q i) = nI (q j * 35 + kk) ∧ D i = D j + 1 ∧ W i = W j * 35 + kk := by
  obtain ⟨hL0, hL⟩ := nL_b hW
  obtain ⟨hB, -, -, -, -, -, -, x119, -⟩ := H
  obtain ⟨j, kk, p1, p2, -, p4, p5, p6, p7⟩ := hB.2.2.2.2.1 i h0 hi
  have row := Bq_row hL hB (show j < n by omega)
  have e1 : (W j * 35 + kk) % 35 = kk := by omega
  have e2 : (W j * 35 + kk) / 35 = W j := by omega
  refine ⟨j, kk, p1, p2, p4, ?_, p6, p7⟩
  rw [x119 i h0 hi, p6, p7, e1, e2, Nat.add_sub_cancel, row.2.1]
theorem c_linkOf {s : Nat} (hs : s < 20000) : gX7_linkOf h c (nI s) = some (c.2.2.2.1 119 s) := by
  have i1 : ¬ (1 = 0) := by decide
  unfold gX7_linkOf gX7_linkOf_17
  simp (disch := omega) only [n_lit, n_of, n_o1, nI_add, pk_mul, nI_ltI, nI_leI, nI_eq, ↓lift_lt, ↓k_mt, ↓k_mp, if_true, if_false, Bool.false_eq_true, Nat.not_lt_zero, Nat.zero_le, Nat.reduceEqDiff, Nat.reduceLeDiff, Nat.reduceLT, c_isState hs, i1, cA_g]
theorem lt_run (hW : wV (V a)) (H : QB (V a) ch c s0 st q D W n hd k) : ∀ i, i < n → ∀ e, e + D i < 20000 → gX7_lengthTo_15 h c (nI e) (c.2.2.2.1 119 (q i)) = some (nI (e + D i)) := by
  intro i
  induction i using Nat.strongRecOn with
  | _ i ih =>
    intro hi e he
    unfold gX7_lengthTo_15
    by_cases i0 : i = 0
    · subst i0
      have d0 : D 0 = 0 := H.1.2.2.1
      have l0 : c.2.2.2.1 119 (q 0) = -nI 1 := H.2.2.2.2.2.2.1
      rw [l0, d0, Nat.add_zero]
      have eb : gX7_lengthTo_15b h c (nI e) (-nI 1) = some (.inr (nI e)) := by
        unfold gX7_lengthTo_15b gX7_lengthTo_42
        simp (disch := omega) only [n_lit, n_of, n_o1, nI_add, pk_mul, nI_ltI, nI_leI, nI_eq, ↓lift_lt, ↓k_mt, ↓k_mp, if_true, if_false, Bool.false_eq_true, Nat.not_lt_zero, Nat.zero_le, Nat.reduceEqDiff, Nat.reduceLeDiff, Nat.reduceLT, Option.map_some]
      exact lpw_r eb
    · obtain ⟨j, kk, j1, j2, j3, j4, j5, j6⟩ := lk_of hW H (by omega) hi
      have kL := (nL_b hW).2
      have e1 : (q j * 35 + kk) / 35 = q j := by omega
      have e2 : ¬ 20000 ≤ e := by omega
      have n1 := nI_ne1 (n := q j * 35 + kk) (by omega)
      rw [j4]
      have eb : gX7_lengthTo_15b h c (nI e) (nI (q j * 35 + kk)) = some (.inl (nI (e + 1), c.2.2.2.1 119 (q j))) := by
        unfold gX7_lengthTo_15b
        simp (disch := omega) only [n_lit, n_of, n_o1, nI_add, pk_mul, nI_ltI, nI_leI, nI_eq, ↓lift_lt, ↓k_mt, ↓k_mp, if_true, if_false, Bool.false_eq_true, Nat.not_lt_zero, Nat.zero_le, Nat.reduceEqDiff, Nat.reduceLeDiff, Nat.reduceLT, n1, e2, n_dv, e1, c_linkOf (h := h) (c := c) (show q j < 20000 by omega)]
      have := ih j j1 (by omega) (e + 1) (by omega)
      rw [show e + D i = e + 1 + D j by omega]
      exact (lpw_l eb).trans this
theorem c_lengthTo {i : Nat} (hW : wV (V a)) (H : QB (V a) ch c s0 st q D W n hd k) (hi : i < n) : gX7_lengthTo h c (nI (q i)) = some (nI (D i)) := by
  obtain ⟨hL0, hL⟩ := nL_b hW
  have row := Bq_row hL H.1 hi
  have hn := H.2.2.1
  have o1 := (H.2.2.2.2.2.1 i hi).1
  have n1 := nI_ne1 (n := q i) (by omega)
  have lr := lt_run (h := h) hW H i hi 0 (by omega)
  rw [Nat.zero_add] at lr
  unfold gX7_lengthTo
  simp (disch := omega) only [n_lit, n_of, n_o1, nI_add, pk_mul, nI_ltI, nI_leI, nI_eq, ↓lift_lt, ↓k_mt, ↓k_mp, if_true, if_false, Bool.false_eq_true, Nat.not_lt_zero, Nat.zero_le, Nat.reduceEqDiff, Nat.reduceLeDiff, Nat.reduceLT, n1, c_linkOf (h := h) (c := c) o1, lr]
theorem c_lengthTo_no : gX7_lengthTo h c (-nI 1) = some (-nI 1) := by
  unfold gX7_lengthTo
  simp (disch := omega) only [n_lit, n_of, n_o1, nI_add, pk_mul, nI_ltI, nI_leI, nI_eq, ↓lift_lt, ↓k_mt, ↓k_mp, if_true, if_false, Bool.false_eq_true, Nat.not_lt_zero, Nat.zero_le]
end LNK
