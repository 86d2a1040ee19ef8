/-! what can be undone, on both sides -/
def push (H : List St) (s : St) : List St := (if H.length = 10 then H.drop 1 else H) ++ [s]
theorem push_len {H : List St} (hl : H.length ≤ 10) (s : St) : (push H s).length = if H.length = 10 then 10 else H.length + 1 := by
  unfold push
  rw [List.length_append, List.length_singleton]
  split
  · rw [List.length_drop]; omega
  · rfl
section PASTM
variable {m : Mu} {s : St}
theorem q_keeps (hb : blk (m.2.1 1) 15 s) : ∃ m', gX12_keeps m = some m' ∧ blk (m'.2.1 10) 0 s ∧ m'.1 = m.1 ∧ m'.2.2 = m.2.2 ∧ ∀ r, ¬ r = 10 → m'.2.1 r = m.2.1 r := by
  unfold gX12_keeps gX12_keeps_2
  have L := lpw_all (body := fun q : Int32 × Mu => gX12_keeps_2b q.2 q.1)
    (fun k q => q.1 = nI k ∧ q.2.1 = m.1 ∧ q.2.2.2 = m.2.2 ∧ (∀ r, ¬ r = 10 → q.2.2.1 r = m.2.1 r) ∧ ∀ j, j < k → q.2.2.1 10 j = m.2.1 1 (15 + j))
    (fun r => blk (r.2.1 10) 0 s ∧ r.1 = m.1 ∧ r.2.2 = m.2.2 ∧ ∀ z, ¬ z = 10 → r.2.1 z = m.2.1 z) 11 ?_ ?_ (nI 0, m) ⟨rfl, rfl, rfl, fun _ _ => rfl, fun j hj => by omega⟩
  · exact L
  · intro k q hk ⟨e1, e2, e3, e4, e5⟩
    have k1 : ¬ 11 ≤ k := by omega
    have ev : q.2.2.1 1 (15 + k) = m.2.1 1 (15 + k) := by rw [e4 1 (by decide)]
    show ∃ s', gX12_keeps_2b q.2 q.1 = some (.inl s') ∧ _
    rw [e1]
    unfold gX12_keeps_2b
    simp (disch := omega) only [n_lit, n_of, n_o1, nI_add, pk_mul, nI_ltI, nI_leI, nI_eq, ↓lift_lt, ↓k_mt, ↓k_mp, if_true, if_false, Bool.false_eq_true, Nat.not_lt_zero, Nat.zero_le, Nat.reduceEqDiff, Nat.reduceLeDiff, k1, mA_1, mW_10, ev]
    refine ⟨_, rfl, rfl, e2, e3, fun r hr => ?_, fun j hj => ?_⟩
    · rw [← e4 r hr]; exact mS_ne _ _ _ hr
    · rw [mS_a, if_pos rfl]
      by_cases z : j = k
      · rw [if_pos z, z]
      · rw [if_neg z]; exact e5 j (by omega)
  · intro q ⟨e1, e2, e3, e4, e5⟩
    show ∃ r, gX12_keeps_2b q.2 q.1 = some (.inr r) ∧ _
    rw [e1]
    unfold gX12_keeps_2b
    simp (disch := omega) only [n_lit, n_of, n_o1, nI_add, pk_mul, nI_ltI, nI_leI, nI_eq, ↓lift_lt, ↓k_mt, ↓k_mp, if_true, if_false, Bool.false_eq_true, Nat.not_lt_zero, Nat.zero_le, Nat.reduceEqDiff, Nat.reduceLeDiff, Nat.le_refl]
    exact ⟨_, rfl, blk_eq (fun k hk => by rw [Nat.zero_add]; exact e5 k hk) hb, e2, e3, e4⟩
theorem q_isAgain (hb : blk (m.2.1 10) 0 s) : ∃ m', gX12_isAgain m = some m' ∧ blk (m'.2.1 1) 15 s ∧ m'.1 = m.1 ∧ m'.2.2 = m.2.2 ∧ (∀ r, ¬ r = 1 → m'.2.1 r = m.2.1 r) ∧ ∀ j, j < 15 ∨ 26 ≤ j → m'.2.1 1 j = m.2.1 1 j := by
  unfold gX12_isAgain gX12_isAgain_2
  have L := lpw_all (body := fun q : Int32 × Mu => gX12_isAgain_2b q.2 q.1)
    (fun k q => q.1 = nI k ∧ q.2.1 = m.1 ∧ q.2.2.2 = m.2.2 ∧ (∀ r, ¬ r = 1 → q.2.2.1 r = m.2.1 r) ∧ (∀ j, j < k → q.2.2.1 1 (15 + j) = m.2.1 10 j) ∧ ∀ j, j < 15 ∨ 26 ≤ j → q.2.2.1 1 j = m.2.1 1 j)
    (fun r => blk (r.2.1 1) 15 s ∧ r.1 = m.1 ∧ r.2.2 = m.2.2 ∧ (∀ z, ¬ z = 1 → r.2.1 z = m.2.1 z) ∧ ∀ j, j < 15 ∨ 26 ≤ j → r.2.1 1 j = m.2.1 1 j) 11 ?_ ?_ (nI 0, m) ⟨rfl, rfl, rfl, fun _ _ => rfl, fun j hj => by omega, fun _ _ => rfl⟩
  · exact L
  · intro k q hk ⟨e1, e2, e3, e4, e5, e6⟩
    have k1 : ¬ 11 ≤ k := by omega
    have ev : q.2.2.1 10 k = m.2.1 10 k := by rw [e4 10 (by decide)]
    show ∃ s', gX12_isAgain_2b q.2 q.1 = some (.inl s') ∧ _
    rw [e1]
    unfold gX12_isAgain_2b
    simp (disch := omega) only [n_lit, n_of, n_o1, nI_add, pk_mul, nI_ltI, nI_leI, nI_eq, ↓lift_lt, ↓k_mt, ↓k_mp, if_true, if_false, Bool.false_eq_true, Nat.not_lt_zero, Nat.zero_le, Nat.reduceEqDiff, Nat.reduceLeDiff, k1, mA_10, mW_1, ev]
    refine ⟨_, rfl, rfl, e2, e3, fun r hr => ?_, fun j hj => ?_, fun j hj => ?_⟩
    · rw [← e4 r hr]; exact mS_ne _ _ _ hr
    · rw [mS_a, if_pos rfl]
      by_cases z : j = k
      · rw [if_pos (by rw [z]), z]
      · rw [if_neg (by omega)]; exact e5 j (by omega)
    · rw [mS_a, if_pos rfl, if_neg (by omega)]; exact e6 j hj
  · intro q ⟨e1, e2, e3, e4, e5, e6⟩
    show ∃ r, gX12_isAgain_2b q.2 q.1 = some (.inr r) ∧ _
    rw [e1]
    unfold gX12_isAgain_2b
    simp (disch := omega) only [n_lit, n_of, n_o1, nI_add, pk_mul, nI_ltI, nI_leI, nI_eq, ↓lift_lt, ↓k_mt, ↓k_mp, if_true, if_false, Bool.false_eq_true, Nat.not_lt_zero, Nat.zero_le, Nat.reduceEqDiff, Nat.reduceLeDiff, Nat.le_refl]
    exact ⟨_, rfl, blk_eq (fun k hk => by rw [Nat.zero_add]; exact e5 k hk) hb, e2, e3, e4, e6⟩
def bks (f : Nat → Int32) (H : List St) : Prop := f 26 = nI H.length ∧ ∀ i (hi : i < H.length), blk f (27 + 11 * i) H[i]
/-- behind all that are there -/
theorem q_notes57 {H : List St} (hB : bks (m.2.1 1) H) (hl : H.length < 10) (hb : blk (m.2.1 10) 0 s) : ∃ m', gX12_notes_57 m (nI 0) = some m' ∧ bks (m'.2.1 1) (H ++ [s]) ∧ m'.1 = m.1 ∧ m'.2.2 = m.2.2 ∧ (∀ r, ¬ r = 1 → m'.2.1 r = m.2.1 r) ∧ ∀ j, j < 26 ∨ 137 ≤ j → m'.2.1 1 j = m.2.1 1 j := by
  unfold gX12_notes_57
  obtain ⟨n, hn⟩ : ∃ n, n = H.length := ⟨_, rfl⟩
  have L := lpw_all (body := fun q : Int32 × Mu => gX12_notes_57b q.2 q.1)
    (fun k q => q.1 = nI k ∧ q.2.1 = m.1 ∧ q.2.2.2 = m.2.2 ∧ (∀ r, ¬ r = 1 → q.2.2.1 r = m.2.1 r) ∧ (∀ j, j < k → q.2.2.1 1 (27 + 11 * n + j) = m.2.1 10 j) ∧ ∀ j, j < 27 + 11 * n ∨ 27 + 11 * n + 11 ≤ j → q.2.2.1 1 j = m.2.1 1 j)
    (fun m' => bks (m'.2.1 1) (H ++ [s]) ∧ m'.1 = m.1 ∧ m'.2.2 = m.2.2 ∧ (∀ r, ¬ r = 1 → m'.2.1 r = m.2.1 r) ∧ ∀ j, j < 26 ∨ 137 ≤ j → m'.2.1 1 j = m.2.1 1 j) 11 ?_ ?_ (nI 0, m) ⟨rfl, rfl, rfl, fun _ _ => rfl, fun j hj => by omega, fun _ _ => rfl⟩
  · exact L
  · intro k q hk ⟨e1, e2, e3, e4, e5, e6⟩
    have k1 : ¬ 11 ≤ k := by omega
    have e26 : q.2.2.1 1 26 = nI n := by rw [e6 26 (by omega), hn]; exact hB.1
    have ev : q.2.2.1 10 k = m.2.1 10 k := by rw [e4 10 (by decide)]
    show ∃ s', gX12_notes_57b q.2 q.1 = some (.inl s') ∧ _
    rw [e1]
    unfold gX12_notes_57b
    simp (disch := omega) only [n_lit, n_of, n_o1, nI_add, pk_mul, nI_ltI, nI_leI, nI_eq, ↓lift_lt, ↓k_mt, ↓k_mp, if_true, if_false, Bool.false_eq_true, Nat.not_lt_zero, Nat.zero_le, Nat.reduceEqDiff, Nat.reduceLeDiff, k1, mA_1, mA_10, mW_1, e26, ev]
    refine ⟨_, rfl, rfl, e2, e3, fun r hr => ?_, fun j hj => ?_, fun j hj => ?_⟩
    · rw [← e4 r hr]; exact mS_ne _ _ _ hr
    · rw [mS_a, if_pos rfl]
      by_cases z : j = k
      · rw [if_pos (by rw [z]), z]
      · rw [if_neg (by omega)]; exact e5 j (by omega)
    · rw [mS_a, if_pos rfl, if_neg (by omega)]; exact e6 j hj
  · intro q ⟨e1, e2, e3, e4, e5, e6⟩
    have e26 : q.2.2.1 1 26 = nI n := by rw [e6 26 (by omega), hn]; exact hB.1
    show ∃ r, gX12_notes_57b q.2 q.1 = some (.inr r) ∧ _
    rw [e1]
    unfold gX12_notes_57b gX12_notes_95
    simp (disch := omega) only [n_lit, n_of, n_o1, nI_add, pk_mul, nI_ltI, nI_leI, nI_eq, ↓lift_lt, ↓k_mt, ↓k_mp, if_true, if_false, Bool.false_eq_true, Nat.not_lt_zero, Nat.zero_le, Nat.reduceEqDiff, Nat.reduceLeDiff, Nat.le_refl, mA_1, mW_1, e26]
    refine ⟨_, rfl, ⟨?_, fun i hi => ?_⟩, e2, e3, fun r hr => ?_, fun j hj => ?_⟩
    · rw [mS_a, if_pos rfl, if_pos rfl, List.length_append, List.length_singleton, hn]
    · rw [List.length_append, List.length_singleton] at hi
      by_cases z : i < H.length
      · rw [List.getElem_append_left z]
        refine blk_eq (fun k hk => ?_) (hB.2 i z)
        rw [mS_a, if_pos rfl, if_neg (by omega)]
        exact e6 _ (by omega)
      · have e : i = H.length := by omega
        subst e
        rw [List.getElem_append_right (Nat.le_refl _)]
        simp only [Nat.sub_self, List.getElem_singleton]
        refine blk_eq (fun k hk => ?_) hb
        rw [mS_a, if_pos rfl, if_neg (by omega), ← hn, e5 k hk, Nat.zero_add]
    · rw [← e4 r hr]; exact mS_ne _ _ _ hr
    · rw [mS_a, if_pos rfl, if_neg (by omega)]; exact e6 j (by omega)
theorem q_notes {H : List St} (hB : bks (m.2.1 1) H) (hl : H.length ≤ 10) (hb : blk (m.2.1 10) 0 s) : ∃ m', gX12_notes m = some m' ∧ bks (m'.2.1 1) (push H s) ∧ m'.1 = m.1 ∧ m'.2.2 = m.2.2 ∧ (∀ r, ¬ r = 1 → m'.2.1 r = m.2.1 r) ∧ ∀ j, j < 26 ∨ 137 ≤ j → m'.2.1 1 j = m.2.1 1 j := by
  unfold gX12_notes push
  have h26 := hB.1
  by_cases h10 : H.length = 10
  · rw [h10] at h26
    simp (disch := omega) only [n_lit, n_of, n_o1, nI_add, pk_mul, nI_ltI, nI_leI, nI_eq, ↓lift_lt, ↓k_mt, ↓k_mp, if_true, if_false, Bool.false_eq_true, Nat.not_lt_zero, Nat.zero_le, Nat.reduceEqDiff, Nat.reduceLeDiff, mA_1, h26, h10]
    unfold gX12_notes_14
    have L := lpw_all (body := fun q : Int32 × Mu => gX12_notes_14b q.2 q.1)
      (fun k q => q.1 = nI k ∧ q.2.1 = m.1 ∧ q.2.2.2 = m.2.2 ∧ (∀ r, ¬ r = 1 → q.2.2.1 r = m.2.1 r) ∧ (∀ j, j < k → q.2.2.1 1 (27 + j) = m.2.1 1 (38 + j)) ∧ ∀ j, j < 27 ∨ 27 + k ≤ j → q.2.2.1 1 j = m.2.1 1 j)
      (fun m' => bks (m'.2.1 1) (H.drop 1 ++ [s]) ∧ m'.1 = m.1 ∧ m'.2.2 = m.2.2 ∧ (∀ r, ¬ r = 1 → m'.2.1 r = m.2.1 r) ∧ ∀ j, j < 26 ∨ 137 ≤ j → m'.2.1 1 j = m.2.1 1 j) 99 ?_ ?_ (nI 0, m) ⟨rfl, rfl, rfl, fun _ _ => rfl, fun j hj => by omega, fun _ _ => rfl⟩
    · exact L
    · intro k q hk ⟨e1, e2, e3, e4, e5, e6⟩
      have k1 : ¬ 99 ≤ k := by omega
      have ev : q.2.2.1 1 (38 + k) = m.2.1 1 (38 + k) := e6 _ (by omega)
      show ∃ s', gX12_notes_14b q.2 q.1 = some (.inl s') ∧ _
      rw [e1]
      unfold gX12_notes_14b
      simp (disch := omega) only [n_lit, n_of, n_o1, nI_add, pk_mul, nI_ltI, nI_leI, nI_eq, ↓lift_lt, ↓k_mt, ↓k_mp, if_true, if_false, Bool.false_eq_true, Nat.not_lt_zero, Nat.zero_le, Nat.reduceEqDiff, Nat.reduceLeDiff, k1, mA_1, mW_1, ev]
      refine ⟨_, rfl, rfl, e2, e3, fun r hr => ?_, fun j hj => ?_, fun j hj => ?_⟩
      · rw [← e4 r hr]; exact mS_ne _ _ _ hr
      · rw [mS_a, if_pos rfl]
        by_cases z : j = k
        · rw [if_pos (by rw [z]), z]
        · rw [if_neg (by omega)]; exact e5 j (by omega)
      · rw [mS_a, if_pos rfl, if_neg (by omega)]; exact e6 j (by omega)
    · intro q ⟨e1, e2, e3, e4, e5, e6⟩
      have e26 : q.2.2.1 1 26 = nI 10 := by rw [e6 26 (by omega)]; exact h26
      have hdl : (H.drop 1).length = 9 := by rw [List.length_drop]; omega
      obtain ⟨m', em, g1, g2, g3, g4, g5⟩ := q_notes57 (m := mS q.2 1 26 (nI 9)) (s := s) (H := H.drop 1) ⟨by rw [mS_a, if_pos rfl, if_pos rfl, hdl], fun i hi => by
        rw [List.getElem_drop]
        refine blk_eq (fun k hk => ?_) (hB.2 (1 + i) (by omega))
        rw [mS_a, if_pos rfl, if_neg (by omega), show 27 + 11 * i + k = 27 + (11 * i + k) by omega, e5 _ (by omega)]
        exact congrArg (m.2.1 1) (by omega)⟩ (by omega) (by rw [mS_ne _ _ _ (by decide), e4 10 (by decide)]; exact hb)
      show ∃ r, gX12_notes_14b q.2 q.1 = some (.inr r) ∧ _
      rw [e1]
      unfold gX12_notes_14b gX12_notes_44 gX12_notes_55
      simp (disch := omega) only [n_lit, n_of, n_o1, nI_add, pk_mul, nI_ltI, nI_leI, nI_eq, ↓lift_lt, ↓k_mt, ↓k_mp, if_true, if_false, Bool.false_eq_true, Nat.not_lt_zero, Nat.zero_le, Nat.reduceEqDiff, Nat.reduceLeDiff, Nat.le_refl, mA_1, mW_1, e26, pk_sub, Nat.reduceSub, em]
      refine ⟨_, rfl, g1, by rw [g2]; exact e2, by rw [g3]; exact e3, fun r hr => ?_, fun j hj => ?_⟩
      · rw [g4 r hr, ← e4 r hr]; exact mS_ne _ _ _ hr
      · rw [g5 j hj, mS_a, if_pos rfl, if_neg (by omega)]; exact e6 j (by omega)
  · obtain ⟨m', em, g⟩ := q_notes57 (m := m) (s := s) (H := H) hB (by omega) hb
    unfold gX12_notes_55
    simp (disch := omega) only [n_lit, n_of, n_o1, nI_add, pk_mul, nI_ltI, nI_leI, nI_eq, ↓lift_lt, ↓k_mt, ↓k_mp, if_true, if_false, Bool.false_eq_true, Nat.not_lt_zero, Nat.zero_le, Nat.reduceEqDiff, Nat.reduceLeDiff, mA_1, h26, h10, em]
    exact ⟨m', rfl, g⟩
end PASTM
/-! the class -/
section PASTC
variable {h : Hp} {c : Ch} {s : St}
theorem c_remember {H : List St} (hp : pastC c H) (hl : H.length ≤ 10) (hs : stc c 1 s) : ∃ c', gX5_remember h c 1 = some c' ∧ pastC c' (push H s) ∧ (∀ r, ¬ r = 93 → ¬ (95 ≤ r ∧ r < 105) → c'.1 r = c.1 r) ∧ c'.2 = c.2 := by
  obtain ⟨p2, nx, pn, p1, pb⟩ := hp
  obtain ⟨c1, e1, ks, kr, k2⟩ := c_copy (c := c) (s := s) h (j := 1) (j' := 3 + nx) (by decide) (by omega) (by omega) hs
  have sb : 95 ≤ sadr (3 + nx) ∧ sadr (3 + nx) < 105 := by
    unfold sadr
    rw [if_neg (by omega), if_pos (by omega)]
    omega
  have z1 : c1.1 93 1 = nI nx := by rw [kr 93 (by omega)]; exact p1
  have z2 : c1.1 93 2 = nI H.length := by rw [kr 93 (by omega)]; exact p2
  have cl : (nI nx).toNatClampNeg = nx := nI_clamp (by omega)
  have ib : inB (nI nx) 10 = true := inB_nI pn (by decide)
  have w2 : (cI c1 93 1 (nI ((nx + 1) % 10))).1 93 2 = nI H.length := by rw [cI_1, if_pos rfl, if_neg (by decide)]; exact z2
  refine ⟨cI (cI c1 93 1 (nI ((nx + 1) % 10))) 93 2 (nI (if 10 < H.length + 1 then 10 else H.length + 1)), ?_, ⟨?_, (nx + 1) % 10, Nat.mod_lt _ (by decide), ?_, fun i hi => ?_⟩, fun r h1 h2 => ?_, k2⟩
  · unfold gX5_remember
    simp (disch := omega) only [n_lit, n_of, n_o1, nI_add, pk_mul, nI_ltI, nI_leI, nI_eq, ↓lift_lt, ↓k_mt, ↓k_mp, if_true, if_false, Bool.false_eq_true, Nat.not_lt_zero, Nat.zero_le, Nat.reduceEqDiff, Nat.reduceLeDiff, p1, ib, iff_t, cl, e1, z1, n_rm, w2, imin_n]
  · rw [cI_1, if_pos rfl, if_pos rfl, push_len hl]
    congr 1
    split <;> split <;> omega
  · rw [cI_1, if_pos rfl, if_neg (by decide), cI_1, if_pos rfl, if_pos rfl]
  · have hlen := push_len hl s
    have hb : ∀ j, c1.1 (sadr j) = (cI (cI c1 93 1 (nI ((nx + 1) % 10))) 93 2 (nI (if 10 < H.length + 1 then 10 else H.length + 1))).1 (sadr j) := fun j => by
      have := sadr_b j
      rw [cI_n _ (by omega), cI_n _ (by omega)]
    refine stc_eq (c := c1) (hb _).symm ?_
    by_cases h10 : H.length = 10
    · rw [if_pos h10] at hlen
      rw [hlen] at hi ⊢
      by_cases z : i = 9
      · have ez : (push H s)[i] = s := by
          unfold push
          simp only [if_pos h10]
          rw [List.getElem_append_right (by rw [List.length_drop]; omega)]
          simp
        rw [ez]
        have ei : ((nx + 1) % 10 + 10 - 10 + i) % 10 = nx := by omega
        rw [ei]
        exact ks
      · have ez : (push H s)[i] = H[1 + i] := by
          unfold push
          simp only [if_pos h10]
          rw [List.getElem_append_left (by rw [List.length_drop]; omega), List.getElem_drop]
        rw [ez]
        have ei : ((nx + 1) % 10 + 10 - 10 + i) % 10 = (nx + 10 - H.length + (1 + i)) % 10 := by omega
        rw [ei]
        refine stc_eq (kr _ ?_) (pb (1 + i) (by omega))
        exact sadr_inj (by omega) (by omega) (by omega)
    · rw [if_neg h10] at hlen
      rw [hlen] at hi ⊢
      by_cases z : i = H.length
      · have ez : (push H s)[i] = s := by
          unfold push
          simp only [if_neg h10]
          rw [List.getElem_append_right (by omega)]
          simp
        rw [ez]
        have ei : ((nx + 1) % 10 + 10 - (H.length + 1) + i) % 10 = nx := by omega
        rw [ei]
        exact ks
      · have ez : (push H s)[i] = H[i] := by
          unfold push
          simp only [if_neg h10]
          rw [List.getElem_append_left (by omega)]
        rw [ez]
        have ei : ((nx + 1) % 10 + 10 - (H.length + 1) + i) % 10 = (nx + 10 - H.length + i) % 10 := by omega
        rw [ei]
        refine stc_eq (kr _ ?_) (pb i (by omega))
        exact sadr_inj (by omega) (by omega) (by omega)
  · rw [cI_n _ h1, cI_n _ h1]
    exact kr r (by omega)
theorem c_bringBack {H : List St} (hp : pastC c H) (hl : H.length ≤ 10) (h0 : 0 < H.length) : ∃ c', gX5_bringBack h c 0 = some c' ∧ pastC c' (H.take (H.length - 1)) ∧ stc c' 0 (H[H.length - 1]) ∧ (∀ r, ¬ r = 93 → ¬ r = 90 → c'.1 r = c.1 r) ∧ c'.2 = c.2 := by
  obtain ⟨p2, nx, pn, p1, pb⟩ := hp
  obtain ⟨n', en⟩ : ∃ n', n' = (nx + 10 - 1) % 10 := ⟨_, rfl⟩
  have hn' : n' < 10 := by omega
  have hlast := pb (H.length - 1) (by omega)
  have ei : (nx + 10 - H.length + (H.length - 1)) % 10 = n' := by omega
  rw [ei] at hlast
  obtain ⟨c1, e1, ks, kr, k2⟩ := c_copy (c := cI c 93 1 (nI n')) (s := H[H.length - 1]) h (j := 3 + n') (j' := 0) (by omega) (by decide) (by omega) (stc_eq (cI_n _ (by have := sadr_b (3 + n'); omega)) hlast)
  have s90 : sadr 0 = 90 := rfl
  rw [s90] at kr
  have z0 : ¬ H.length ≤ 0 := by omega
  have z1 : (cI c 93 1 (nI n')).1 93 1 = nI n' := by rw [cI_1, if_pos rfl, if_pos rfl]
  have z2 : c1.1 93 2 = nI H.length := by rw [kr 93 (by decide), cI_1, if_pos rfl, if_neg (by decide)]; exact p2
  have cl : (nI n').toNatClampNeg = n' := nI_clamp (by omega)
  have ib : inB (nI n') 10 = true := inB_nI hn' (by decide)
  have hlt : (H.take (H.length - 1)).length = H.length - 1 := by rw [List.length_take]; omega
  refine ⟨cI c1 93 2 (nI (H.length - 1)), ?_, ⟨?_, n', hn', ?_, fun i hi => ?_⟩, ?_, fun r h1 h2 => ?_, k2⟩
  · unfold gX5_bringBack gX5_bringBack_46
    simp (disch := omega) only [n_lit, n_of, n_o1, nI_add, pk_mul, nI_ltI, nI_leI, nI_eq, ↓lift_lt, ↓k_mt, ↓k_mp, if_true, if_false, Bool.false_eq_true, Nat.not_lt_zero, Nat.zero_le, Nat.reduceEqDiff, Nat.reduceLeDiff, p2, z0, p1, pk_sub, n_rm, ← en, z1, ib, iff_t, cl, e1, z2]
  · rw [cI_1, if_pos rfl, if_pos rfl, hlt]
  · rw [cI_1, if_pos rfl, if_neg (by decide), kr 93 (by decide)]; exact z1
  · rw [hlt] at hi
    rw [hlt, List.getElem_take]
    have sb := sadr_b (3 + (n' + 10 - (H.length - 1) + i) % 10)
    have ej : (n' + 10 - (H.length - 1) + i) % 10 = (nx + 10 - H.length + i) % 10 := by omega
    rw [ej] at sb ⊢
    refine stc_eq ?_ (pb i (by omega))
    rw [cI_n _ (by omega), kr _ (fun q => sadr_inj (j := 3 + (nx + 10 - H.length + i) % 10) (j' := 0) (by omega) (by decide) (by omega) q), cI_n _ (by omega)]
  · exact stc_eq (cI_n _ (by decide)) ks
  · rw [cI_n _ h1, kr r h2, cI_n _ h1]
end PASTC
/-! both sides behind a deed -/
def sD (x : Sp) (s : St) (H : List St) : Sp := (zT x, zV x, s, H, zI x, zR x, zF x)
def stf (c c' : Ch) : Prop := (∀ r, ¬ (90 ≤ r ∧ r < 105) → ¬ r = 108 → c'.1 r = c.1 r) ∧ c'.2.1 = c.2.1 ∧ (∀ r, ¬ r = 108 → c'.2.2.1 r = c.2.2.1 r) ∧ (∀ r, A112 r = false → c'.2.2.2.1 r = c.2.2.2.1 r) ∧ c'.2.2.2.2 = c.2.2.2.2
theorem stf_tr {c c' c'' : Ch} (h : stf c c') (h' : stf c' c'') : stf c c'' := ⟨fun r a b => (h'.1 r a b).trans (h.1 r a b), h'.2.1.trans h.2.1, fun r a => (h'.2.2.1 r a).trans (h.2.2.1 r a), fun r a => (h'.2.2.2.1 r a).trans (h.2.2.2.1 r a), h'.2.2.2.2.trans h.2.2.2.2⟩
theorem sadr_lo {j : Nat} (hj : j < 13) : 90 ≤ sadr j ∧ sadr j < 105 := by
  unfold sadr
  by_cases q1 : j < 3
  · rw [if_pos q1]; omega
  · rw [if_neg q1, if_pos hj]; omega
theorem stf_dfc {j : Nat} {c c' : Ch} (hj : j < 13) (h : dfc j c c') : stf c c' := ⟨fun r a b => h.1 r (fun q => a (by rw [q]; exact sadr_lo hj)) b, h.2.1, h.2.2.1, h.2.2.2.1, h.2.2.2.2⟩
theorem stf_1 {c c' : Ch} (h1 : ∀ r, ¬ (90 ≤ r ∧ r < 105) → c'.1 r = c.1 r) (h2 : c'.2 = c.2) : stf c c' := ⟨fun r a _ => h1 r a, by rw [h2], fun r _ => by rw [h2], fun r _ => by rw [h2], by rw [h2]⟩
theorem RC_deed {T : Nat} {h : Hp} {V : Nat → Cv} {c c' : Ch} {x : Sp} {s : St} {H : List St} (gC : RC T h V c x) (hf : stf c c') (hs : stc c' 0 s) (hp : pastC c' H) (hT : ∃ a ch, CT h V c' a ch) : RC T h V c' (sD x s H) := by
  obtain ⟨⟨a1, a2, a3, a4, a5, a6, a7, a8, a9⟩, -, g3⟩ := gC
  obtain ⟨k1, k2, k3, k4, k5⟩ := hf
  refine ⟨⟨by rw [k1 80 (by omega) (by omega)]; exact a1, by rw [k4 81 rfl]; exact a2, by rw [k3 80 (by decide)]; exact a3, hs, hp, fun i hi => ?_, fun t ht => ?_, by rw [k1 82 (by omega) (by omega)]; exact a8, by rw [k1 82 (by omega) (by omega)]; exact a9⟩, hT, SI_eq (k1 116 (by omega) (by omega)) (by rw [k3 116 (by decide)]) (k4 117 rfl) (k4 118 rfl) (k4 119 rfl) (k4 120 rfl) g3⟩
  · have b := a6 i hi
    show imC h V c' i (zI x i)
    unfold imC at *
    cases hz : zI x i with
    | none => rw [hz] at b; simp only [k5]; exact b
    | some p =>
      rw [hz] at b
      obtain ⟨a, b1, b2, b3, b4⟩ := b
      refine ⟨a, by rw [k5]; exact b1, b2, b3, stc_eq (k1 _ ?_ ?_) b4⟩
      · unfold sadr
        rw [if_neg (by omega), if_neg (by omega), if_pos (by omega)]
        omega
      · exact fun q => sadr_108 _ q.symm
  · have b := a7 t ht
    have tb := tadr_b (t := t)
    show trC c' t (zR x t)
    unfold trC at *
    rw [k1 (tadr t) (by omega) (by omega), k5]
    exact b
def mdf (m m' : Mu) : Prop := (∀ r, ¬ r = 1 → ¬ r = 5 → ¬ r = 6 → ¬ r = 10 → m'.2.1 r = m.2.1 r) ∧ m'.2.2 = m.2.2 ∧ m'.1 5 = m.1 5 ∧ m'.1 13 = m.1 13 ∧ m'.1 14 = m.1 14 ∧ ∀ j, j < 15 ∨ 137 ≤ j → m'.2.1 1 j = m.2.1 1 j
theorem mdf_tr {m m' m'' : Mu} (h : mdf m m') (h' : mdf m' m'') : mdf m m'' := ⟨fun r a b c d => (h'.1 r a b c d).trans (h.1 r a b c d), h'.2.1.trans h.2.1, h'.2.2.1.trans h.2.2.1, h'.2.2.2.1.trans h.2.2.2.1, h'.2.2.2.2.1.trans h.2.2.2.2.1, fun j hj => (h'.2.2.2.2.2 j hj).trans (h.2.2.2.2.2 j hj)⟩
theorem mdf_d {m m' : Mu} (h : dfm m m') : mdf m m' := ⟨fun r a b c _ => h.2.2.1 r a b c, h.2.1, by rw [h.1], by rw [h.1], by rw [h.1], fun j hj => h.2.2.2 j (by omega)⟩
theorem RM_deed {m m' : Mu} {x : Sp} {s : St} {H : List St} (gM : RM m x) (hf : mdf m m') (hs : blk (m'.2.1 1) 15 s) (hH : bks (m'.2.1 1) H) : RM m' (sD x s H) := by
  obtain ⟨a1, a2, a3, a4, a5, a6, a7, a8, a9, a10⟩ := gM
  obtain ⟨k1, k2, k3, k4, k5, k6⟩ := hf
  refine ⟨by rw [k3]; exact a1, by rw [k1 3 (by decide) (by decide) (by decide) (by decide)]; exact a2, Rv_eq2 (fun k hk => k6 k (by omega)) a3, hs, hH.1, hH.2, fun i hi => ?_, fun t ht => ?_, by rw [k4]; exact a9, by rw [k5]; exact a10⟩
  · exact imR_eq (fun k hk => k6 _ (by omega)) (by rw [k1 2 (by decide) (by decide) (by decide) (by decide)]) (a7 i hi)
  · rw [k1 21 (by decide) (by decide) (by decide) (by decide), k1 22 (by decide) (by decide) (by decide) (by decide), k2]
    exact a8 t ht
theorem WF_deed {x : Sp} {s : St} {H : List St} (hw : WF x) (hs : wS (zV x) s) (hH : H.length ≤ 10) (hH2 : ∀ s, s ∈ H → wS (zV x) s) : WF (sD x s H) := by
  obtain ⟨w1, w2, w3, w4, w5, w6, w7, w8⟩ := hw
  exact ⟨w1, w2, w3, hs, hH, hH2, w7, w8⟩
theorem push_w {x : Sp} (hw : WF x) : (push (zH x) (zS x)).length ≤ 10 ∧ ∀ s, s ∈ push (zH x) (zS x) → wS (zV x) s := by
  obtain ⟨w1, w2, w3, w4, w5, w6, w7, w8⟩ := hw
  refine ⟨by rw [push_len w5]; split <;> omega, fun s hs => ?_⟩
  unfold push at hs
  rw [List.mem_append, List.mem_singleton] at hs
  rcases hs with hs | hs
  · split at hs
    · exact w6 s (List.mem_of_mem_drop hs)
    · exact w6 s hs
  · rw [hs]; exact w4
