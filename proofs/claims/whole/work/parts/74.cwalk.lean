/-! the class walks on; states are met again by an anchor -/
/-- how the walk stands: at year k, the anchor set in year a = 2 ^ e - 1 -/
def WK (F : Nat → Nat) (s l : Nat) (c : Ch) (k a e : Nat) : Prop := c.1 114 1 = nI l ∧ c.1 114 2 = nI (itr F s k) ∧ c.1 114 3 = nI k ∧ c.1 114 4 = nI (itr F s a) ∧ c.1 114 5 = nI a ∧ c.1 114 6 = nI (2 ^ e) ∧ e ≤ 15 ∧ a + 1 = 2 ^ e ∧ a ≤ k ∧ k < a + 2 ^ e ∧ ∀ i, a < i → i ≤ k → itr F s i ≠ itr F s a
theorem pow2_15 : ∀ e : Nat, e ≤ 15 → 2 ^ e ≤ 32768 := fun e h => Nat.pow_le_pow_right (n := 2) (by decide) h
theorem WK_b {F : Nat → Nat} {s l : Nat} {c : Ch} {k a e : Nat} (h : WK F s l c k a e) : k < 65535 := by
  obtain ⟨-, -, -, -, -, -, h7, h8, -, h10, -⟩ := h
  have := pow2_15 e h7
  omega
/-- an anchor that far on is met within so many years -/
theorem far_anchor {F : Nat → Nat} {s a : Nat} (hok : ∀ k, itr F s k < 20000) (ha : 20000 ≤ a) : ∃ i, a < i ∧ i ≤ a + 20000 ∧ itr F s i = itr F s a := by
  obtain ⟨i, j, h1, h2, h3⟩ := pigeon hok
  refine ⟨a + (j - i), by omega, by omega, ?_⟩
  have := itr_per h3 (a - i)
  rw [show i + (a - i) = a by omega, show j + (a - i) = a + (j - i) by omega] at this
  exact this.symm
section CWALK
variable {h : Hp} {V : Nat → Cv} {c : Ch} {a0 ch s l : Nat}
theorem CT_114 {k : Nat} {y : Int32} (H : CT h V c a0 ch) : CT h V (cI c 114 k y) a0 ch := by
  obtain ⟨e1, e2, e3, e4, e5, e6, e7⟩ := H
  exact ⟨e1, e2, e3, by rw [cI_n _ (by decide)]; exact e4, e5, e6, e7⟩
theorem c_start (F : Nat → Nat) (hT : CT h V c a0 ch) : ∃ c', gX10_start h c (nI s) (nI l) = some c' ∧ WK F s l c' 0 0 0 ∧ CT h V c' a0 ch ∧ qfr c c' ∧ c'.2 = c.2 := by
  refine ⟨cI (cI (cI (cI (cI (cI c 114 1 (nI l)) 114 2 (nI s)) 114 3 (nI 0)) 114 4 (nI s)) 114 5 (nI 0)) 114 6 (nI 1), ?_, ⟨?_, ?_, ?_, ?_, ?_, ?_, by decide, by decide, by decide, by decide, fun i h1 h2 => by omega⟩, CT_114 (CT_114 (CT_114 (CT_114 (CT_114 (CT_114 hT))))), qfr_I (qfr_I (qfr_I (qfr_I (qfr_I (qfr_I (qfr_rfl c) (by decide)) (by decide)) (by decide)) (by decide)) (by decide)) (by decide), rfl⟩
  · unfold gX10_start
    simp (disch := omega) only [n_lit, n_of, n_o1, nI_add, pk_mul, nI_ltI, nI_leI, nI_eq, ↓lift_lt, ↓k_mt, ↓k_mp, if_true, if_false, Bool.false_eq_true, Nat.not_lt_zero, Nat.zero_le]
  · simp only [cI_1, if_true, Nat.reduceEqDiff, if_false] <;> rfl
  · simp only [cI_1, if_true, Nat.reduceEqDiff, if_false] <;> rfl
  · simp only [cI_1, if_true, Nat.reduceEqDiff, if_false] <;> rfl
  · simp only [cI_1, if_true, Nat.reduceEqDiff, if_false] <;> rfl
  · simp only [cI_1, if_true, Nat.reduceEqDiff, if_false] <;> rfl
  · simp only [cI_1, if_true, Nat.reduceEqDiff, if_false] <;> rfl
theorem c_step {F : Nat → Nat} {k a e : Nat} (hF : F = fun t => Yr (V a0) ch t l 0) (hok : ∀ k, itr F s k < 20000) (hl : l < 2 ^ 31) (hT : CT h V c a0 ch) (W : WK F s l c k a e) :
    ∃ r c', gX10_step h c = some (nI r, c') ∧ CT h V c' a0 ch ∧ qfr c c' ∧ (∀ z, A112 z = false → c'.2.2.2.1 z = c.2.2.2.1 z) ∧ ((r = 0 ∧ itr F s (k + 1) = itr F s a ∧ a ≤ k ∧ c'.1 114 1 = nI l ∧ c'.1 114 2 = nI (itr F s (k + 1)) ∧ c'.1 114 3 = nI (k + 1) ∧ c'.1 114 5 = nI a) ∨ (r = 1 ∧ ∃ a' e', WK F s l c' (k + 1) a' e')) := by
  have hkb := WK_b W
  obtain ⟨w1, w2, w3, w4, w5, w6, w7, w8, w9, w10, w11⟩ := W
  have pe := pow2_15 e w7
  obtain ⟨d1, ed, Td, fd⟩ := c_after (s := itr F s k) (l := l) (dry := 0) hT (hok k) hl (by decide)
  have eF : Yr (V a0) ch (itr F s k) l 0 = itr F s (k + 1) := by
    show _ = F (itr F s k)
    rw [hF]
  rw [eF] at ed
  have u1 : d1.1 114 = c.1 114 := by rw [fd.1]
  have ok1 := hok (k + 1)
  have oka := hok a
  obtain ⟨c3, ec3⟩ : ∃ c3, c3 = cI (cI d1 114 2 (nI (itr F s (k + 1)))) 114 3 (nI (k + 1)) := ⟨_, rfl⟩
  have x1 : c3.1 114 1 = nI l := by rw [ec3]; simp only [cI_1, if_true, Nat.reduceEqDiff, if_false]; rw [u1]; exact w1
  have x2 : c3.1 114 2 = nI (itr F s (k + 1)) := by rw [ec3]; simp only [cI_1, if_true, Nat.reduceEqDiff, if_false]
  have x3 : c3.1 114 3 = nI (k + 1) := by rw [ec3]; simp only [cI_1, if_true, Nat.reduceEqDiff, if_false]
  have x4 : c3.1 114 4 = nI (itr F s a) := by rw [ec3]; simp only [cI_1, if_true, Nat.reduceEqDiff, if_false]; rw [u1]; exact w4
  have x5 : c3.1 114 5 = nI a := by rw [ec3]; simp only [cI_1, if_true, Nat.reduceEqDiff, if_false]; rw [u1]; exact w5
  have x6 : c3.1 114 6 = nI (2 ^ e) := by rw [ec3]; simp only [cI_1, if_true, Nat.reduceEqDiff, if_false]; rw [u1]; exact w6
  have y3 : (cI d1 114 2 (nI (itr F s (k + 1)))).1 114 3 = nI k := by simp only [cI_1, if_true, Nat.reduceEqDiff, if_false]; rw [u1]; exact w3
  have T3 : CT h V c3 a0 ch := by rw [ec3]; exact CT_114 (CT_114 Td)
  have q3 : qfr c c3 := by rw [ec3]; exact qfr_I (qfr_I (qfr_12 fd) (by decide)) (by decide)
  have r3 : ∀ z, A112 z = false → c3.2.2.2.1 z = c.2.2.2.1 z := fun z hz => by rw [ec3]; exact fd.2.2.2.1 z hz
  unfold gX10_step gX10_step_85
  by_cases hm : itr F s (k + 1) = itr F s a
  · refine ⟨0, c3, ?_, T3, q3, r3, Or.inl ⟨rfl, hm, w9, x1, x2, x3, x5⟩⟩
    simp (disch := omega) only [n_lit, n_of, n_o1, nI_add, pk_mul, nI_ltI, nI_leI, nI_eq, ↓lift_lt, ↓k_mt, ↓k_mp, if_true, if_false, Bool.false_eq_true, Nat.not_lt_zero, Nat.zero_le, Nat.reduceEqDiff, Nat.reduceLeDiff, Nat.reduceLT, w1, w2, ed, y3, ← ec3, x2, x4, eq_true hm]
  · by_cases hr : k + 1 - a = 2 ^ e
    · have e15 : e + 1 ≤ 15 := by
        apply Classical.byContradiction
        intro hn
        have he : e = 15 := by omega
        subst he
        have p15 : (2 : Nat) ^ 15 = 32768 := by decide
        obtain ⟨i, i1, i2, i3⟩ := far_anchor (F := F) (s := s) (a := a) hok (by omega)
        by_cases z : i = k + 1
        · rw [z] at i3; exact hm i3
        · exact w11 i i1 (by omega) i3
      obtain ⟨c6, ec6⟩ : ∃ c6, c6 = cI (cI (cI c3 114 4 (nI (itr F s (k + 1)))) 114 5 (nI (k + 1))) 114 6 (nI (2 ^ (e + 1))) := ⟨_, rfl⟩
      have z5 : (cI c3 114 4 (nI (itr F s (k + 1)))).1 114 3 = nI (k + 1) := by simp only [cI_1, if_true, Nat.reduceEqDiff, if_false]; exact x3
      have z6 : (cI (cI c3 114 4 (nI (itr F s (k + 1)))) 114 5 (nI (k + 1))).1 114 6 = nI (2 ^ e) := by simp only [cI_1, if_true, Nat.reduceEqDiff, if_false]; exact x6
      have ep : 2 ^ e * 2 = 2 ^ (e + 1) := by rw [Nat.pow_succ]
      refine ⟨1, c6, ?_, by rw [ec6]; exact CT_114 (CT_114 (CT_114 T3)), by rw [ec6]; exact qfr_I (qfr_I (qfr_I q3 (by decide)) (by decide)) (by decide), fun z hz => by rw [ec6]; exact r3 z hz, Or.inr ⟨rfl, k + 1, e + 1, ?_, ?_, ?_, ?_, ?_, ?_, e15, by omega, Nat.le_refl _, ?_, fun i h1 h2 => by omega⟩⟩
      · simp (disch := omega) only [n_lit, n_of, n_o1, nI_add, pk_mul, nI_ltI, nI_leI, nI_eq, ↓lift_lt, ↓k_mt, ↓k_mp, if_true, if_false, Bool.false_eq_true, Nat.not_lt_zero, Nat.zero_le, Nat.reduceEqDiff, Nat.reduceLeDiff, Nat.reduceLT, w1, w2, ed, y3, ← ec3, x2, x3, x4, x5, x6, hm, pk_sub, hr, z5, z6, ep, ← ec6]
      · rw [ec6]; simp only [cI_1, if_true, Nat.reduceEqDiff, if_false]; exact x1
      · rw [ec6]; simp only [cI_1, if_true, Nat.reduceEqDiff, if_false]; exact x2
      · rw [ec6]; simp only [cI_1, if_true, Nat.reduceEqDiff, if_false]; exact x3
      · rw [ec6]; simp only [cI_1, if_true, Nat.reduceEqDiff, if_false]
      · rw [ec6]; simp only [cI_1, if_true, Nat.reduceEqDiff, if_false]
      · rw [ec6]; simp only [cI_1, if_true, Nat.reduceEqDiff, if_false]
      · have := Nat.pow_pos (n := e + 1) (show 0 < 2 by decide)
        omega
    · refine ⟨1, c3, ?_, T3, q3, r3, Or.inr ⟨rfl, a, e, x1, x2, x3, x4, x5, x6, w7, w8, by omega, by omega, fun i h1 h2 => ?_⟩⟩
      · simp (disch := omega) only [n_lit, n_of, n_o1, nI_add, pk_mul, nI_ltI, nI_leI, nI_eq, ↓lift_lt, ↓k_mt, ↓k_mp, if_true, if_false, Bool.false_eq_true, Nat.not_lt_zero, Nat.zero_le, Nat.reduceEqDiff, Nat.reduceLeDiff, Nat.reduceLT, w1, w2, ed, y3, ← ec3, x2, x3, x4, x5, x6, hm, pk_sub, hr]
      · by_cases z : i = k + 1
        · rw [z]; exact hm
        · exact w11 i h1 (by omega)
theorem c_stateBehind {F : Nat → Nat} {n : Nat} (hF : F = fun t => Yr (V a0) ch t l 0) (hok : ∀ k, itr F s k < 20000) (hl : l < 2 ^ 31) (hT : CT h V c a0 ch) (hn : n < 100000) : ∃ c', gX10_stateBehind h c (nI s) (nI l) (nI n) = some (nI (itr F s n), c') ∧ CT h V c' a0 ch ∧ qfr c c' := by
  obtain ⟨c1, e1, W1, T1, q1, -⟩ := c_start (s := s) (l := l) F hT
  unfold gX10_stateBehind
  simp (disch := omega) only [n_lit, n_of, n_o1, nI_add, pk_mul, nI_ltI, nI_leI, nI_eq, ↓lift_lt, ↓k_mt, ↓k_mp, if_true, if_false, Bool.false_eq_true, Nat.not_lt_zero, Nat.zero_le, Nat.reduceEqDiff, Nat.reduceLeDiff, Nat.reduceLT, e1]
  unfold gX10_stateBehind_12
  -- what is left to go
  have last : ∀ (c2 : Ch) (lf k : Nat), CT h V c2 a0 ch → qfr c c2 → c2.1 114 1 = nI l → c2.1 114 2 = nI (itr F s k) → lf < 100000 → itr F s (k + lf) = itr F s n → ∃ r, gX10_stateBehind_74 h c2 (nI lf) (nI 0) = some r ∧ r.1 = nI (itr F s n) ∧ CT h V r.2 a0 ch ∧ qfr c r.2 := by
    intro c2 lf k U1 U2 U3 U4 U5 U6
    unfold gX10_stateBehind_74
    refine lpw_all (body := fun q : Int32 × Ch => gX10_stateBehind_74b h q.2 (nI lf) q.1) (fun i q => q.1 = nI i ∧ CT h V q.2 a0 ch ∧ qfr c q.2 ∧ q.2.1 114 1 = nI l ∧ q.2.1 114 2 = nI (itr F s (k + i))) (fun r => r.1 = nI (itr F s n) ∧ CT h V r.2 a0 ch ∧ qfr c r.2) lf ?_ ?_ (nI 0, c2) ⟨rfl, U1, U2, U3, U4⟩
    · intro i q hi ⟨g1, g2, g3, g4, g5⟩
      have ki : ¬ lf ≤ i := by omega
      obtain ⟨d1, ed, Td, fd⟩ := c_after (s := itr F s (k + i)) (l := l) (dry := 0) g2 (hok _) hl (by decide)
      have eF : Yr (V a0) ch (itr F s (k + i)) l 0 = itr F s (k + (i + 1)) := by
        show _ = F (itr F s (k + i))
        rw [hF]
      rw [eF] at ed
      show ∃ s', gX10_stateBehind_74b h q.2 (nI lf) q.1 = some (.inl s') ∧ _
      rw [g1]
      unfold gX10_stateBehind_74b
      simp (disch := omega) only [n_lit, n_of, n_o1, nI_add, pk_mul, nI_ltI, nI_leI, nI_eq, ↓lift_lt, ↓k_mt, ↓k_mp, if_true, if_false, Bool.false_eq_true, Nat.not_lt_zero, Nat.zero_le, Nat.reduceEqDiff, Nat.reduceLeDiff, Nat.reduceLT, ki, g4, g5, ed]
      refine ⟨_, rfl, rfl, CT_114 Td, qfr_I (qfr_tr g3 (qfr_12 fd)) (by decide), ?_, ?_⟩
      · simp only [cI_1, if_true, Nat.reduceEqDiff, if_false]; rw [fd.1]; exact g4
      · simp only [cI_1, if_true]
    · intro q ⟨g1, g2, g3, g4, g5⟩
      show ∃ r, gX10_stateBehind_74b h q.2 (nI lf) q.1 = some (.inr r) ∧ _
      rw [g1]
      unfold gX10_stateBehind_74b
      simp (disch := omega) only [n_lit, n_of, n_o1, nI_add, pk_mul, nI_ltI, nI_leI, nI_eq, ↓lift_lt, ↓k_mt, ↓k_mp, if_true, if_false, Bool.false_eq_true, Nat.not_lt_zero, Nat.zero_le, Nat.reduceEqDiff, Nat.reduceLeDiff, Nat.reduceLT, Nat.le_refl, g5]
      exact ⟨_, rfl, by rw [U6], g2, g3⟩
  have K := lpw_meas (body := fun q : Int32 × Int32 × Ch => gX10_stateBehind_12b h q.2.2 (nI n) q.1 q.2.1)
    (fun q => CT h V q.2.2 a0 ch ∧ qfr c q.2.2 ∧ ∃ k, k ≤ n ∧ q.2.1 = nI k ∧ ((q.1 = nI 1 ∧ ∃ a e, WK F s l q.2.2 k a e) ∨ (q.1 = nI 0 ∧ ∃ a, a < k ∧ itr F s k = itr F s a ∧ q.2.2.1 114 1 = nI l ∧ q.2.2.1 114 2 = nI (itr F s k) ∧ q.2.2.1 114 3 = nI k ∧ q.2.2.1 114 5 = nI a)))
    (fun r => r.1 = nI (itr F s n) ∧ CT h V r.2 a0 ch ∧ qfr c r.2) (fun q => 100000 - q.2.1.toNatClampNeg) ?_ (nI 1, nI 0, c1) ⟨T1, q1, 0, by omega, rfl, Or.inl ⟨rfl, 0, 0, W1⟩⟩
  · obtain ⟨r, e, e2, e3⟩ := K
    exact ⟨r.2, by rw [← e2]; exact e, e3⟩
  · rintro ⟨z1, z2, z3⟩ ⟨g1, g2, k, g3, g4, g5⟩
    have g4 : z2 = nI k := g4
    subst g4
    show (∃ s', gX10_stateBehind_12b h z3 (nI n) z1 (nI k) = some (.inl s') ∧ _) ∨ (∃ r, gX10_stateBehind_12b h z3 (nI n) z1 (nI k) = some (.inr r) ∧ _)
    rcases g5 with ⟨g5, a, e, W⟩ | ⟨g5, a, ha, gm, x1, x2, x3, x5⟩
    · have g5 : z1 = nI 1 := g5
      subst g5
      have W : WK F s l z3 k a e := W
      have i1 : ¬ (1 = 0) := by decide
      by_cases hk : n ≤ k
      · have hkn : k = n := by omega
        subst hkn
        obtain ⟨r, er, r1⟩ := last z3 0 k g1 g2 W.1 W.2.1 (by decide) rfl
        refine Or.inr ⟨r, ?_, r1⟩
        unfold gX10_stateBehind_12b gX10_stateBehind_35 gX10_stateBehind_56 gX10_stateBehind_69
        simp (disch := omega) only [n_lit, n_of, n_o1, nI_add, pk_mul, nI_ltI, nI_leI, nI_eq, ↓lift_lt, ↓k_mt, ↓k_mp, if_true, if_false, Bool.false_eq_true, Nat.not_lt_zero, Nat.zero_le, Nat.reduceEqDiff, Nat.reduceLeDiff, Nat.reduceLT, Nat.le_refl, i1, er]
      · obtain ⟨r, c', er, T', q', -, hh⟩ := c_step hF hok hl g1 W
        refine Or.inl ⟨(nI r, nI (k + 1), c'), ?_, ⟨T', qfr_tr g2 q', k + 1, by omega, rfl, ?_⟩, ?_⟩
        · unfold gX10_stateBehind_12b
          simp (disch := omega) only [n_lit, n_of, n_o1, nI_add, pk_mul, nI_ltI, nI_leI, nI_eq, ↓lift_lt, ↓k_mt, ↓k_mp, if_true, if_false, Bool.false_eq_true, Nat.not_lt_zero, Nat.zero_le, Nat.reduceEqDiff, Nat.reduceLeDiff, Nat.reduceLT, hk, i1, er]
        · rcases hh with ⟨r0, gm, hak, y1, y2, y3, y5⟩ | ⟨r0, a', e', W'⟩
          · subst r0
            exact Or.inr ⟨rfl, a, by omega, gm, y1, y2, y3, y5⟩
          · subst r0
            exact Or.inl ⟨rfl, a', e', W'⟩
        · show 100000 - (nI (k + 1)).toNatClampNeg < 100000 - (nI k).toNatClampNeg
          rw [nI_clamp (by omega), nI_clamp (by omega)]
          omega
    · have g5 : z1 = nI 0 := g5
      subst g5
      have x3 : z3.1 114 3 = nI k := x3
      have x5 : z3.1 114 5 = nI a := x5
      have hlt : (n - k) % (k - a) < k - a := Nat.mod_lt _ (by omega)
      have hmod : itr F s (k + (n - k) % (k - a)) = itr F s n := by
        rw [itr_per gm, itr_mod (a := a) (b := k) ha gm.symm n (by omega)]
        have : (n - a) % (k - a) = (n - k) % (k - a) := by
          rw [show n - a = (n - k) + (k - a) by omega, Nat.add_mod_right]
        rw [this]
      obtain ⟨r, er, r1⟩ := last z3 ((n - k) % (k - a)) k g1 g2 x1 x2 (by omega) hmod
      have hpos : 0 < k - a := by omega
      refine Or.inr ⟨r, ?_, r1⟩
      unfold gX10_stateBehind_12b gX10_stateBehind_35 gX10_stateBehind_69
      by_cases hk : n ≤ k
      · simp (disch := omega) only [n_lit, n_of, n_o1, nI_add, pk_mul, nI_ltI, nI_leI, nI_eq, ↓lift_lt, ↓k_mt, ↓k_mp, if_true, if_false, Bool.false_eq_true, Nat.not_lt_zero, Nat.zero_le, Nat.reduceEqDiff, Nat.reduceLeDiff, Nat.reduceLT, hk, x3, x5, pk_sub, hpos, n_rm, er]
      · simp (disch := omega) only [n_lit, n_of, n_o1, nI_add, pk_mul, nI_ltI, nI_leI, nI_eq, ↓lift_lt, ↓k_mt, ↓k_mp, if_true, if_false, Bool.false_eq_true, Nat.not_lt_zero, Nat.zero_le, Nat.reduceEqDiff, Nat.reduceLeDiff, Nat.reduceLT, hk, x3, x5, pk_sub, hpos, n_rm, er]
theorem c_yearsTillFall {F : Nat → Nat} (hF : F = fun t => Yr (V a0) ch t l 0) (hok : ∀ k, itr F s k < 20000) (hl : l < 2 ^ 31) (hT : CT h V c a0 ch) : ∃ r c', gX10_yearsTillFall h c (nI s) (nI l) = some (r, c') ∧ fst1 (fun n => 10000 ≤ itr F s n) r ∧ CT h V c' a0 ch ∧ qfr c c' := by
  obtain ⟨c1, e1, W1, T1, q1, -⟩ := c_start (s := s) (l := l) F hT
  have i1 : ¬ (1 = 0) := by decide
  unfold gX10_yearsTillFall
  simp (disch := omega) only [n_lit, n_of, n_o1, nI_add, pk_mul, nI_ltI, nI_leI, nI_eq, ↓lift_lt, ↓k_mt, ↓k_mp, if_true, if_false, Bool.false_eq_true, Nat.not_lt_zero, Nat.zero_le, Nat.reduceEqDiff, Nat.reduceLeDiff, Nat.reduceLT, e1]
  unfold gX10_yearsTillFall_11
  have K := lpw_meas (body := fun q : Int32 × Int32 × Ch => gX10_yearsTillFall_11b h q.2.2 q.1 q.2.1)
    (fun q => CT h V q.2.2 a0 ch ∧ qfr c q.2.2 ∧ ∃ k, k ≤ 65535 ∧ q.2.1 = nI k ∧ (∀ i, i < k → ¬ 10000 ≤ itr F s i) ∧ ((q.1 = nI 1 ∧ ∃ a e, WK F s l q.2.2 k a e) ∨ (q.1 = nI 0 ∧ ∃ a, a < k ∧ itr F s k = itr F s a)))
    (fun r => fst1 (fun n => 10000 ≤ itr F s n) r.1 ∧ CT h V r.2 a0 ch ∧ qfr c r.2) (fun q => 100000 - q.2.1.toNatClampNeg) ?_ (nI 1, nI 0, c1) ⟨T1, q1, 0, by decide, rfl, fun i hi => by omega, Or.inl ⟨rfl, 0, 0, W1⟩⟩
  · obtain ⟨r, e, e2, e3⟩ := K
    exact ⟨r.1, r.2, e, e2, e3⟩
  · rintro ⟨z1, z2, z3⟩ ⟨g1, g2, k, g3, g4, gn, g5⟩
    have g4 : z2 = nI k := g4
    subst g4
    have k9 : ¬ 99999 < k := by omega
    show (∃ s', gX10_yearsTillFall_11b h z3 z1 (nI k) = some (.inl s') ∧ _) ∨ (∃ r, gX10_yearsTillFall_11b h z3 z1 (nI k) = some (.inr r) ∧ _)
    unfold gX10_yearsTillFall_11b gX10_yearsTillFall_48
    rcases g5 with ⟨g5, a, e, W⟩ | ⟨g5, a, ha, gm⟩
    · have g5 : z1 = nI 1 := g5
      subst g5
      have W : WK F s l z3 k a e := W
      have okk := hok k
      have kb := WK_b W
      by_cases hf : itr F s k < 10000
      · obtain ⟨r, c', er, T', q', -, hh⟩ := c_step hF hok hl g1 W
        refine Or.inl ⟨(nI r, nI (k + 1), c'), ?_, ⟨T', qfr_tr g2 q', k + 1, by omega, rfl, fun i hi => ?_, ?_⟩, ?_⟩
        · simp (disch := omega) only [n_lit, n_of, n_o1, nI_add, pk_mul, nI_ltI, nI_leI, nI_eq, ↓lift_lt, ↓k_mt, ↓k_mp, if_true, if_false, Bool.false_eq_true, Nat.not_lt_zero, Nat.zero_le, Nat.reduceEqDiff, Nat.reduceLeDiff, Nat.reduceLT, k9, i1, W.2.1, hf, er]
        · by_cases z : i = k
          · rw [z]; omega
          · exact gn i (by omega)
        · rcases hh with ⟨r0, gm, hak, -⟩ | ⟨r0, a', e', W'⟩
          · subst r0
            exact Or.inr ⟨rfl, a, by omega, gm⟩
          · subst r0
            exact Or.inl ⟨rfl, a', e', W'⟩
        · show 100000 - (nI (k + 1)).toNatClampNeg < 100000 - (nI k).toNatClampNeg
          rw [nI_clamp (by omega), nI_clamp (by omega)]
          omega
      · refine Or.inr ⟨(nI k, z3), ?_, Or.inl ⟨k, by omega, rfl, by omega, gn⟩, g1, g2⟩
        simp (disch := omega) only [n_lit, n_of, n_o1, nI_add, pk_mul, nI_ltI, nI_leI, nI_eq, ↓lift_lt, ↓k_mt, ↓k_mp, if_true, if_false, Bool.false_eq_true, Nat.not_lt_zero, Nat.zero_le, Nat.reduceEqDiff, Nat.reduceLeDiff, Nat.reduceLT, k9, i1, W.2.1, W.2.2.1, hf]
    · have g5 : z1 = nI 0 := g5
      subst g5
      refine Or.inr ⟨(-nI 1, z3), ?_, Or.inr ⟨rfl, led_all (Q := fun t => 10000 ≤ t) ha gm.symm gn⟩, g1, g2⟩
      simp (disch := omega) only [n_lit, n_of, n_o1, nI_add, pk_mul, nI_ltI, nI_leI, nI_eq, ↓lift_lt, ↓k_mt, ↓k_mp, if_true, if_false, Bool.false_eq_true, Nat.not_lt_zero, Nat.zero_le, Nat.reduceEqDiff, Nat.reduceLeDiff, Nat.reduceLT, k9]
end CWALK
