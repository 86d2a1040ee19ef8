/-! the reference's rows before and behind the lines -/
theorem q_plain {m : Mu} : ∃ m', gX12_plain m 4 = some m' ∧ m'.1 = m.1 ∧ m'.2.2 = m.2.2 ∧ (∀ r, ¬ r = 4 → m'.2.1 r = m.2.1 r) ∧ ∀ k, k < 1038 → m'.2.1 4 k = nI 0 := by
  have run : ∀ d k q, k + d = 1038 → (q.1 = m.1 ∧ q.2.2 = m.2.2 ∧ (∀ r, ¬ r = 4 → q.2.1 r = m.2.1 r) ∧ ∀ i, i < k → q.2.1 4 i = nI 0) → ∃ m', gX12_plain_2 q 4 (nI k) = some m' ∧ m'.1 = m.1 ∧ m'.2.2 = m.2.2 ∧ (∀ r, ¬ r = 4 → m'.2.1 r = m.2.1 r) ∧ ∀ i, i < 1038 → m'.2.1 4 i = nI 0 := by
    intro d
    induction d with
    | zero =>
      intro k q hk H
      have ek : k = 1038 := by omega
      rw [ek] at H ⊢
      refine ⟨q, ?_, H⟩
      have eb : gX12_plain_2b q 4 (nI 1038) = some (.inr q) := by
        unfold gX12_plain_2b
        simp (disch := omega) only [n_lit, n_of, n_o1, nI_add, pk_mul, nI_ltI, nI_leI, nI_eq, ↓lift_lt, ↓k_mt, ↓k_mp, if_true, if_false, Bool.false_eq_true, Nat.not_lt_zero, Nat.zero_le, Nat.reduceEqDiff, Nat.reduceLeDiff, Nat.reduceLT, Nat.le_refl]
      unfold gX12_plain_2
      exact lpw_r eb
    | succ d ih =>
      intro k q hk ⟨h1, h2, h3, h4⟩
      have kk : ¬ 1038 ≤ k := by omega
      obtain ⟨m', e', H'⟩ := ih (k + 1) (mS q 4 k (nI 0)) (by omega) ⟨h1, by rw [mS_j]; exact h2, fun r hr => by rw [mS_ne _ _ _ hr]; exact h3 r hr, fun i hi => by
        rw [mS_a, if_pos rfl]
        by_cases z : i = k
        · rw [if_pos z]
        · rw [if_neg z]
          exact h4 i (by omega)⟩
      refine ⟨m', ?_, H'⟩
      rw [← e']
      have eb : gX12_plain_2b q 4 (nI k) = some (.inl (nI (k + 1), mS q 4 k (nI 0))) := by
        unfold gX12_plain_2b
        simp (disch := omega) only [n_lit, n_of, n_o1, nI_add, pk_mul, nI_ltI, nI_leI, nI_eq, ↓lift_lt, ↓k_mt, ↓k_mp, if_true, if_false, Bool.false_eq_true, Nat.not_lt_zero, Nat.zero_le, Nat.reduceEqDiff, Nat.reduceLeDiff, Nat.reduceLT, kk, mW_4]
      unfold gX12_plain_2
      exact lpw_l eb
  exact run 1038 0 m rfl ⟨rfl, rfl, fun _ _ => rfl, fun i hi => by omega⟩
theorem q_193 {m : Mu} : ∃ m', gX12_cave_193 m (nI 0) = gX12_cave_222 m' ∧ m'.1 = m.1 ∧ m'.2.2 = m.2.2 ∧ (∀ r, ¬ r = 1 → m'.2.1 r = m.2.1 r) ∧ ∀ i, m'.2.1 1 i = if 15 ≤ i ∧ i < 19 then m.2.1 1 (i - 4) else m.2.1 1 i := by
  have run : ∀ d k q, k + d = 4 → (q.1 = m.1 ∧ q.2.2 = m.2.2 ∧ (∀ r, ¬ r = 1 → q.2.1 r = m.2.1 r) ∧ ∀ i, q.2.1 1 i = if 15 ≤ i ∧ i < 15 + k then m.2.1 1 (i - 4) else m.2.1 1 i) → ∃ m', gX12_cave_193 q (nI k) = gX12_cave_222 m' ∧ m'.1 = m.1 ∧ m'.2.2 = m.2.2 ∧ (∀ r, ¬ r = 1 → m'.2.1 r = m.2.1 r) ∧ ∀ i, m'.2.1 1 i = if 15 ≤ i ∧ i < 19 then m.2.1 1 (i - 4) else m.2.1 1 i := by
    intro d
    induction d with
    | zero =>
      intro k q hk H
      have ek : k = 4 := by omega
      rw [ek] at H ⊢
      refine ⟨q, ?_, H⟩
      have eb : gX12_cave_193b q (nI 4) = (gX12_cave_222 q).map (fun q => .inr q) := by
        unfold gX12_cave_193b
        simp (disch := omega) only [n_lit, n_of, n_o1, nI_add, pk_mul, nI_ltI, nI_leI, nI_eq, ↓lift_lt, ↓k_mt, ↓k_mp, if_true, if_false, Bool.false_eq_true, Nat.not_lt_zero, Nat.zero_le, Nat.reduceEqDiff, Nat.reduceLeDiff, Nat.reduceLT, Nat.le_refl]
      unfold gX12_cave_193
      exact lpw_m eb
    | succ d ih =>
      intro k q hk ⟨h1, h2, h3, h4⟩
      have kk : ¬ 4 ≤ k := by omega
      have ev : q.2.1 1 (11 + k) = m.2.1 1 (11 + k) := by rw [h4, if_neg (by omega)]
      obtain ⟨m', e', H'⟩ := ih (k + 1) (mS q 1 (15 + k) (m.2.1 1 (11 + k))) (by omega) ⟨h1, by rw [mS_j]; exact h2, fun r hr => by rw [mS_ne _ _ _ hr]; exact h3 r hr, fun i => by
        rw [mS_a, if_pos rfl]
        by_cases z : i = 15 + k
        · rw [if_pos z, if_pos (by omega), show i - 4 = 11 + k by omega]
        · rw [if_neg z, h4]
          by_cases z2 : 15 ≤ i ∧ i < 15 + k
          · rw [if_pos z2, if_pos (by omega)]
          · rw [if_neg z2, if_neg (by omega)]⟩
      refine ⟨m', ?_, H'⟩
      rw [← e']
      have eb : gX12_cave_193b q (nI k) = some (.inl (nI (k + 1), mS q 1 (15 + k) (m.2.1 1 (11 + k)))) := by
        unfold gX12_cave_193b
        simp (disch := omega) only [n_lit, n_of, n_o1, nI_add, pk_mul, nI_ltI, nI_leI, nI_eq, ↓lift_lt, ↓k_mt, ↓k_mp, if_true, if_false, Bool.false_eq_true, Nat.not_lt_zero, Nat.zero_le, Nat.reduceEqDiff, Nat.reduceLeDiff, Nat.reduceLT, kk, mA_1, ev, mW_1]
      unfold gX12_cave_193
      exact lpw_l eb
  exact run 4 0 m rfl ⟨rfl, rfl, fun _ _ => rfl, fun i => by rw [if_neg (by omega)]⟩
theorem q_166 {m : Mu} : ∃ m', gX12_cave_166 m (nI 0) = gX12_cave_193 m' (nI 0) ∧ m'.1 = m.1 ∧ m'.2.2 = m.2.2 ∧ (∀ r, ¬ r = 1 → m'.2.1 r = m.2.1 r) ∧ ∀ i, m'.2.1 1 i = if i < 1038 then m.2.1 4 i else m.2.1 1 i := by
  have run : ∀ d k q, k + d = 1038 → (q.1 = m.1 ∧ q.2.2 = m.2.2 ∧ (∀ r, ¬ r = 1 → q.2.1 r = m.2.1 r) ∧ ∀ i, q.2.1 1 i = if i < k then m.2.1 4 i else m.2.1 1 i) → ∃ m', gX12_cave_166 q (nI k) = gX12_cave_193 m' (nI 0) ∧ m'.1 = m.1 ∧ m'.2.2 = m.2.2 ∧ (∀ r, ¬ r = 1 → m'.2.1 r = m.2.1 r) ∧ ∀ i, m'.2.1 1 i = if i < 1038 then m.2.1 4 i else m.2.1 1 i := by
    intro d
    induction d with
    | zero =>
      intro k q hk H
      have ek : k = 1038 := by omega
      rw [ek] at H ⊢
      refine ⟨q, ?_, H⟩
      have eb : gX12_cave_166b q (nI 1038) = (gX12_cave_193 q (nI 0)).map (fun q => .inr q) := by
        unfold gX12_cave_166b gX12_cave_191
        simp (disch := omega) only [n_lit, n_of, n_o1, nI_add, pk_mul, nI_ltI, nI_leI, nI_eq, ↓lift_lt, ↓k_mt, ↓k_mp, if_true, if_false, Bool.false_eq_true, Nat.not_lt_zero, Nat.zero_le, Nat.reduceEqDiff, Nat.reduceLeDiff, Nat.reduceLT, Nat.le_refl]
      unfold gX12_cave_166
      exact lpw_m eb
    | succ d ih =>
      intro k q hk ⟨h1, h2, h3, h4⟩
      have kk : ¬ 1038 ≤ k := by omega
      have ev : q.2.1 4 k = m.2.1 4 k := by rw [h3 4 (by decide)]
      obtain ⟨m', e', H'⟩ := ih (k + 1) (mS q 1 k (m.2.1 4 k)) (by omega) ⟨h1, by rw [mS_j]; exact h2, fun r hr => by rw [mS_ne _ _ _ hr]; exact h3 r hr, fun i => by
        rw [mS_a, if_pos rfl]
        by_cases z : i = k
        · rw [if_pos z, if_pos (by omega), z]
        · rw [if_neg z, h4]
          by_cases z2 : i < k
          · rw [if_pos z2, if_pos (by omega)]
          · rw [if_neg z2, if_neg (by omega)]⟩
      refine ⟨m', ?_, H'⟩
      rw [← e']
      have eb : gX12_cave_166b q (nI k) = some (.inl (nI (k + 1), mS q 1 k (m.2.1 4 k))) := by
        unfold gX12_cave_166b
        simp (disch := omega) only [n_lit, n_of, n_o1, nI_add, pk_mul, nI_ltI, nI_leI, nI_eq, ↓lift_lt, ↓k_mt, ↓k_mp, if_true, if_false, Bool.false_eq_true, Nat.not_lt_zero, Nat.zero_le, Nat.reduceEqDiff, Nat.reduceLeDiff, Nat.reduceLT, kk, mA_4, ev, mW_1]
      unfold gX12_cave_166
      exact lpw_l eb
  exact run 1038 0 m rfl ⟨rfl, rfl, fun _ _ => rfl, fun i => by rw [if_neg (by omega)]⟩
/-- what stands when a cave was told: nothing has happened yet -/
def st0 (z : Tl) : St := (z.2.2.2.2.1, z.2.2.2.2.2.1, vL (cvT z), nI 0)
theorem lawN_R {f f' : Nat → Int32} {law nc : Nat} {gl : Option (List Nat)} (hl : law < 2) (hn : nc ≤ 900) (h : ∀ i, i < 11 ∨ 138 ≤ i → i < 1038 → f' i = f i) (H : lawN f law nc gl) : lawR f' law gl := by
  cases gl with
  | none => exact (h _ (by omega) (by omega)).trans H
  | some code =>
    obtain ⟨h1, fr, h2, h3, h4, h5⟩ := H
    refine ⟨(h _ (by omega) (by omega)).trans h1, fr, (h _ (by omega) (by omega)).trans h2, (h _ (by omega) (by omega)).trans h3, by omega, fun k hk => (h _ (by omega) (by omega)).trans ((h5 k hk).trans ?_)⟩
    rw [List.getD_eq_getElem?_getD, List.getElem?_eq_getElem hk]
    rfl
theorem q_end {m : Mu} {z : Tl} {nc : Nat} (w0 : m.1 11 = nI 0) (R : Rt (m.2.1 4) z nc) (hn : nc ≤ 900) (O : okT z) :
    ∃ m', gX12_cave_122 m = some (nI z.2.2.2.1, m') ∧ m'.1 = (mI (mI m 13 (nI 0)) 14 (-nI 1)).1 ∧ m'.2.2 = m.2.2 ∧ (∀ r, ¬ r = 1 → m'.2.1 r = m.2.1 r) ∧ Rv (m'.2.1 1) (cvT z) ∧ blk (m'.2.1 1) 15 (st0 z) ∧ m'.2.1 1 26 = nI 0 ∧ ∀ j, 1038 ≤ j → m'.2.1 1 j = m.2.1 1 j := by
  obtain ⟨P, D, Y, ln, G, Ck, L, gl, fl⟩ := z
  obtain ⟨r1, r2, r3, r4, r5, r6, r7, r8, r9, r10, r11, r12⟩ := R
  obtain ⟨o1, o2, o3, o4, o5, o6, o7, o8⟩ := O
  have o1 : P ≤ 4 := o1
  have o4 : G < 10 ^ P := o4
  have o5 : Ck < 10 ^ P := o5
  obtain ⟨m1, em1⟩ : ∃ m1, m1 = mI (mI m 13 (nI 0)) 14 (-nI 1) := ⟨_, rfl⟩
  have w11 : m1.1 11 = nI 0 := by rw [em1, mI_f, if_neg (by decide), mI_f, if_neg (by decide)]; exact w0
  have a1 : m1.2 = m.2 := by rw [em1]; rfl
  obtain ⟨m2, e2, f2, j2, s2, t2⟩ := q_166 (m := m1)
  obtain ⟨m3, e3, f3, j3, s3, t3⟩ := q_193 (m := m2)
  have v : ∀ i, i < 1038 → ¬ (15 ≤ i ∧ i < 19) → m3.2.1 1 i = m.2.1 4 i := fun i q1 q2 => by rw [t3, if_neg q2, t2, if_pos q1, a1]
  have vg' : ∀ p, p < 4 → m3.2.1 1 (15 + p) = m.2.1 4 (11 + p) := fun p hp => by rw [t3, if_pos (by omega), t2, if_pos (by omega), show 15 + p - 4 = 11 + p by omega, a1]
  have vh : ∀ j, 1038 ≤ j → m3.2.1 1 j = m.2.1 1 j := fun j hj => by rw [t3, if_neg (by omega), t2, if_neg (by omega), a1]
  have v0 : m3.2.1 1 0 = nI ln := (v 0 (by decide) (by decide)).trans r1
  have v1 : m3.2.1 1 1 = nI P := (v 1 (by decide) (by decide)).trans r2
  have v2 : m3.2.1 1 2 = nI D := (v 2 (by decide) (by decide)).trans r3
  have v3 : m3.2.1 1 3 = nI (if L = none then 0 else 1) := (v 3 (by decide) (by decide)).trans r4
  have v23 : m3.2.1 1 23 = nI (L.getD 0) := (v 23 (by decide) (by decide)).trans r8
  have e222 : ∃ m4, gX12_cave_222 m3 = some (nI ln, m4) ∧ m4.1 = m3.1 ∧ m4.2.2 = m3.2.2 ∧ (∀ r, ¬ r = 1 → m4.2.1 r = m3.2.1 r) ∧ (∀ i, ¬ i = 23 → m4.2.1 1 i = m3.2.1 1 i) ∧ m4.2.1 1 23 = nI (L.getD (if 0 < P then D else 0)) := by
    unfold gX12_cave_222 gX12_cave_253
    cases L with
    | none =>
      rw [if_pos rfl] at v3
      by_cases zP : P ≤ 0
      · refine ⟨m3, ?_, rfl, rfl, fun _ _ => rfl, fun _ _ => rfl, ?_⟩
        · simp (disch := omega) only [n_lit, n_of, n_o1, nI_add, pk_mul, nI_ltI, nI_leI, nI_eq, ↓lift_lt, ↓k_mt, ↓k_mp, if_true, if_false, Bool.false_eq_true, Nat.not_lt_zero, Nat.zero_le, Nat.reduceEqDiff, Nat.reduceLeDiff, Nat.reduceLT, mA_1, v3, v1, zP, v0]
        · rw [v23, if_neg (by omega)]
      · refine ⟨mS m3 1 23 (nI D), ?_, rfl, by rw [mS_j], fun r hr => mS_ne _ _ _ hr, fun i hi => by rw [mS_a, if_pos rfl, if_neg hi], ?_⟩
        · have v0' : (mS m3 1 23 (nI D)).2.1 1 0 = nI ln := by rw [mS_a, if_pos rfl, if_neg (by decide)]; exact v0
          simp (disch := omega) only [n_lit, n_of, n_o1, nI_add, pk_mul, nI_ltI, nI_leI, nI_eq, ↓lift_lt, ↓k_mt, ↓k_mp, if_true, if_false, Bool.false_eq_true, Nat.not_lt_zero, Nat.zero_le, Nat.reduceEqDiff, Nat.reduceLeDiff, Nat.reduceLT, mA_1, v3, v1, zP, v2, mW_1, v0']
        · rw [mS_a, if_pos rfl, if_pos rfl, if_pos (by omega)]
          rfl
    | some l =>
      rw [if_neg (by intro q; cases q)] at v3
      have i1 : ¬ (1 = 0) := by decide
      refine ⟨m3, ?_, rfl, rfl, fun _ _ => rfl, fun _ _ => rfl, v23⟩
      simp (disch := omega) only [n_lit, n_of, n_o1, nI_add, pk_mul, nI_ltI, nI_leI, nI_eq, ↓lift_lt, ↓k_mt, ↓k_mp, if_true, if_false, Bool.false_eq_true, Nat.not_lt_zero, Nat.zero_le, Nat.reduceEqDiff, Nat.reduceLeDiff, Nat.reduceLT, mA_1, v3, i1, v0]
  obtain ⟨m4, e4, f4, j4, s4, t4, u4⟩ := e222
  have V : ∀ i, i < 1038 → ¬ (15 ≤ i ∧ i < 19) → ¬ i = 23 → m4.2.1 1 i = m.2.1 4 i := fun i q1 q2 q3 => by rw [t4 i q3, v i q1 q2]
  have p10 := pow10_le o1
  refine ⟨m4, ?_, by rw [f4, f3, f2, em1], by rw [j4, j3, j2, a1], fun r hr => by rw [s4 r hr, s3 r hr, s2 r hr, a1], ⟨(V 0 (by decide) (by decide) (by decide)).trans r1, (V 1 (by decide) (by decide) (by decide)).trans r2, (V 2 (by decide) (by decide) (by decide)).trans r3, (V 4 (by decide) (by decide) (by decide)).trans r5, fun p hp => (V _ (by omega) (by omega) (by omega)).trans (r6 p hp), lawN_R (by decide) hn (fun i q1 q2 => V i q2 (by omega) (by omega)) r10, lawN_R (by decide) hn (fun i q1 q2 => V i q2 (by omega) (by omega)) r11⟩, ⟨fun p hp => ?_, fun p hp => ?_, u4, ?_, ?_⟩, (V 26 (by decide) (by decide) (by decide)).trans r9.2.2, fun j hj => by rw [t4 j (by omega), vh j hj]⟩
  · unfold gX12_cave_122 gX12_cave_146
    have x11 : (mI m 13 (nI 0)).1 11 = nI 0 := by rw [mI_f, if_neg (by decide)]; exact w0
    have em1' : mI (mI m 13 (nI 0)) 14 (-nI 1) = m1 := em1.symm
    simp (disch := omega) only [n_lit, n_of, n_o1, nI_add, pk_mul, nI_ltI, nI_leI, nI_eq, ↓lift_lt, ↓k_mt, ↓k_mp, if_true, if_false, Bool.false_eq_true, Nat.not_lt_zero, Nat.zero_le, Nat.reduceEqDiff, Nat.reduceLeDiff, Nat.reduceLT, w0, x11, em1', w11, e2, e3, e4]
  · rw [t4 _ (by omega), vg' p hp]
    exact r6 p hp
  · rw [show 15 + (4 + p) = 19 + p by omega, V _ (by omega) (by omega) (by omega)]
    exact r7 p hp
  · show m4.2.1 1 24 = nI (G / 10000)
    rw [V 24 (by decide) (by decide) (by decide), r9.1, Nat.div_eq_of_lt (Nat.lt_of_lt_of_le o4 p10)]
  · show m4.2.1 1 25 = nI 0
    rw [V 25 (by decide) (by decide) (by decide)]
    exact r9.2.1
theorem q_flt {m : Mu} (w0 : ¬ m.1 11 = nI 0) : gX12_cave_122 m = some (-nI 30 - m.1 11, mI (mI m 13 (m.1 11)) 14 (m.1 12)) := by
  have x11 : (mI m 13 (m.1 11)).1 11 = m.1 11 := by rw [mI_f, if_neg (by decide)]
  have x12 : (mI m 13 (m.1 11)).1 12 = m.1 12 := by rw [mI_f, if_neg (by decide)]
  have y11 : (mI (mI m 13 (m.1 11)) 14 (m.1 12)).1 11 = m.1 11 := by rw [mI_f, if_neg (by decide), x11]
  unfold gX12_cave_122 gX12_cave_146
  simp (disch := omega) only [n_lit, n_of, n_o1, nI_add, pk_mul, nI_ltI, nI_leI, nI_eq, ↓lift_lt, ↓k_mt, ↓k_mp, if_true, if_false, Bool.false_eq_true, Nat.not_lt_zero, Nat.zero_le, Nat.reduceEqDiff, Nat.reduceLeDiff, Nat.reduceLT, w0, x11, x12, y11]
