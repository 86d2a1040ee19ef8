/-! all lines, what stands before them -/
theorem ckd_0 {kd : Nat} (h : ¬ kd = 24) : ¬ ckd kd = 0 := by
  unfold ckd
  repeat' split
  all_goals omega
/-- what both hold when a cave was told well -/
def TDx (N : Nat) (m0 : Mu) (c0 : Ch) (h : Hp) (m : Mu) (c : Ch) (z : Tl) (nc : Nat) : Prop := m.1 11 = nI 0 ∧ Rt (m.2.1 4) z nc ∧ Ct h c z ∧ okT z ∧ lfM m0 m ∧ lfC c0 c ∧ z.2.2.2.1 ≤ N + 1 ∧ nc ≤ N ∧ c.1 82 5 = nI 0 ∧ c.1 82 6 = -nI 1
section LPE
variable {t : Nat → Nat} {N : Nat} {m0 : Mu} {c0 : Ch}
theorem l_loop : ∀ d h m c z nc a i, a + d = N → i ≤ a → LNx t N m0 c0 h m c z nc a → z.2.2.2.1 ≤ i + 1 → hok h →
    ∃ m' h' c', gX12_cave_95 m = gX12_cave_122 m' ∧ hok h' ∧ hgr h h' ∧ h'.1 + a ≤ h.1 + N ∧ h'.2.1 + a ≤ h.2.1 + N ∧
      ((fX4_read_21 (cput h c) 82 (nI N) (nI 1) (nI i) = fX4_read_52 (cput h' c') 82 (nI 1) ∧ ∃ z' nc', TDx N m0 c0 h' m' c' z' nc') ∨ (fX4_read_21 (cput h c) 82 (nI N) (nI 1) (nI i) = fX4_read_52 (cput h' c') 82 (nI 0) ∧ LFx m0 c0 m' c')) := by
  intro d
  induction d using Nat.strongRecOn with
  | _ d ih =>
    intro h m c z nc a i ha hi L hz ho
    have i1 : ¬ (1 = 0) := by decide
    obtain ⟨⟨b, kd, nm, T⟩, R, C, O, hl, fM, fC⟩ := L
    have ab := TS_a T
    have k9 := T.2.1.2.2.1
    have k3 := T.2.1.2.2.2.2.2.1
    have k8 := T.2.1.2.2.2.2.2.2.2
    have w0 := T.2.2
    have x7 := T.1.2.2.2.2.2.2.2
    by_cases z4 : kd = 24
    · have c0' : ckd kd = 0 := by rw [z4]; rfl
      refine ⟨m, h, c, ?_, ho, hgr_rfl h, by omega, by omega, Or.inl ⟨?_, z, nc, w0, R, C, O, fM, fC, by omega, by omega, x7.1, x7.2⟩⟩
      · have eb : gX12_cave_95b m = (gX12_cave_122 m).map (fun q => .inr q) := by
          unfold gX12_cave_95b
          simp (disch := omega) only [n_lit, n_of, n_o1, nI_add, pk_mul, nI_ltI, nI_leI, nI_eq, ↓lift_lt, ↓k_mt, ↓k_mp, if_true, if_false, Bool.false_eq_true, Nat.not_lt_zero, Nat.zero_le, Nat.reduceEqDiff, Nat.reduceLeDiff, Nat.reduceLT, w0, k9, eq_true z4]
        unfold gX12_cave_95
        exact lpw_m eb
      · have eb : fX4_read_21b (cput h c) 82 (nI N) (nI 1) (nI i) = (fX4_read_52 (cput h c) 82 (nI 1)).map (fun q => .inr q) := by
          unfold fX4_read_21b
          by_cases q : N ≤ i
          · simp (disch := omega) only [n_lit, n_of, n_o1, nI_add, pk_mul, nI_ltI, nI_leI, nI_eq, ↓lift_lt, ↓k_mt, ↓k_mp, if_true, if_false, Bool.false_eq_true, Nat.not_lt_zero, Nat.zero_le, Nat.reduceEqDiff, Nat.reduceLeDiff, Nat.reduceLT, q]
          · simp (disch := omega) only [n_lit, n_of, n_o1, nI_add, pk_mul, nI_ltI, nI_leI, nI_eq, ↓lift_lt, ↓k_mt, ↓k_mp, if_true, if_false, Bool.false_eq_true, Nat.not_lt_zero, Nat.zero_le, Nat.reduceEqDiff, Nat.reduceLeDiff, Nat.reduceLT, q, i1, cgN_82_0, cgI_83_3, k3, c0']
        unfold fX4_read_21
        exact lpw_m eb
    · have aN : a < N := by
        rcases k8.2 with ⟨q, -⟩ | ⟨q, -⟩
        · exact absurd q z4
        · have := k8.1; omega
      have cn0 := ckd_0 z4
      have cb := ckd_b kd
      have iN : ¬ N ≤ i := by omega
      obtain ⟨m1, m2, h1, c1, e1, e2, o1, o2, ⟨e3, z', nc', a', L', l1, l2, l3, l4⟩ | ⟨e3, F, l3, l4⟩⟩ := l_line T R C O hl fM fC ho
      · have aN' : a' ≤ N := by
          obtain ⟨⟨b', kd', nm', T'⟩, -⟩ := L'
          exact (TS_a T').1
        obtain ⟨m', h', c', s1, s2, s3, s4, s5, s6⟩ := ih (N - a') (by omega) h1 m2 c1 z' nc' a' (i + 1) (by omega) (by omega) L' (by omega) o1
        have er : gX12_cave_95 m = gX12_cave_95 m2 := by
          have eb : gX12_cave_95b m = some (.inl m2) := by
            unfold gX12_cave_95b
            simp (disch := omega) only [n_lit, n_of, n_o1, nI_add, pk_mul, nI_ltI, nI_leI, nI_eq, ↓lift_lt, ↓k_mt, ↓k_mp, if_true, if_false, Bool.false_eq_true, Nat.not_lt_zero, Nat.zero_le, Nat.reduceEqDiff, Nat.reduceLeDiff, Nat.reduceLT, w0, k9, z4, e1, e2]
          unfold gX12_cave_95
          exact lpw_l eb
        have ec : fX4_read_21 (cput h c) 82 (nI N) (nI 1) (nI i) = fX4_read_21 (cput h1 c1) 82 (nI N) (nI 1) (nI (i + 1)) := by
          have eb : fX4_read_21b (cput h c) 82 (nI N) (nI 1) (nI i) = some (.inl (nI 1, nI (i + 1), cput h1 c1)) := by
            unfold fX4_read_21b
            simp (disch := omega) only [n_lit, n_of, n_o1, nI_add, pk_mul, nI_ltI, nI_leI, nI_eq, ↓lift_lt, ↓k_mt, ↓k_mp, if_true, if_false, Bool.false_eq_true, Nat.not_lt_zero, Nat.zero_le, Nat.reduceEqDiff, Nat.reduceLeDiff, Nat.reduceLT, iN, i1, cgN_82_0, cgI_83_3, k3, cn0, cgO_82, e3]
          unfold fX4_read_21
          exact lpw_l eb
        rw [er, ec]
        exact ⟨m', h', c', s1, s2, hgr_tr o2 s3, by omega, by omega, s6⟩
      · have pw := LFx_w F
        refine ⟨m2, h1, c1, ?_, o1, o2, l3, l4, Or.inr ⟨?_, F⟩⟩
        · have eb : gX12_cave_95b m = some (.inl m2) := by
            unfold gX12_cave_95b
            simp (disch := omega) only [n_lit, n_of, n_o1, nI_add, pk_mul, nI_ltI, nI_leI, nI_eq, ↓lift_lt, ↓k_mt, ↓k_mp, if_true, if_false, Bool.false_eq_true, Nat.not_lt_zero, Nat.zero_le, Nat.reduceEqDiff, Nat.reduceLeDiff, Nat.reduceLT, w0, k9, z4, e1, e2]
          have eb2 : gX12_cave_95b m2 = (gX12_cave_122 m2).map (fun q => .inr q) := by
            unfold gX12_cave_95b
            simp (disch := omega) only [n_lit, n_of, n_o1, nI_add, pk_mul, nI_ltI, nI_leI, nI_eq, ↓lift_lt, ↓k_mt, ↓k_mp, if_true, if_false, Bool.false_eq_true, Nat.not_lt_zero, Nat.zero_le, Nat.reduceEqDiff, Nat.reduceLeDiff, Nat.reduceLT, pw]
          unfold gX12_cave_95
          refine (lpw_l eb).trans ?_
          exact lpw_m eb2
        · have eb : fX4_read_21b (cput h c) 82 (nI N) (nI 1) (nI i) = some (.inl (nI 0, nI (i + 1), cput h1 c1)) := by
            unfold fX4_read_21b
            simp (disch := omega) only [n_lit, n_of, n_o1, nI_add, pk_mul, nI_ltI, nI_leI, nI_eq, ↓lift_lt, ↓k_mt, ↓k_mp, if_true, if_false, Bool.false_eq_true, Nat.not_lt_zero, Nat.zero_le, Nat.reduceEqDiff, Nat.reduceLeDiff, Nat.reduceLT, iN, i1, cgN_82_0, cgI_83_3, k3, cn0, cgO_82, e3]
          have eb2 : fX4_read_21b (cput h1 c1) 82 (nI N) (nI 0) (nI (i + 1)) = (fX4_read_52 (cput h1 c1) 82 (nI 0)).map (fun q => .inr q) := by
            unfold fX4_read_21b
            by_cases q : N ≤ i + 1
            · simp (disch := omega) only [n_lit, n_of, n_o1, nI_add, pk_mul, nI_ltI, nI_leI, nI_eq, ↓lift_lt, ↓k_mt, ↓k_mp, if_true, if_false, Bool.false_eq_true, Nat.not_lt_zero, Nat.zero_le, Nat.reduceEqDiff, Nat.reduceLeDiff, Nat.reduceLT, q]
            · simp (disch := omega) only [n_lit, n_of, n_o1, nI_add, pk_mul, nI_ltI, nI_leI, nI_eq, ↓lift_lt, ↓k_mt, ↓k_mp, if_true, if_false, Bool.false_eq_true, Nat.not_lt_zero, Nat.zero_le, Nat.reduceEqDiff, Nat.reduceLeDiff, Nat.reduceLT, q]
          unfold fX4_read_21
          refine (lpw_l eb).trans ?_
          exact lpw_m eb2
/-- behind a fault the reference goes on to the lines -/
theorem w_79 {m : Mu} {c : Ch} (F : LFx m0 c0 m c) : ∃ m', gX12_cave_79 m = gX12_cave_95 m' ∧ LFx m0 c0 m' c := by
  have pw := LFx_w F
  have pw2 : ¬ (mS m 4 2 (m.1 10)).1 11 = nI 0 := by rw [mS_f]; exact pw
  refine ⟨mS (mS m 4 2 (m.1 10)) 4 0 ((mS m 4 2 (m.1 10)).2.1 4 0 + nI 1), ?_, LFx_S (LFx_S F)⟩
  unfold gX12_cave_79 gX12_ends gX12_ends_14
  simp (disch := omega) only [n_lit, n_of, n_o1, nI_add, pk_mul, nI_ltI, nI_leI, nI_eq, ↓lift_lt, ↓k_mt, ↓k_mp, if_true, if_false, Bool.false_eq_true, Nat.not_lt_zero, Nat.zero_le, Nat.reduceEqDiff, Nat.reduceLeDiff, Nat.reduceLT, q_takes_w pw, mW_4, q_eats_w pw2, q_fails_w pw2, mA_4]
theorem w_66 {m : Mu} {c : Ch} (F : LFx m0 c0 m c) : ∃ m', gX12_cave_66 m = gX12_cave_95 m' ∧ LFx m0 c0 m' c := by
  have pw := LFx_w F
  obtain ⟨m', e, F'⟩ := w_79 F
  refine ⟨m', ?_, F'⟩
  rw [← e]
  unfold gX12_cave_66
  simp (disch := omega) only [n_lit, n_of, n_o1, nI_add, pk_mul, nI_ltI, nI_leI, nI_eq, ↓lift_lt, ↓k_mt, ↓k_mp, if_true, if_false, Bool.false_eq_true, Nat.not_lt_zero, Nat.zero_le, Nat.reduceEqDiff, Nat.reduceLeDiff, Nat.reduceLT, q_eats_w pw, q_fails_w pw]
def z00 : Tl := (0, 0, 0, 0, 0, 0, none, none, none)
/-- cave drops n ; -/
theorem l_head {h : Hp} {m : Mu} {c : Ch} {a b kd nm : Nat} (T : TSx t N h m c a b kd nm) (R : Rt (m.2.1 4) z00 0) (C : Ct h c z00) (fM : lfM m0 m) (fC : lfC c0 c) :
    ∃ m' c', ((gX12_eats m (nI 0)).bind fun y9 => if y9.1 = 0 then (gX12_fails y9.2 (2 : Int32)).bind fun y28 => gX12_cave_66 y28 else gX12_cave_66 y9.2) = gX12_cave_95 m' ∧
      ((fX4_tellCave (cput h c) 82 = some (nI 1, cput h c') ∧ ∃ z' a', LNx t N m0 c0 h m' c' z' 0 a' ∧ z'.2.2.2.1 = 1 ∧ a < a') ∨ (fX4_tellCave (cput h c) 82 = some (nI 0, cput h c') ∧ LFx m0 c0 m' c')) := by
  have i1 : ¬ (1 = 0) := by decide
  rcases l_eat (x := 4) (by decide) (by decide) T with ⟨m1, c1, a1, b1, kd1, nm1, x1, x2, T1, l1, f1, g1, -⟩ | ⟨m1, c1, x1, x1', x2, F, -⟩
  rotate_left
  · have x1 : gX12_eats m (nI 0) = some (nI 0, m) := x1
    obtain ⟨m', e, F'⟩ := w_66 (LFx_of fM fC F)
    refine ⟨m', c1, ?_, Or.inr ⟨?_, F'⟩⟩
    · rw [← e]
      simp (disch := omega) only [n_lit, n_of, n_o1, nI_add, pk_mul, nI_ltI, nI_leI, nI_eq, ↓lift_lt, ↓k_mt, ↓k_mp, if_true, if_false, Bool.false_eq_true, Nat.not_lt_zero, Nat.zero_le, Nat.reduceEqDiff, Nat.reduceLeDiff, Nat.reduceLT, x1, x1']
    · rw [lX4_tellCave]
      unfold gX4_tellCave gX4_tellCave_26
      simp (disch := omega) only [n_lit, n_of, n_o1, nI_add, pk_mul, nI_ltI, nI_leI, nI_eq, ↓lift_lt, ↓k_mt, ↓k_mp, if_true, if_false, Bool.false_eq_true, Nat.not_lt_zero, Nat.zero_le, Nat.reduceEqDiff, Nat.reduceLeDiff, Nat.reduceLT, x2, Option.map_some]
  have x1 : gX12_eats m (nI 0) = some (nI 1, m1) := x1
  have fM1 := lfM_n fM f1
  have fC1 := lfC_n fC g1
  rcases l_eat (x := 5) (by decide) (by decide) T1 with ⟨m2, c2, a2, b2, kd2, nm2, y1, y2, T2, l2, f2, g2, -⟩ | ⟨m2, c2, y1, y1', y2, F, -⟩
  rotate_left
  · have y1 : gX12_eats m1 (nI 1) = some (nI 0, m1) := y1
    obtain ⟨m', e, F'⟩ := w_79 (LFx_of fM1 fC1 F)
    refine ⟨m', c2, ?_, Or.inr ⟨?_, F'⟩⟩
    · rw [← e]
      unfold gX12_cave_66
      simp (disch := omega) only [n_lit, n_of, n_o1, nI_add, pk_mul, nI_ltI, nI_leI, nI_eq, ↓lift_lt, ↓k_mt, ↓k_mp, if_true, if_false, Bool.false_eq_true, Nat.not_lt_zero, Nat.zero_le, Nat.reduceEqDiff, Nat.reduceLeDiff, Nat.reduceLT, x1, i1, y1, y1']
    · rw [lX4_tellCave]
      unfold gX4_tellCave gX4_tellCave_26
      simp (disch := omega) only [n_lit, n_of, n_o1, nI_add, pk_mul, nI_ltI, nI_leI, nI_eq, ↓lift_lt, ↓k_mt, ↓k_mp, if_true, if_false, Bool.false_eq_true, Nat.not_lt_zero, Nat.zero_le, Nat.reduceEqDiff, Nat.reduceLeDiff, Nat.reduceLT, x2, i1, y2, Option.map_some]
  have y1 : gX12_eats m1 (nI 1) = some (nI 1, m2) := y1
  have fM2 := lfM_n fM1 f2
  have fC2 := lfC_n fC1 g2
  rcases l_num (lo := 0) (hi := 4) (by decide) (by decide) T2 with ⟨m3, c3, a3, b3, kd3, nm3, w1, w2, T3, l3, f3, g3, z1, z2, z3⟩ | ⟨-, q, -⟩ | ⟨y, m3, c3, w1, w2, F, -⟩
  · have fM3 := lfM_n fM2 f3
    have fC3 := lfC_n (lfC_I (k := 4) (y := nI nm2) fC2) g3
    obtain ⟨m4, em4⟩ : ∃ m4, m4 = mS m3 4 2 (nI nm2) := ⟨_, rfl⟩
    obtain ⟨c5, ec5⟩ : ∃ c5, c5 = cI (cI c3 82 9 (nI nm2)) 82 7 (nI 1) := ⟨_, rfl⟩
    have v4 : c3.1 82 4 = nI nm2 := by rw [g3.1 82 (by decide), cI_1, if_pos rfl, if_pos rfl]
    have ew : mW m3 4 (nI 2) (nI nm2) = some m4 := by rw [em4]; exact mW_4 m3 _ (by decide)
    have T4 : TSx t N h m4 c5 a3 b3 kd3 nm3 := by rw [em4, ec5]; exact TS_S (TS_I (TS_I T3))
    have fM4 : lfM m0 m4 := by rw [em4]; exact lfM_S fM3
    have fC5 : lfC c0 c5 := by rw [ec5]; exact lfC_I (lfC_I fC3)
    have a4 : ∀ k, ¬ k = 2 → m4.2.1 4 k = m.2.1 4 k := fun k hk => by rw [em4, mS_a, if_pos rfl, if_neg hk, f3.2, f2.2, f1.2]
    have v0 : m4.2.1 4 0 = nI 0 := by rw [a4 0 (by decide)]; exact R.1
    have ec5' : cI (cI c3 82 9 (nI nm2)) 82 7 (nI 1) = c5 := ec5.symm
    have ad : nI 0 + nI 1 = nI 1 := by decide
    rcases l_eat (x := 6) (by decide) (by decide) T4 with ⟨m6, c6, a6, b6, kd6, nm6, u1, u2, T6, l6, f6, g6, -⟩ | ⟨m6, c6, u1, u1', u2, F, -⟩
    · have u1 : gX12_eats m4 (nI 30) = some (nI 1, m6) := u1
      have v0' : m6.2.1 4 0 = nI 0 := by rw [f6.2]; exact v0
      refine ⟨mS m6 4 0 (nI 1), c6, ?_, Or.inl ⟨?_, (0, nm2, 0, 1, 0, 0, none, none, none), a6, ⟨⟨b6, kd6, nm6, TS_S T6⟩, ?_, ?_, ?_, Nat.zero_le _, lfM_S (lfM_n fM4 f6), lfC_n fC5 g6⟩, rfl, by omega⟩⟩
      · unfold gX12_cave_66 gX12_cave_79 gX12_ends gX12_ends_14
        simp (disch := omega) only [n_lit, n_of, n_o1, nI_add, pk_mul, nI_ltI, nI_leI, nI_eq, ↓lift_lt, ↓k_mt, ↓k_mp, if_true, if_false, Bool.false_eq_true, Nat.not_lt_zero, Nat.zero_le, Nat.reduceEqDiff, Nat.reduceLeDiff, Nat.reduceLT, x1, i1, y1, w1, ew, u1, mA_4, v0', ad, mW_4]
      · rw [lX4_tellCave]
        unfold gX4_tellCave gX4_tellCave_26
        simp (disch := omega) only [n_lit, n_of, n_o1, nI_add, pk_mul, nI_ltI, nI_leI, nI_eq, ↓lift_lt, ↓k_mt, ↓k_mp, if_true, if_false, Bool.false_eq_true, Nat.not_lt_zero, Nat.zero_le, Nat.reduceEqDiff, Nat.reduceLeDiff, Nat.reduceLT, x2, i1, y2, w2, v4, ec5', u2, Option.map_some, n_bl1]
      · have s6 : ∀ k, ¬ k = 0 → ¬ k = 2 → (mS m6 4 0 (nI 1)).2.1 4 k = m.2.1 4 k := fun k q1 q2 => by rw [mS_a, if_pos rfl, if_neg q1, f6.2, a4 k q2]
        obtain ⟨r1, r2, r3, r4, r5, r6, r7, r8, r9, r10, r11, r12⟩ := R
        refine ⟨by rw [mS_a, if_pos rfl, if_pos rfl], (s6 1 (by decide) (by decide)).trans r2, ?_, (s6 3 (by decide) (by decide)).trans r4, (s6 4 (by decide) (by decide)).trans r5, fun p hp => (s6 _ (by omega) (by omega)).trans (r6 p hp), fun p hp => (s6 _ (by omega) (by omega)).trans (r7 p hp), (s6 23 (by decide) (by decide)).trans r8, ⟨(s6 24 (by decide) (by decide)).trans r9.1, (s6 25 (by decide) (by decide)).trans r9.2.1, (s6 26 (by decide) (by decide)).trans r9.2.2⟩, (s6 5 (by decide) (by decide)).trans r10, (s6 6 (by decide) (by decide)).trans r11, (s6 137 (by decide) (by decide)).trans r12⟩
        rw [mS_a, if_pos rfl, if_neg (by decide), f6.2, em4, mS_a, if_pos rfl, if_pos rfl]
      · have s6 : ∀ k, ¬ k = 4 → ¬ k = 7 → ¬ k = 9 → c6.1 82 k = c.1 82 k := fun k q1 q2 q3 => by rw [g6.1 82 (by decide), ec5, cI_1, if_pos rfl, if_neg q2, cI_1, if_pos rfl, if_neg q3, g3.1 82 (by decide), cI_1, if_pos rfl, if_neg q1, g2.1 82 (by decide), g1.1 82 (by decide)]
        have r6 : c6.2.2.1 = c.2.2.1 := by
          rw [g6.2.2, ec5]
          show c3.2.2.1 = _
          rw [g3.2.2]
          show c2.2.2.1 = _
          rw [g2.2.2, g1.2.2]
        obtain ⟨s1, s2, s3, s4, s5, s6', s7, s8, s9⟩ := C
        refine ⟨by rw [g6.1 82 (by decide), ec5, cI_1, if_pos rfl, if_pos rfl], (s6 8 (by decide) (by decide) (by decide)).trans s2, by rw [g6.1 82 (by decide), ec5, cI_1, if_pos rfl, if_neg (by decide), cI_1, if_pos rfl, if_pos rfl], (s6 10 (by decide) (by decide) (by decide)).trans s4, (s6 11 (by decide) (by decide) (by decide)).trans s5, (s6 12 (by decide) (by decide) (by decide)).trans s6', (s6 13 (by decide) (by decide) (by decide)).trans s7, by rw [r6]; exact s8, by rw [r6]; exact s9⟩
      · exact ⟨Nat.zero_le 4, z3, Nat.zero_le 10, Nat.zero_lt_one, Nat.zero_lt_one, (fun l hl => by cases hl), (fun l hl => by cases hl), (fun l hl => by cases hl)⟩
    · have u1 : gX12_eats m4 (nI 30) = some (nI 0, m4) := u1
      have v0' : m6.2.1 4 0 = nI 0 := by
        obtain ⟨k, p, -, -, -, e, -⟩ := F
        rw [e]
        exact v0
      refine ⟨mS m6 4 0 (nI 1), c6, ?_, Or.inr ⟨?_, LFx_S (LFx_of fM4 fC5 F)⟩⟩
      · unfold gX12_cave_66 gX12_cave_79 gX12_ends gX12_ends_14
        simp (disch := omega) only [n_lit, n_of, n_o1, nI_add, pk_mul, nI_ltI, nI_leI, nI_eq, ↓lift_lt, ↓k_mt, ↓k_mp, if_true, if_false, Bool.false_eq_true, Nat.not_lt_zero, Nat.zero_le, Nat.reduceEqDiff, Nat.reduceLeDiff, Nat.reduceLT, x1, i1, y1, w1, ew, u1, u1', mA_4, v0', ad, mW_4]
      · rw [lX4_tellCave]
        unfold gX4_tellCave gX4_tellCave_26
        simp (disch := omega) only [n_lit, n_of, n_o1, nI_add, pk_mul, nI_ltI, nI_leI, nI_eq, ↓lift_lt, ↓k_mt, ↓k_mp, if_true, if_false, Bool.false_eq_true, Nat.not_lt_zero, Nat.zero_le, Nat.reduceEqDiff, Nat.reduceLeDiff, Nat.reduceLT, x2, i1, y2, w2, v4, ec5', u2, Option.map_some, n_bl0]
  · omega
  · have F3 := LFx_of fM2 fC2 F
    have pw := FAx_w F
    have pw2 : ¬ (mS m3 4 2 y).1 11 = nI 0 := by rw [mS_f]; exact pw
    refine ⟨mS (mS m3 4 2 y) 4 0 ((mS m3 4 2 y).2.1 4 0 + nI 1), c3, ?_, Or.inr ⟨?_, LFx_S (LFx_S F3)⟩⟩
    · unfold gX12_cave_66 gX12_cave_79 gX12_ends gX12_ends_14
      simp (disch := omega) only [n_lit, n_of, n_o1, nI_add, pk_mul, nI_ltI, nI_leI, nI_eq, ↓lift_lt, ↓k_mt, ↓k_mp, if_true, if_false, Bool.false_eq_true, Nat.not_lt_zero, Nat.zero_le, Nat.reduceEqDiff, Nat.reduceLeDiff, Nat.reduceLT, x1, i1, y1, w1, mW_4, q_eats_w pw2, q_fails_w pw2, mA_4]
    · rw [lX4_tellCave]
      unfold gX4_tellCave gX4_tellCave_26
      simp (disch := omega) only [n_lit, n_of, n_o1, nI_add, pk_mul, nI_ltI, nI_leI, nI_eq, ↓lift_lt, ↓k_mt, ↓k_mp, if_true, if_false, Bool.false_eq_true, Nat.not_lt_zero, Nat.zero_le, Nat.reduceEqDiff, Nat.reduceLeDiff, Nat.reduceLT, x2, i1, y2, w2, Option.map_some]
end LPE
