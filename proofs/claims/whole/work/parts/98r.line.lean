/-! one line -/
section LNE
variable {t : Nat → Nat} {N : Nat} {m0 : Mu} {c0 : Ch} {h : Hp} {m : Mu} {c : Ch} {z : Tl} {nc a : Nat}
theorem Rt_ln {f f' : Nat → Int32} (e0 : f' 0 = nI (z.2.2.2.1 + 1)) (e : ∀ i, ¬ i = 0 → f' i = f i) (R : Rt f z nc) : Rt f' (z.1, z.2.1, z.2.2.1, z.2.2.2.1 + 1, z.2.2.2.2) nc := by
  obtain ⟨r1, r2, r3, r4, r5, r6, r7, r8, r9, r10, r11, r12⟩ := R
  exact ⟨e0, (e 1 (by decide)).trans r2, (e 2 (by decide)).trans r3, (e 3 (by decide)).trans r4, (e 4 (by decide)).trans r5, fun p hp => (e _ (by omega)).trans (r6 p hp), fun p hp => (e _ (by omega)).trans (r7 p hp), (e 23 (by decide)).trans r8, ⟨(e 24 (by decide)).trans r9.1, (e 25 (by decide)).trans r9.2.1, (e 26 (by decide)).trans r9.2.2⟩, lawN_eq (fun i hi => e i (by omega)) r10, lawN_eq (fun i hi => e i (by omega)) r11, (e 137 (by decide)).trans r12⟩
theorem Ct_ln {c' : Ch} (e0 : c'.1 82 7 = nI (z.2.2.2.1 + 1)) (e : ∀ i, 8 ≤ i → c'.1 82 i = c.1 82 i) (er : c'.2.2.1 = c.2.2.1) (C : Ct h c z) : Ct h c' (z.1, z.2.1, z.2.2.1, z.2.2.2.1 + 1, z.2.2.2.2) := by
  obtain ⟨s1, s2, s3, s4, s5, s6, s7, s8, s9⟩ := C
  exact ⟨e0, (e 8 (by decide)).trans s2, (e 9 (by decide)).trans s3, (e 10 (by decide)).trans s4, (e 11 (by decide)).trans s5, (e 12 (by decide)).trans s6, (e 13 (by decide)).trans s7, by rw [er]; exact s8, by rw [er]; exact s9⟩
theorem LFx_S {i : Nat} {y : Int32} (H : LFx m0 c0 m c) : LFx m0 c0 (mS m 4 i y) c := by
  obtain ⟨k, p, h1, h2, h3, h4, h5, h6, h7, h8, h9⟩ := H
  exact ⟨k, p, h1, h2, h3, by rw [mS_f]; exact h4, by rw [mS_f]; exact h5, h6, h7, lfM_S h8, h9⟩
theorem LFx_I {k : Nat} {y : Int32} (hk : 7 ≤ k) (H : LFx m0 c0 m c) : LFx m0 c0 m (cI c 82 k y) := by
  obtain ⟨f, p, h1, h2, h3, h4, h5, h6, h7, h8, h9⟩ := H
  exact ⟨f, p, h1, h2, h3, h4, h5, by rw [cI_1, if_pos rfl, if_neg (by omega)]; exact h6, by rw [cI_1, if_pos rfl, if_neg (by omega)]; exact h7, h8, lfC_I h9⟩
theorem l_body {b kd nm : Nat} (T : TSx t N h m c a b kd nm) (R : Rt (m.2.1 4) z nc) (C : Ct h c z) (O : okT z) (hl : nc ≤ a) (fM : lfM m0 m) (fC : lfC c0 c) (ho : hok h) :
    ∃ m1 y1 h1 c1, gX12_readLine m = some m1 ∧ fX4_tellLine (cput h c) 82 = fX4_tellLine_106 (cput h1 c1) 82 (nI y1) ∧ hok h1 ∧ hgr h h1 ∧
      ((y1 = 1 ∧ ∃ z' nc' a', LNx t N m0 c0 h1 m1 c1 z' nc' a' ∧ z'.2.2.2.1 = z.2.2.2.1 ∧ a < a' ∧ h1.1 + a ≤ h.1 + a' ∧ h1.2.1 + a ≤ h.2.1 + a') ∨ (y1 = 0 ∧ h1 = h ∧ LFx m0 c0 m1 c1)) := by
  have i1 : ¬ (1 = 0) := by decide
  have kb := TS_a T
  have w0 := T.2.2
  have q : ∀ k, k < 42 → gX12_is m (nI k) = some (nI (if kd = k then 1 else 0)) := fun k hk => q_is T.2.2 T.2.1.2.2.1 kb.2.2 hk
  have ci : ∀ x, x < 35 → 4 ≤ x → fX6_isAt (cput h c) 83 x = some (nI (if kd = kx x then 1 else 0)) := fun x h1 h2 => by rw [lX6_isAt, tk_isAt T.1 T.2.1 h1 h2]
  have a7 : fX6_isAt (cput h c) 83 7 = some (nI (if kd = 2 then 1 else 0)) := ci 7 (by decide) (by decide)
  have a10 : fX6_isAt (cput h c) 83 10 = some (nI (if kd = 5 then 1 else 0)) := ci 10 (by decide) (by decide)
  have a11 : fX6_isAt (cput h c) 83 11 = some (nI (if kd = 6 then 1 else 0)) := ci 11 (by decide) (by decide)
  have a12 : fX6_isAt (cput h c) 83 12 = some (nI (if kd = 7 then 1 else 0)) := ci 12 (by decide) (by decide)
  have a34 : fX6_isAt (cput h c) 83 34 = some (nI (if kd = 8 then 1 else 0)) := ci 34 (by decide) (by decide)
  have q2 := q 2 (by decide)
  have q5 := q 5 (by decide)
  have q6 := q 6 (by decide)
  have q7 := q 7 (by decide)
  have q8 := q 8 (by decide)
  clear q ci
  have h9 := T.2.1.2.2.1
  by_cases z2 : kd = 2
  · subst z2
    rw [if_pos rfl] at a7 q2
    obtain ⟨m1, e1, ⟨c1, z', a', e2, L, l1, l2⟩ | ⟨c1, e2, F⟩⟩ := l_pair T R C O hl fM fC
    · refine ⟨m1, 1, h, c1, ?_, ?_, ho, hgr_rfl h, Or.inl ⟨rfl, z', nc, a', L, l1, l2, by omega, by omega⟩⟩
      · unfold gX12_readLine gX12_readLine_100
        simp (disch := omega) only [n_lit, n_of, n_o1, nI_add, pk_mul, nI_ltI, nI_leI, nI_eq, ↓lift_lt, ↓k_mt, ↓k_mp, if_true, if_false, Bool.false_eq_true, Nat.not_lt_zero, Nat.zero_le, Nat.reduceEqDiff, Nat.reduceLeDiff, Nat.reduceLT, w0, q2, i1, e1]
      · unfold fX4_tellLine
        simp (disch := omega) only [n_lit, n_of, n_o1, nI_add, pk_mul, nI_ltI, nI_leI, nI_eq, ↓lift_lt, ↓k_mt, ↓k_mp, if_true, if_false, Bool.false_eq_true, Nat.not_lt_zero, Nat.zero_le, Nat.reduceEqDiff, Nat.reduceLeDiff, Nat.reduceLT, cgN_82_0, cgO_83, a7, i1, cgO_82, lX4_tellPair, e2, Option.map_some]
    · refine ⟨m1, 0, h, c1, ?_, ?_, ho, hgr_rfl h, Or.inr ⟨rfl, rfl, F⟩⟩
      · unfold gX12_readLine gX12_readLine_100
        simp (disch := omega) only [n_lit, n_of, n_o1, nI_add, pk_mul, nI_ltI, nI_leI, nI_eq, ↓lift_lt, ↓k_mt, ↓k_mp, if_true, if_false, Bool.false_eq_true, Nat.not_lt_zero, Nat.zero_le, Nat.reduceEqDiff, Nat.reduceLeDiff, Nat.reduceLT, w0, q2, i1, e1]
      · unfold fX4_tellLine
        simp (disch := omega) only [n_lit, n_of, n_o1, nI_add, pk_mul, nI_ltI, nI_leI, nI_eq, ↓lift_lt, ↓k_mt, ↓k_mp, if_true, if_false, Bool.false_eq_true, Nat.not_lt_zero, Nat.zero_le, Nat.reduceEqDiff, Nat.reduceLeDiff, Nat.reduceLT, cgN_82_0, cgO_83, a7, i1, cgO_82, lX4_tellPair, e2, Option.map_some]
  rw [if_neg z2] at a7 q2
  by_cases z5 : kd = 5
  · subst z5
    rw [if_pos rfl] at a10 q5
    obtain ⟨m1, e1, ⟨c1, z', a', e2, L, l1, l2⟩ | ⟨c1, e2, F⟩⟩ := l_lead T R C O hl fM fC
    · refine ⟨m1, 1, h, c1, ?_, ?_, ho, hgr_rfl h, Or.inl ⟨rfl, z', nc, a', L, l1, l2, by omega, by omega⟩⟩
      · unfold gX12_readLine gX12_readLine_100
        simp (disch := omega) only [n_lit, n_of, n_o1, nI_add, pk_mul, nI_ltI, nI_leI, nI_eq, ↓lift_lt, ↓k_mt, ↓k_mp, if_true, if_false, Bool.false_eq_true, Nat.not_lt_zero, Nat.zero_le, Nat.reduceEqDiff, Nat.reduceLeDiff, Nat.reduceLT, w0, q2, q5, i1, e1]
      · unfold fX4_tellLine
        simp (disch := omega) only [n_lit, n_of, n_o1, nI_add, pk_mul, nI_ltI, nI_leI, nI_eq, ↓lift_lt, ↓k_mt, ↓k_mp, if_true, if_false, Bool.false_eq_true, Nat.not_lt_zero, Nat.zero_le, Nat.reduceEqDiff, Nat.reduceLeDiff, Nat.reduceLT, cgN_82_0, cgO_83, a7, a10, i1, cgO_82, lX4_tellLead, e2, Option.map_some]
    · refine ⟨m1, 0, h, c1, ?_, ?_, ho, hgr_rfl h, Or.inr ⟨rfl, rfl, F⟩⟩
      · unfold gX12_readLine gX12_readLine_100
        simp (disch := omega) only [n_lit, n_of, n_o1, nI_add, pk_mul, nI_ltI, nI_leI, nI_eq, ↓lift_lt, ↓k_mt, ↓k_mp, if_true, if_false, Bool.false_eq_true, Nat.not_lt_zero, Nat.zero_le, Nat.reduceEqDiff, Nat.reduceLeDiff, Nat.reduceLT, w0, q2, q5, i1, e1]
      · unfold fX4_tellLine
        simp (disch := omega) only [n_lit, n_of, n_o1, nI_add, pk_mul, nI_ltI, nI_leI, nI_eq, ↓lift_lt, ↓k_mt, ↓k_mp, if_true, if_false, Bool.false_eq_true, Nat.not_lt_zero, Nat.zero_le, Nat.reduceEqDiff, Nat.reduceLeDiff, Nat.reduceLT, cgN_82_0, cgO_83, a7, a10, i1, cgO_82, lX4_tellLead, e2, Option.map_some]
  rw [if_neg z5] at a10 q5
  by_cases z6 : kd = 6
  · subst z6
    rw [if_pos rfl] at a11
    obtain ⟨m1, m2, y, e1, e1', ⟨c1, a', e2, L, l2⟩ | ⟨c1, e2, F⟩⟩ := l_dry T R C O hl fM fC
    · refine ⟨mS m2 4 4 y, 1, h, c1, ?_, ?_, ho, hgr_rfl h, Or.inl ⟨rfl, _, nc, a', L, rfl, l2, by omega, by omega⟩⟩
      · unfold gX12_readLine gX12_readLine_100
        simp (disch := omega) only [n_lit, n_of, n_o1, nI_add, pk_mul, nI_ltI, nI_leI, nI_eq, ↓lift_lt, ↓k_mt, ↓k_mp, if_true, if_false, Bool.false_eq_true, Nat.not_lt_zero, Nat.zero_le, Nat.reduceEqDiff, Nat.reduceLeDiff, Nat.reduceLT, w0, q2, q5, i1, e1, e1', mW_4]
      · unfold fX4_tellLine
        simp (disch := omega) only [n_lit, n_of, n_o1, nI_add, pk_mul, nI_ltI, nI_leI, nI_eq, ↓lift_lt, ↓k_mt, ↓k_mp, if_true, if_false, Bool.false_eq_true, Nat.not_lt_zero, Nat.zero_le, Nat.reduceEqDiff, Nat.reduceLeDiff, Nat.reduceLT, cgN_82_0, cgO_83, a7, a10, a11, i1, cgO_82, lX4_tellDry, e2, Option.map_some]
    · refine ⟨mS m2 4 4 y, 0, h, c1, ?_, ?_, ho, hgr_rfl h, Or.inr ⟨rfl, rfl, F⟩⟩
      · unfold gX12_readLine gX12_readLine_100
        simp (disch := omega) only [n_lit, n_of, n_o1, nI_add, pk_mul, nI_ltI, nI_leI, nI_eq, ↓lift_lt, ↓k_mt, ↓k_mp, if_true, if_false, Bool.false_eq_true, Nat.not_lt_zero, Nat.zero_le, Nat.reduceEqDiff, Nat.reduceLeDiff, Nat.reduceLT, w0, q2, q5, i1, e1, e1', mW_4]
      · unfold fX4_tellLine
        simp (disch := omega) only [n_lit, n_of, n_o1, nI_add, pk_mul, nI_ltI, nI_leI, nI_eq, ↓lift_lt, ↓k_mt, ↓k_mp, if_true, if_false, Bool.false_eq_true, Nat.not_lt_zero, Nat.zero_le, Nat.reduceEqDiff, Nat.reduceLeDiff, Nat.reduceLT, cgN_82_0, cgO_83, a7, a10, a11, i1, cgO_82, lX4_tellDry, e2, Option.map_some]
  rw [if_neg z6] at a11 q6
  have e6 : gX12_eats m (nI 6) = some (nI 0, m) := by
    unfold gX12_eats
    simp (disch := omega) only [n_lit, n_of, n_o1, nI_add, pk_mul, nI_ltI, nI_leI, nI_eq, ↓lift_lt, ↓k_mt, ↓k_mp, if_true, if_false, Bool.false_eq_true, Nat.not_lt_zero, Nat.zero_le, Nat.reduceEqDiff, Nat.reduceLeDiff, Nat.reduceLT, q6]
  have s78 : nI 7 - nI 7 = nI 0 ∧ nI 8 - nI 7 = nI 1 := by decide
  by_cases z7 : kd = 7
  · subst z7
    rw [if_pos rfl] at a12 q7
    obtain ⟨m1, e1, ⟨h1, c1, z', nc', a', e2, L, l1, l2, o1, o2, o3, o4⟩ | ⟨c1, e2, F⟩⟩ := l_grows T R C O hl fM fC ho
    · refine ⟨m1, 1, h1, c1, ?_, ?_, o1, o2, Or.inl ⟨rfl, z', nc', a', L, l1, by omega, by omega, by omega⟩⟩
      · unfold gX12_readLine gX12_readLine_81 gX12_readLine_100
        simp (disch := omega) only [n_lit, n_of, n_o1, nI_add, pk_mul, nI_ltI, nI_leI, nI_eq, ↓lift_lt, ↓k_mt, ↓k_mp, if_true, if_false, Bool.false_eq_true, Nat.not_lt_zero, Nat.zero_le, Nat.reduceEqDiff, Nat.reduceLeDiff, Nat.reduceLT, w0, q2, q5, e6, q7, i1, h9, s78.1, e1]
      · unfold fX4_tellLine
        simp (disch := omega) only [n_lit, n_of, n_o1, nI_add, pk_mul, nI_ltI, nI_leI, nI_eq, ↓lift_lt, ↓k_mt, ↓k_mp, if_true, if_false, Bool.false_eq_true, Nat.not_lt_zero, Nat.zero_le, Nat.reduceEqDiff, Nat.reduceLeDiff, Nat.reduceLT, cgN_82_0, cgO_83, a7, a10, a11, a12, i1, cgO_82, e2]
    · refine ⟨m1, 0, h, c1, ?_, ?_, ho, hgr_rfl h, Or.inr ⟨rfl, rfl, F⟩⟩
      · unfold gX12_readLine gX12_readLine_81 gX12_readLine_100
        simp (disch := omega) only [n_lit, n_of, n_o1, nI_add, pk_mul, nI_ltI, nI_leI, nI_eq, ↓lift_lt, ↓k_mt, ↓k_mp, if_true, if_false, Bool.false_eq_true, Nat.not_lt_zero, Nat.zero_le, Nat.reduceEqDiff, Nat.reduceLeDiff, Nat.reduceLT, w0, q2, q5, e6, q7, i1, h9, s78.1, e1]
      · unfold fX4_tellLine
        simp (disch := omega) only [n_lit, n_of, n_o1, nI_add, pk_mul, nI_ltI, nI_leI, nI_eq, ↓lift_lt, ↓k_mt, ↓k_mp, if_true, if_false, Bool.false_eq_true, Nat.not_lt_zero, Nat.zero_le, Nat.reduceEqDiff, Nat.reduceLeDiff, Nat.reduceLT, cgN_82_0, cgO_83, a7, a10, a11, a12, i1, cgO_82, e2]
  rw [if_neg z7] at a12 q7
  by_cases z8 : kd = 8
  · subst z8
    rw [if_pos rfl] at a34 q8
    obtain ⟨m1, e1, ⟨h1, c1, z', nc', a', e2, L, l1, l2, o1, o2, o3, o4⟩ | ⟨c1, e2, F⟩⟩ := l_falls T R C O hl fM fC ho
    · refine ⟨m1, 1, h1, c1, ?_, ?_, o1, o2, Or.inl ⟨rfl, z', nc', a', L, l1, by omega, by omega, by omega⟩⟩
      · unfold gX12_readLine gX12_readLine_81 gX12_readLine_100
        simp (disch := omega) only [n_lit, n_of, n_o1, nI_add, pk_mul, nI_ltI, nI_leI, nI_eq, ↓lift_lt, ↓k_mt, ↓k_mp, if_true, if_false, Bool.false_eq_true, Nat.not_lt_zero, Nat.zero_le, Nat.reduceEqDiff, Nat.reduceLeDiff, Nat.reduceLT, w0, q2, q5, e6, q7, q8, i1, h9, s78.2, e1]
      · unfold fX4_tellLine
        simp (disch := omega) only [n_lit, n_of, n_o1, nI_add, pk_mul, nI_ltI, nI_leI, nI_eq, ↓lift_lt, ↓k_mt, ↓k_mp, if_true, if_false, Bool.false_eq_true, Nat.not_lt_zero, Nat.zero_le, Nat.reduceEqDiff, Nat.reduceLeDiff, Nat.reduceLT, cgN_82_0, cgO_83, a7, a10, a11, a12, a34, i1, cgO_82, e2]
    · refine ⟨m1, 0, h, c1, ?_, ?_, ho, hgr_rfl h, Or.inr ⟨rfl, rfl, F⟩⟩
      · unfold gX12_readLine gX12_readLine_81 gX12_readLine_100
        simp (disch := omega) only [n_lit, n_of, n_o1, nI_add, pk_mul, nI_ltI, nI_leI, nI_eq, ↓lift_lt, ↓k_mt, ↓k_mp, if_true, if_false, Bool.false_eq_true, Nat.not_lt_zero, Nat.zero_le, Nat.reduceEqDiff, Nat.reduceLeDiff, Nat.reduceLT, w0, q2, q5, e6, q7, q8, i1, h9, s78.2, e1]
      · unfold fX4_tellLine
        simp (disch := omega) only [n_lit, n_of, n_o1, nI_add, pk_mul, nI_ltI, nI_leI, nI_eq, ↓lift_lt, ↓k_mt, ↓k_mp, if_true, if_false, Bool.false_eq_true, Nat.not_lt_zero, Nat.zero_le, Nat.reduceEqDiff, Nat.reduceLeDiff, Nat.reduceLT, cgN_82_0, cgO_83, a7, a10, a11, a12, a34, i1, cgO_82, e2]
  rw [if_neg z8] at a34 q8
  obtain ⟨m1, c1, e1, e2, F⟩ := l_fault (f := 2) (by decide) (by decide) T
  refine ⟨m1, 0, h, c1, ?_, ?_, ho, hgr_rfl h, Or.inr ⟨rfl, rfl, LFx_of fM fC F⟩⟩
  · unfold gX12_readLine gX12_readLine_100
    simp (disch := omega) only [n_lit, n_of, n_o1, nI_add, pk_mul, nI_ltI, nI_leI, nI_eq, ↓lift_lt, ↓k_mt, ↓k_mp, if_true, if_false, Bool.false_eq_true, Nat.not_lt_zero, Nat.zero_le, Nat.reduceEqDiff, Nat.reduceLeDiff, Nat.reduceLT, w0, q2, q5, e6, q7, q8, e1]
  · unfold fX4_tellLine
    simp (disch := omega) only [n_lit, n_of, n_o1, nI_add, pk_mul, nI_ltI, nI_leI, nI_eq, ↓lift_lt, ↓k_mt, ↓k_mp, if_true, if_false, Bool.false_eq_true, Nat.not_lt_zero, Nat.zero_le, Nat.reduceEqDiff, Nat.reduceLeDiff, Nat.reduceLT, cgN_82_0, cgO_83, a7, a10, a11, a12, a34, cgO_82, lX4_refuse, e2, Option.map_some]
/-- a line and its end -/
theorem l_line {b kd nm : Nat} (T : TSx t N h m c a b kd nm) (R : Rt (m.2.1 4) z nc) (C : Ct h c z) (O : okT z) (hl : nc ≤ a) (fM : lfM m0 m) (fC : lfC c0 c) (ho : hok h) :
    ∃ m1 m2 h' c', gX12_readLine m = some m1 ∧ gX12_ends m1 = some m2 ∧ hok h' ∧ hgr h h' ∧ ((fX4_tellLine (cput h c) 82 = some (nI 1, cput h' c') ∧ ∃ z' nc' a', LNx t N m0 c0 h' m2 c' z' nc' a' ∧ z'.2.2.2.1 = z.2.2.2.1 + 1 ∧ a < a' ∧ h'.1 + a ≤ h.1 + a' ∧ h'.2.1 + a ≤ h.2.1 + a') ∨
      (fX4_tellLine (cput h c) 82 = some (nI 0, cput h' c') ∧ LFx m0 c0 m2 c' ∧ h'.1 + a ≤ h.1 + N ∧ h'.2.1 + a ≤ h.2.1 + N)) := by
  have i1 : ¬ (1 = 0) := by decide
  have aN := (TS_a T).1
  obtain ⟨m1, y1, h1, c1, e1, e2, o1, o2, ⟨rfl, z', nc', a', L, l1, l2, l3, l4⟩ | ⟨rfl, rfl, F⟩⟩ := l_body T R C O hl fM fC ho
  · obtain ⟨⟨b1, kd1, nm1, T1⟩, R1, C1, O1, hl1, fM1, fC1⟩ := L
    have aN1 := (TS_a T1).1
    obtain ⟨c2, ec2⟩ : ∃ c2, c2 = cI c1 82 7 (nI (z'.2.2.2.1 + 1)) := ⟨_, rfl⟩
    have T2 : TSx t N h1 m1 c2 a' b1 kd1 nm1 := by rw [ec2]; exact TS_I T1
    have fC2 : lfC c0 c2 := by rw [ec2]; exact lfC_I fC1
    have v7 : c1.1 82 7 = nI z'.2.2.2.1 := C1.1
    have v0 : m1.2.1 4 0 = nI z'.2.2.2.1 := R1.1
    have u7 : sV (cput h1 c1) 4 82 7 (.int (nI (z'.2.2.2.1 + 1))) = some (cput h1 c2) := by rw [ec2]; exact csI_82_7 h1 c1 _
    have ad : nI z'.2.2.2.1 + nI 1 = nI (z'.2.2.2.1 + 1) := by simp (disch := omega) only [n_lit, n_of, n_o1, nI_add, pk_mul, nI_ltI, nI_leI, nI_eq, ↓lift_lt, ↓k_mt, ↓k_mp, if_true, if_false, Bool.false_eq_true, Nat.not_lt_zero, Nat.zero_le, Nat.reduceEqDiff, Nat.reduceLeDiff, Nat.reduceLT, ]
    have tk : fX4_take (cput h1 c2) 82 6 = (gX4_take h1 c2 6).map (fun (y : (Int32 × Ch)) => (y.1, cput h1 y.2)) := lX4_take h1 c2 6
    rcases l_eat (x := 6) (by decide) (by decide) T2 with ⟨m2, c3, a2, b2, kd2, nm2, x1, x2, T3, l5, g1, g2, -⟩ | ⟨m2, c3, x1, x1', x2, F, -⟩
    · have x1 : gX12_eats m1 (nI 30) = some (nI 1, m2) := x1
      have v0' : m2.2.1 4 0 = nI z'.2.2.2.1 := by rw [g1.2]; exact v0
      refine ⟨m1, mS m2 4 0 (nI (z'.2.2.2.1 + 1)), h1, c3, e1, ?_, o1, o2, Or.inl ⟨?_, _, nc', a2, ⟨⟨b2, kd2, nm2, TS_S T3⟩, Rt_ln (z := z') (f := m1.2.1 4) ?_ ?_ R1, Ct_ln (z := z') (c := c1) ?_ ?_ ?_ C1, O1, by omega, lfM_S (lfM_n fM1 g1), lfC_n fC2 g2⟩, by rw [l1], by omega, by omega, by omega⟩⟩
      · unfold gX12_ends gX12_ends_14
        simp (disch := omega) only [n_lit, n_of, n_o1, nI_add, pk_mul, nI_ltI, nI_leI, nI_eq, ↓lift_lt, ↓k_mt, ↓k_mp, if_true, if_false, Bool.false_eq_true, Nat.not_lt_zero, Nat.zero_le, Nat.reduceEqDiff, Nat.reduceLeDiff, Nat.reduceLT, x1, i1, mA_4, v0', ad, mW_4]
      · rw [e2]
        unfold fX4_tellLine_106 fX4_tellLine_134
        simp (disch := omega) only [n_lit, n_of, n_o1, nI_add, pk_mul, nI_ltI, nI_leI, nI_eq, ↓lift_lt, ↓k_mt, ↓k_mp, if_true, if_false, Bool.false_eq_true, Nat.not_lt_zero, Nat.zero_le, Nat.reduceEqDiff, Nat.reduceLeDiff, Nat.reduceLT, cgI_82_7, v7, ad, u7, i1, cgO_82, tk, x2, Option.map_some, n_bl1]
      · rw [mS_a, if_pos rfl, if_pos rfl]
      · intro i hi
        rw [mS_a, if_pos rfl, if_neg hi, g1.2]
      · rw [g2.1 82 (by decide), ec2, cI_1, if_pos rfl, if_pos rfl]
      · intro i hi
        rw [g2.1 82 (by decide), ec2, cI_1, if_pos rfl, if_neg (by omega)]
      · rw [g2.2.2, ec2]
        rfl
    · have x1 : gX12_eats m1 (nI 30) = some (nI 0, m1) := x1
      have v0' : m2.2.1 4 0 = nI z'.2.2.2.1 := by
        obtain ⟨k, p, -, -, -, e, -⟩ := F
        rw [e]
        exact v0
      refine ⟨m1, mS m2 4 0 (nI (z'.2.2.2.1 + 1)), h1, c3, e1, ?_, o1, o2, Or.inr ⟨?_, LFx_S (LFx_of fM1 fC2 F), by omega, by omega⟩⟩
      · unfold gX12_ends gX12_ends_14
        simp (disch := omega) only [n_lit, n_of, n_o1, nI_add, pk_mul, nI_ltI, nI_leI, nI_eq, ↓lift_lt, ↓k_mt, ↓k_mp, if_true, if_false, Bool.false_eq_true, Nat.not_lt_zero, Nat.zero_le, Nat.reduceEqDiff, Nat.reduceLeDiff, Nat.reduceLT, x1, x1', mA_4, v0', ad, mW_4]
      · rw [e2]
        unfold fX4_tellLine_106 fX4_tellLine_133 fX4_tellLine_134
        simp (disch := omega) only [n_lit, n_of, n_o1, nI_add, pk_mul, nI_ltI, nI_leI, nI_eq, ↓lift_lt, ↓k_mt, ↓k_mp, if_true, if_false, Bool.false_eq_true, Nat.not_lt_zero, Nat.zero_le, Nat.reduceEqDiff, Nat.reduceLeDiff, Nat.reduceLT, cgI_82_7, v7, ad, u7, i1, cgO_82, tk, x2, Option.map_some, n_bl0]
  · have pw := LFx_w F
    refine ⟨m1, mS m1 4 0 (m1.2.1 4 0 + nI 1), h1, cI c1 82 7 (c1.1 82 7 + nI 1), e1, ?_, o1, o2, Or.inr ⟨?_, LFx_S (LFx_I (by decide) F), by omega, by omega⟩⟩
    · unfold gX12_ends gX12_ends_14
      simp (disch := omega) only [n_lit, n_of, n_o1, nI_add, pk_mul, nI_ltI, nI_leI, nI_eq, ↓lift_lt, ↓k_mt, ↓k_mp, if_true, if_false, Bool.false_eq_true, Nat.not_lt_zero, Nat.zero_le, Nat.reduceEqDiff, Nat.reduceLeDiff, Nat.reduceLT, q_eats_w pw, q_fails_w pw, mA_4, mW_4]
    · rw [e2]
      unfold fX4_tellLine_106 fX4_tellLine_133 fX4_tellLine_134
      simp (disch := omega) only [n_lit, n_of, n_o1, nI_add, pk_mul, nI_ltI, nI_leI, nI_eq, ↓lift_lt, ↓k_mt, ↓k_mp, if_true, if_false, Bool.false_eq_true, Nat.not_lt_zero, Nat.zero_le, Nat.reduceEqDiff, Nat.reduceLeDiff, Nat.reduceLT, cgI_82_7, csI_82_7, n_bl0]
end LNE
