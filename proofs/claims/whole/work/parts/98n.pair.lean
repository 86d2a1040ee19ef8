/-! pairs that are told -/
theorem dg_low {G p : Nat} (h : G < 10 ^ p) : dg G p = 0 := by
  unfold dg
  rw [Nat.div_eq_of_lt h]
theorem dg_add {G d P p : Nat} (hG : G < 10 ^ P) (hd : d < 10) : dg (G + d * 10 ^ P) p = if p = P then d else dg G p := by
  have pp : 0 < 10 ^ P := Nat.pow_pos (by decide)
  by_cases e : p = P
  · subst e
    rw [if_pos rfl]
    unfold dg
    rw [Nat.add_mul_div_right _ _ pp, Nat.div_eq_of_lt hG, Nat.zero_add]
    omega
  · rw [if_neg e]
    by_cases l : p < P
    · obtain ⟨k, rfl⟩ : ∃ k, P = p + 1 + k := ⟨P - (p + 1), by omega⟩
      unfold dg
      have e1 : d * 10 ^ (p + 1 + k) = d * 10 ^ k * 10 * 10 ^ p := by
        rw [Nat.pow_add, Nat.pow_succ]
        simp only [Nat.mul_assoc, Nat.mul_comm, Nat.mul_left_comm]
      rw [e1, Nat.add_mul_div_right _ _ (Nat.pow_pos (by decide)), Nat.add_mul_mod_self_right]
    · have h1 : 10 ^ (P + 1) ≤ 10 ^ p := Nat.pow_le_pow_right (by decide) (by omega)
      have h2 : 10 ^ (P + 1) = 10 ^ P * 10 := Nat.pow_succ 10 P
      have h3 : d * 10 ^ P ≤ 9 * 10 ^ P := Nat.mul_le_mul_right _ (by omega)
      rw [dg_low (show G + d * 10 ^ P < 10 ^ p by omega), dg_low (show G < 10 ^ p by omega)]
theorem add_lt {G d P : Nat} (hG : G < 10 ^ P) (hd : d < 10) : G + d * 10 ^ P < 10 ^ (P + 1) := by
  have h2 : 10 ^ (P + 1) = 10 ^ P * 10 := Nat.pow_succ 10 P
  have h3 : d * 10 ^ P ≤ 9 * 10 ^ P := Nat.mul_le_mul_right _ (by omega)
  omega
section PAR
variable {t : Nat → Nat} {N : Nat} {m0 : Mu} {c0 : Ch} {h : Hp} {m : Mu} {c : Ch} {z : Tl} {nc a : Nat}
theorem w_pair {P : Nat} (hm : ¬ m.1 11 = nI 0) (hP : P < 4) : ∃ m', gX12_readPair_57 m (nI P) = some m' ∧ m'.1 = m.1 ∧ m'.2.2 = m.2.2 ∧ ∀ r, ¬ r = 4 → m'.2.1 r = m.2.1 r := by
  obtain ⟨m', em⟩ : ∃ m', m' = mS (mS m 4 (11 + P) (m.1 10)) 4 (19 + P) (nI 1) := ⟨_, rfl⟩
  have w1 : mW m 4 (nI (11 + P)) (m.1 10) = some (mS m 4 (11 + P) (m.1 10)) := mW_4 m _ (by omega)
  have w2 : mW (mS m 4 (11 + P) (m.1 10)) 4 (nI (19 + P)) (nI 1) = some m' := by rw [em]; exact mW_4 _ _ (by omega)
  have hm' : ¬ m'.1 11 = nI 0 := by rw [em, mS_f, mS_f]; exact hm
  have e83 : gX12_readPair_83 m' (nI P) = some m' := by
    have eb : gX12_readPair_83b m' (nI P) = some (.inr m') := by
      unfold gX12_readPair_83b gX12_readPair_117 gX12_readPair_134
      simp (disch := omega) only [n_lit, n_of, n_o1, nI_add, pk_mul, nI_ltI, nI_leI, nI_eq, ↓lift_lt, ↓k_mt, ↓k_mp, if_true, if_false, Bool.false_eq_true, Nat.not_lt_zero, Nat.zero_le, Nat.reduceEqDiff, Nat.reduceLeDiff, Nat.reduceLT, hm', Option.map_some]
    unfold gX12_readPair_83
    exact lpw_r eb
  refine ⟨m', ?_, by rw [em, mS_f, mS_f], by rw [em, mS_j, mS_j], fun r hr => by rw [em, mS_ne _ _ _ hr, mS_ne _ _ _ hr]⟩
  unfold gX12_readPair_57
  simp (disch := omega) only [n_lit, n_of, n_o1, nI_add, pk_mul, nI_ltI, nI_leI, nI_eq, ↓lift_lt, ↓k_mt, ↓k_mp, if_true, if_false, Bool.false_eq_true, Nat.not_lt_zero, Nat.zero_le, Nat.reduceEqDiff, Nat.reduceLeDiff, Nat.reduceLT, q_takes_w hm, w1, w2, e83]
/-- its chalk, perhaps told more than once -/
theorem l_chalk {P : Nat} {m1 : Mu} {c1 : Ch} (hP : P < 4) : ∀ d m c a b kd nm ch i, a + d = N → i ≤ a → TSx t N h m c a b kd nm → ch < 10 → lfM m1 m → lfC c1 c → (∀ k, ¬ k = 19 + P → m.2.1 4 k = m1.2.1 4 k) → m.2.1 4 (19 + P) = nI ch → (∀ k, ¬ k = 4 → c.1 82 k = c1.1 82 k) → c.2.2.1 = c1.2.2.1 →
    ∃ m', ((∃ c' a' b' kd' nm' ch', gX12_readPair_83 m (nI P) = gX12_readPair_117 m' ∧ gX4_tellPair_81 h c (nI ch) (nI i) = gX4_tellPair_129 h c' (nI ch') ∧ TSx t N h m' c' a' b' kd' nm' ∧ a ≤ a' ∧ ch' < 10 ∧ lfM m1 m' ∧ lfC c1 c' ∧ (∀ k, ¬ k = 19 + P → m'.2.1 4 k = m1.2.1 4 k) ∧ m'.2.1 4 (19 + P) = nI ch' ∧ (∀ k, ¬ k = 4 → c'.1 82 k = c1.1 82 k) ∧ c'.2.2.1 = c1.2.2.1) ∨ (∃ c', gX12_readPair_83 m (nI P) = some m' ∧ gX4_tellPair_81 h c (nI ch) (nI i) = some (nI 0, c') ∧ LFx m1 c1 m' c')) := by
  intro d
  induction d using Nat.strongRecOn with
  | _ d ih =>
    intro m c a b kd nm ch i ha hi T hch fM fC e4 e19 e82 er
    have i1 : ¬ (1 = 0) := by decide
    have ab := TS_a T
    have ci := tk_isAt T.1 T.2.1 (x := 9) (by decide) (by decide)
    rcases l_eat (x := 9) (by decide) (by decide) T with ⟨m2, c2, a2, b2, kd2, nm2, x1, x2, T2, l2, f1, f2, z9⟩ | ⟨m2, c2, x1, -, x2, -, z9⟩
    · have i9 : ¬ 900 ≤ i := fun q => by
        have k8 := T.2.1.2.2.2.2.2.2.2
        rcases k8.2 with ⟨q2, -⟩ | ⟨q2, -⟩
        · rw [q2] at z9; exact absurd z9 (by decide)
        · have := k8.1; omega
      rw [if_pos z9] at ci
      have x1 : gX12_eats m (nI 4) = some (nI 1, m2) := x1
      have adv : gX6_advance h c = some c2 := by
        obtain ⟨m3, c3, a3, b3, kd3, nm3, y1, y2, -⟩ := l_next T (fun e => by rw [e] at z9; exact absurd z9 (by decide))
        have : gX4_take h c 9 = some (nI 1, c3) := by
          unfold gX4_take
          simp (disch := omega) only [n_lit, n_of, n_o1, nI_add, pk_mul, nI_ltI, nI_leI, nI_eq, ↓lift_lt, ↓k_mt, ↓k_mp, if_true, if_false, Bool.false_eq_true, Nat.not_lt_zero, Nat.zero_le, Nat.reduceEqDiff, Nat.reduceLeDiff, Nat.reduceLT, ci, i1, y2]
        rw [x2] at this
        rw [y2, (Prod.mk.inj (Option.some.inj this)).2]
      have fM2 := lfM_n fM f1
      have fC2 := lfC_n fC f2
      rcases l_num (lo := 0) (hi := 9) (by decide) (by decide) T2 with ⟨m3, c3, a3, b3, kd3, nm3, y1, y2, T3, l3, g1, g2, z1, z2, z3⟩ | ⟨-, q, -⟩ | ⟨y, m3, c3, y1, y2, F, -⟩
      · have ab3 := TS_a T3
        have w1 : mW m3 4 (nI (19 + P)) (nI nm2) = some (mS m3 4 (19 + P) (nI nm2)) := mW_4 m3 _ (by omega)
        have er3 : gX12_readPair_83 m (nI P) = gX12_readPair_83 (mS m3 4 (19 + P) (nI nm2)) (nI P) := by
          have eb : gX12_readPair_83b m (nI P) = some (.inl (mS m3 4 (19 + P) (nI nm2))) := by
            unfold gX12_readPair_83b
            simp (disch := omega) only [n_lit, n_of, n_o1, nI_add, pk_mul, nI_ltI, nI_leI, nI_eq, ↓lift_lt, ↓k_mt, ↓k_mp, if_true, if_false, Bool.false_eq_true, Nat.not_lt_zero, Nat.zero_le, Nat.reduceEqDiff, Nat.reduceLeDiff, Nat.reduceLT, T.2.2, x1, i1, y1, w1]
          unfold gX12_readPair_83
          exact lpw_l eb
        have w4 : c3.1 82 4 = nI nm2 := by rw [g2.1 82 (by decide), cI_1, if_pos rfl, if_pos rfl]
        have ec3 : gX4_tellPair_81 h c (nI ch) (nI i) = gX4_tellPair_81 h c3 (nI nm2) (nI (i + 1)) := by
          have eb : gX4_tellPair_81b h c (nI ch) (nI i) = some (.inl (nI nm2, nI (i + 1), c3)) := by
            unfold gX4_tellPair_81b
            simp (disch := omega) only [n_lit, n_of, n_o1, nI_add, pk_mul, nI_ltI, nI_leI, nI_eq, ↓lift_lt, ↓k_mt, ↓k_mp, if_true, if_false, Bool.false_eq_true, Nat.not_lt_zero, Nat.zero_le, Nat.reduceEqDiff, Nat.reduceLeDiff, Nat.reduceLT, i9, ci, i1, adv, y2, w4]
          unfold gX4_tellPair_81
          exact lpw_l eb
        obtain ⟨m', R⟩ := ih (N - a3) (by omega) (mS m3 4 (19 + P) (nI nm2)) c3 a3 b3 kd3 nm3 nm2 (i + 1) (by omega) (by omega) (TS_S T3) (by omega) (lfM_S (lfM_n fM2 g1)) (lfC_n (lfC_I fC2) g2) (fun k hk => by rw [mS_a, if_pos rfl, if_neg hk, g1.2, f1.2]; exact e4 k hk) (by rw [mS_a, if_pos rfl, if_pos rfl]) (fun k hk => by rw [g2.1 82 (by decide), cI_1, if_pos rfl, if_neg hk, f2.1 82 (by decide)]; exact e82 k hk) (by rw [g2.2.2]; show c2.2.2.1 = _; rw [f2.2.2]; exact er)
        refine ⟨m', ?_⟩
        rw [er3, ec3]
        rcases R with ⟨c', a', b', kd', nm', ch', s1, s2, s3, s4, s5⟩ | s
        · exact Or.inl ⟨c', a', b', kd', nm', ch', s1, s2, s3, by omega, s5⟩
        · exact Or.inr s
      · omega
      · have pw := FAx_w F
        have w1 : mW m3 4 (nI (19 + P)) y = some (mS m3 4 (19 + P) y) := mW_4 m3 _ (by omega)
        have pw' : ¬ (mS m3 4 (19 + P) y).1 11 = nI 0 := by rw [mS_f]; exact pw
        refine ⟨mS m3 4 (19 + P) y, Or.inr ⟨c3, ?_, ?_, ?_⟩⟩
        · have eb : gX12_readPair_83b m (nI P) = some (.inl (mS m3 4 (19 + P) y)) := by
            unfold gX12_readPair_83b
            simp (disch := omega) only [n_lit, n_of, n_o1, nI_add, pk_mul, nI_ltI, nI_leI, nI_eq, ↓lift_lt, ↓k_mt, ↓k_mp, if_true, if_false, Bool.false_eq_true, Nat.not_lt_zero, Nat.zero_le, Nat.reduceEqDiff, Nat.reduceLeDiff, Nat.reduceLT, T.2.2, x1, i1, y1, w1]
          have eb2 : gX12_readPair_83b (mS m3 4 (19 + P) y) (nI P) = some (.inr (mS m3 4 (19 + P) y)) := by
            unfold gX12_readPair_83b gX12_readPair_117 gX12_readPair_134
            simp (disch := omega) only [n_lit, n_of, n_o1, nI_add, pk_mul, nI_ltI, nI_leI, nI_eq, ↓lift_lt, ↓k_mt, ↓k_mp, if_true, if_false, Bool.false_eq_true, Nat.not_lt_zero, Nat.zero_le, Nat.reduceEqDiff, Nat.reduceLeDiff, Nat.reduceLT, pw', Option.map_some]
          unfold gX12_readPair_83
          refine (lpw_l eb).trans ?_
          exact lpw_r eb2
        · have eb : gX4_tellPair_81b h c (nI ch) (nI i) = some (.inr (nI 0, c3)) := by
            unfold gX4_tellPair_81b
            simp (disch := omega) only [n_lit, n_of, n_o1, nI_add, pk_mul, nI_ltI, nI_leI, nI_eq, ↓lift_lt, ↓k_mt, ↓k_mp, if_true, if_false, Bool.false_eq_true, Nat.not_lt_zero, Nat.zero_le, Nat.reduceEqDiff, Nat.reduceLeDiff, Nat.reduceLT, i9, ci, i1, adv, y2]
          unfold gX4_tellPair_81
          exact lpw_r eb
        · obtain ⟨k, p, h1, h2, h3, h4, h5, h6, h7, h8, h9⟩ := LFx_of fM2 fC2 F
          exact ⟨k, p, h1, h2, h3, by rw [mS_f]; exact h4, by rw [mS_f]; exact h5, h6, h7, lfM_S h8, h9⟩
    · rw [if_neg z9] at ci
      have x1 : gX12_eats m (nI 4) = some (nI 0, m) := x1
      refine ⟨m, Or.inl ⟨c, a, b, kd, nm, ch, ?_, ?_, T, Nat.le_refl _, hch, fM, fC, e4, e19, e82, er⟩⟩
      · have eb : gX12_readPair_83b m (nI P) = (gX12_readPair_117 m).map (fun q => .inr q) := by
          unfold gX12_readPair_83b
          simp (disch := omega) only [n_lit, n_of, n_o1, nI_add, pk_mul, nI_ltI, nI_leI, nI_eq, ↓lift_lt, ↓k_mt, ↓k_mp, if_true, if_false, Bool.false_eq_true, Nat.not_lt_zero, Nat.zero_le, Nat.reduceEqDiff, Nat.reduceLeDiff, Nat.reduceLT, T.2.2, x1]
        unfold gX12_readPair_83
        exact lpw_m eb
      · have eb : gX4_tellPair_81b h c (nI ch) (nI i) = (gX4_tellPair_129 h c (nI ch)).map (fun q => .inr q) := by
          unfold gX4_tellPair_81b
          by_cases q : 900 ≤ i
          · simp (disch := omega) only [n_lit, n_of, n_o1, nI_add, pk_mul, nI_ltI, nI_leI, nI_eq, ↓lift_lt, ↓k_mt, ↓k_mp, if_true, if_false, Bool.false_eq_true, Nat.not_lt_zero, Nat.zero_le, Nat.reduceEqDiff, Nat.reduceLeDiff, Nat.reduceLT, q]
          · simp (disch := omega) only [n_lit, n_of, n_o1, nI_add, pk_mul, nI_ltI, nI_leI, nI_eq, ↓lift_lt, ↓k_mt, ↓k_mp, if_true, if_false, Bool.false_eq_true, Nat.not_lt_zero, Nat.zero_le, Nat.reduceEqDiff, Nat.reduceLeDiff, Nat.reduceLT, q, ci]
        unfold gX4_tellPair_81
        exact lpw_m eb
theorem l_pair {b nm : Nat} (T : TSx t N h m c a b 2 nm) (R : Rt (m.2.1 4) z nc) (C : Ct h c z) (O : okT z) (hl : nc ≤ a) (fM : lfM m0 m) (fC : lfC c0 c) :
    ∃ m', gX12_readPair m = some m' ∧ ((∃ c' z' a', gX4_tellPair h c = some (nI 1, c') ∧ LNx t N m0 c0 h m' c' z' nc a' ∧ z'.2.2.2.1 = z.2.2.2.1 ∧ a < a') ∨ (∃ c', gX4_tellPair h c = some (nI 0, c') ∧ LFx m0 c0 m' c')) := by
  have i1 : ¬ (1 = 0) := by decide
  have i0 : ¬ (0 = 1) := by decide
  obtain ⟨P, D, Y, ln, G, Ck, L, gl, fl⟩ := z
  obtain ⟨r1, r2, r3, r4, r5, r6, r7, r8, r9, r10, r11, r12⟩ := R
  obtain ⟨s1, s2, s3, s4, s5, s6, s7, s8, s9⟩ := C
  obtain ⟨o1, o2, o3, o4, o5, o6, o7⟩ := O
  have r2 : m.2.1 4 1 = nI P := r2
  have r4 : m.2.1 4 3 = nI (if L = none then 0 else 1) := r4
  have s2 : c.1 82 8 = nI P := s2
  have s7 : c.1 82 13 = lead1 L := s7
  have o1 : P ≤ 4 := o1
  unfold gX12_readPair gX4_tellPair
  cases L with
  | some l =>
    have r4 : m.2.1 4 3 = nI 1 := r4
    have s7 : c.1 82 13 = nI l := s7
    obtain ⟨q1, q2⟩ := o6 l rfl
    have q3 : l < 5 ^ P := q2.1
    have q4 := pow5_le (show P ≤ 4 from o1)
    have nl := nI_ne1 (n := l) (by omega)
    obtain ⟨m', c', e1, e2, F⟩ := l_fault (f := 2) (by decide) (by decide) T
    have pw := FAx_w F
    refine ⟨m', ?_, Or.inr ⟨c', ?_, LFx_of fM fC F⟩⟩
    · unfold gX12_readPair_22 gX12_readPair_32
      by_cases q : P = 4
      · simp (disch := omega) only [n_lit, n_of, n_o1, nI_add, pk_mul, nI_ltI, nI_leI, nI_eq, ↓lift_lt, ↓k_mt, ↓k_mp, if_true, if_false, Bool.false_eq_true, Nat.not_lt_zero, Nat.zero_le, Nat.reduceEqDiff, Nat.reduceLeDiff, Nat.reduceLT, mA_4, r2, r4, e1, eq_true q, q_fails_w pw, pw]
      · simp (disch := omega) only [n_lit, n_of, n_o1, nI_add, pk_mul, nI_ltI, nI_leI, nI_eq, ↓lift_lt, ↓k_mt, ↓k_mp, if_true, if_false, Bool.false_eq_true, Nat.not_lt_zero, Nat.zero_le, Nat.reduceEqDiff, Nat.reduceLeDiff, Nat.reduceLT, mA_4, r2, r4, e1, q, pw]
    · simp (disch := omega) only [n_lit, n_of, n_o1, nI_add, pk_mul, nI_ltI, nI_leI, nI_eq, ↓lift_lt, ↓k_mt, ↓k_mp, if_true, if_false, Bool.false_eq_true, Nat.not_lt_zero, Nat.zero_le, Nat.reduceEqDiff, Nat.reduceLeDiff, Nat.reduceLT, s7, nl, e2, n_bl0]
  | none =>
    have r4 : m.2.1 4 3 = nI 0 := r4
    have s7 : c.1 82 13 = -nI 1 := s7
    by_cases p4 : P = 4
    · obtain ⟨m', c', e1, e2, F⟩ := l_fault (f := 4) (by decide) (by decide) T
      have pw := FAx_w F
      have p4' : ¬ P < 4 := by omega
      refine ⟨m', ?_, Or.inr ⟨c', ?_, LFx_of fM fC F⟩⟩
      · unfold gX12_readPair_22 gX12_readPair_32
        simp (disch := omega) only [n_lit, n_of, n_o1, nI_add, pk_mul, nI_ltI, nI_leI, nI_eq, ↓lift_lt, ↓k_mt, ↓k_mp, if_true, if_false, Bool.false_eq_true, Nat.not_lt_zero, Nat.zero_le, Nat.reduceEqDiff, Nat.reduceLeDiff, Nat.reduceLT, mA_4, r2, r4, i0, eq_true p4, e1, pw]
      · simp (disch := omega) only [n_lit, n_of, n_o1, nI_add, pk_mul, nI_ltI, nI_leI, nI_eq, ↓lift_lt, ↓k_mt, ↓k_mp, if_true, if_false, Bool.false_eq_true, Nat.not_lt_zero, Nat.zero_le, Nat.reduceEqDiff, Nat.reduceLeDiff, Nat.reduceLT, s7, s2, p4', e2, n_bl0]
    · have pl : P < 4 := by omega
      obtain ⟨m1, c1, a1, b1, kd1, nm1, e1, e2, T1, l1, f1, f2⟩ := l_next T (by decide)
      have fM1 := lfM_n fM f1
      have fC1 := lfC_n fC f2
      have hdr : (mA m 4 (nI 1)).bind (fun v1 => (mA m 4 (nI 3)).bind fun v2 => if v2 = nI 1 then (gX12_fails m (nI 2)).bind fun y15 => gX12_readPair_22 y15 v1 else gX12_readPair_22 m v1) = gX12_readPair_32 m (nI P) := by
        unfold gX12_readPair_22
        simp (disch := omega) only [n_lit, n_of, n_o1, nI_add, pk_mul, nI_ltI, nI_leI, nI_eq, ↓lift_lt, ↓k_mt, ↓k_mp, if_true, if_false, Bool.false_eq_true, Nat.not_lt_zero, Nat.zero_le, Nat.reduceEqDiff, Nat.reduceLeDiff, Nat.reduceLT, mA_4, r2, r4, i0, p4]
      have r5 : m.2.1 4 4 = nI Y := r5
      have s5 : c.1 82 11 = nI G := s5
      have s6 : c.1 82 12 = nI Ck := s6
      have o4 : G < 10 ^ P := o4
      have o5 : Ck < 10 ^ P := o5
      have p10 := pow10_le (show P ≤ 4 from o1)
      have tt := n_tT1 (p := P) pl
      rcases l_eat (x := 8) (by decide) (by decide) T1 with ⟨m2, c2, a2, b2, kd2, nm2, x1, x2, T2, l2, g1, g2, -⟩ | ⟨m2, c2, x1, x1', x2, F, -⟩
      · have x1 : gX12_eats m1 (nI 3) = some (nI 1, m2) := x1
        have fM2 := lfM_n fM1 g1
        have fC2 := lfC_n fC1 g2
        have e32 : gX12_readPair_32 m (nI P) = gX12_readPair_57 m2 (nI P) := by
          unfold gX12_readPair_32
          simp (disch := omega) only [n_lit, n_of, n_o1, nI_add, pk_mul, nI_ltI, nI_leI, nI_eq, ↓lift_lt, ↓k_mt, ↓k_mp, if_true, if_false, Bool.false_eq_true, Nat.not_lt_zero, Nat.zero_le, Nat.reduceEqDiff, Nat.reduceLeDiff, Nat.reduceLT, T.2.2, e1, x1, i1]
        rcases l_num (lo := 0) (hi := 9) (by decide) (by decide) T2 with ⟨m3, c3, a3, b3, kd3, nm3, y1, y2, T3, l3, j1, j2, z1, z2, z3⟩ | ⟨-, q, -⟩ | ⟨y, m3, c3, y1, y2, F, -⟩
        · obtain ⟨m4, em4⟩ : ∃ m4, m4 = mS (mS m3 4 (11 + P) (nI nm2)) 4 (19 + P) (nI 1) := ⟨_, rfl⟩
          have w1 : mW m3 4 (nI (11 + P)) (nI nm2) = some (mS m3 4 (11 + P) (nI nm2)) := mW_4 m3 _ (by omega)
          have w2 : mW (mS m3 4 (11 + P) (nI nm2)) 4 (nI (19 + P)) (nI 1) = some m4 := by rw [em4]; exact mW_4 _ _ (by omega)
          have e57 : gX12_readPair_57 m2 (nI P) = gX12_readPair_83 m4 (nI P) := by
            unfold gX12_readPair_57
            simp (disch := omega) only [n_lit, n_of, n_o1, nI_add, pk_mul, nI_ltI, nI_leI, nI_eq, ↓lift_lt, ↓k_mt, ↓k_mp, if_true, if_false, Bool.false_eq_true, Nat.not_lt_zero, Nat.zero_le, Nat.reduceEqDiff, Nat.reduceLeDiff, Nat.reduceLT, y1, w1, w2]
          have c38 : ∀ k, ¬ k = 4 → c3.1 82 k = c.1 82 k := fun k hk => by rw [j2.1 82 (by decide), cI_1, if_pos rfl, if_neg hk, g2.1 82 (by decide), f2.1 82 (by decide)]
          have c34 : c3.1 82 4 = nI nm2 := by rw [j2.1 82 (by decide), cI_1, if_pos rfl, if_pos rfl]
          have c3r : c3.2.2.1 = c.2.2.1 := by
            rw [j2.2.2]
            show c2.2.2.1 = _
            rw [g2.2.2, f2.2.2]
          obtain ⟨c5, ec5⟩ : ∃ c5, c5 = cI c3 82 11 (nI (G + nm2 * 10 ^ P)) := ⟨_, rfl⟩
          have v8 : c3.1 82 8 = nI P := by rw [c38 8 (by decide)]; exact s2
          have v11 : c3.1 82 11 = nI G := by rw [c38 11 (by decide)]; exact s5
          have fM4 : lfM m0 m4 := by rw [em4]; exact lfM_S (lfM_S (lfM_n fM2 j1))
          have fC5 : lfC c0 c5 := by rw [ec5]; exact lfC_I (lfC_n (lfC_I fC2) j2)
          have T4 : TSx t N h m4 c5 a3 b3 kd3 nm3 := by rw [em4, ec5]; exact TS_S (TS_S (TS_I T3))
          have ab := TS_a T3
          have e419 : m4.2.1 4 (19 + P) = nI 1 := by rw [em4, mS_a, if_pos rfl, if_pos rfl]
          have e4o : ∀ k, ¬ k = 19 + P → m4.2.1 4 k = if k = 11 + P then nI nm2 else m.2.1 4 k := fun k hk => by
            rw [em4, mS_a, if_pos rfl, if_neg hk, mS_a, if_pos rfl, j1.2, g1.2, f1.2]
          have cl : gX4_tellPair h c = gX4_tellPair_81 h c5 (nI 1) (nI 0) := by
            unfold gX4_tellPair
            rw [ec5]
            simp (disch := omega) only [n_lit, n_of, n_o1, nI_add, pk_mul, nI_ltI, nI_leI, nI_eq, ↓lift_lt, ↓k_mt, ↓k_mp, if_true, if_false, Bool.false_eq_true, Nat.not_lt_zero, Nat.zero_le, Nat.reduceEqDiff, Nat.reduceLeDiff, Nat.reduceLT, s7, s2, pl, e2, x2, i1, y2, v8, tt, v11, c34]
          obtain ⟨m5, K⟩ := l_chalk (m1 := m4) (c1 := c5) pl (N - a3) m4 c5 a3 b3 kd3 nm3 1 0 (by omega) (Nat.zero_le _) T4 (by decide) ⟨fun _ _ _ _ _ _ _ _ => rfl, rfl, fun _ _ => rfl⟩ ⟨fun _ _ _ => rfl, rfl, rfl, fun _ _ _ => rfl, fun _ _ => rfl, rfl⟩ (fun _ _ => rfl) e419 (fun _ _ => rfl) rfl
          have cl2 := cl
          unfold gX4_tellPair at cl2
          have ref : gX12_readPair m = gX12_readPair_83 m4 (nI P) := by
            have : gX12_readPair m = gX12_readPair_32 m (nI P) := hdr
            rw [this, e32, e57]
          have ref2 := ref
          unfold gX12_readPair at ref2
          rw [ref2, cl2]
          rcases K with ⟨c6, a6, b6, kd6, nm6, ch6, q1, q2, T6, l6, hch, q3, q4, q5, q6, q7, q8⟩ | ⟨c6, q1, q2, F6⟩
          · have v1 : m5.2.1 4 1 = nI P := by rw [q5 1 (by omega), e4o 1 (by omega), if_neg (by omega)]; exact r2
            have w3 : mW m5 4 (nI 1) (nI (P + 1)) = some (mS m5 4 1 (nI (P + 1))) := mW_4 m5 _ (by decide)
            have u8 : c6.1 82 8 = nI P := by rw [q7 8 (by decide), ec5, cI_1, if_pos rfl, if_neg (by decide)]; exact v8
            have u12 : c6.1 82 12 = nI Ck := by rw [q7 12 (by decide), ec5, cI_1, if_pos rfl, if_neg (by decide), c38 12 (by decide)]; exact s6
            obtain ⟨c7, ec7⟩ : ∃ c7, c7 = cI c6 82 12 (nI (Ck + ch6 * 10 ^ P)) := ⟨_, rfl⟩
            have u87 : c7.1 82 8 = nI P := by rw [ec7, cI_1, if_pos rfl, if_neg (by decide)]; exact u8
            have fM6 : lfM m0 m5 := ⟨fun r a1 a2 a3 a4 a5 a6 a7 => by rw [q3.1 r a1 a2 a3 a4 a5 a6 a7]; exact fM4.1 r a1 a2 a3 a4 a5 a6 a7, by rw [q3.2.1]; exact fM4.2.1, fun r hr => by rw [q3.2.2 r hr]; exact fM4.2.2 r hr⟩
            have fC6 : lfC c0 c6 := ⟨fun r a1 a2 => by rw [q4.1 r a1 a2]; exact fC5.1 r a1 a2, by rw [q4.2.1]; exact fC5.2.1, by rw [q4.2.2.1]; exact fC5.2.2.1, fun r k hk => by rw [q4.2.2.2.1 r k hk]; exact fC5.2.2.2.1 r k hk, fun r hr => by rw [q4.2.2.2.2.1 r hr]; exact fC5.2.2.2.2.1 r hr, by rw [q4.2.2.2.2.2]; exact fC5.2.2.2.2.2⟩
            refine ⟨mS m5 4 1 (nI (P + 1)), ?_, Or.inl ⟨cI c7 82 8 (nI (P + 1)), (P + 1, D, Y, ln, G + nm2 * 10 ^ P, Ck + ch6 * 10 ^ P, none, gl, fl), a6, ?_, ⟨⟨b6, kd6, nm6, TS_S (TS_I (by rw [ec7]; exact TS_I T6))⟩, ?_, ?_, ?_, by omega, lfM_S fM6, lfC_I (by rw [ec7]; exact lfC_I fC6)⟩, rfl, by omega⟩⟩
            · rw [q1]
              unfold gX12_readPair_117 gX12_readPair_134
              simp (disch := omega) only [n_lit, n_of, n_o1, nI_add, pk_mul, nI_ltI, nI_leI, nI_eq, ↓lift_lt, ↓k_mt, ↓k_mp, if_true, if_false, Bool.false_eq_true, Nat.not_lt_zero, Nat.zero_le, Nat.reduceEqDiff, Nat.reduceLeDiff, Nat.reduceLT, T6.2.2, mA_4, v1, w3]
            · rw [q2]
              have ec7' : cI c6 82 12 (nI Ck + nI ch6 * nI (10 ^ P)) = c7 := by
                rw [ec7]
                simp (disch := omega) only [n_lit, n_of, n_o1, nI_add, pk_mul, nI_ltI, nI_leI, nI_eq, ↓lift_lt, ↓k_mt, ↓k_mp, if_true, if_false, Bool.false_eq_true, Nat.not_lt_zero, Nat.zero_le]
              unfold gX4_tellPair_129
              simp (disch := omega) only [n_lit, n_of, n_o1, nI_add, pk_mul, nI_ltI, nI_leI, nI_eq, ↓lift_lt, ↓k_mt, ↓k_mp, if_true, if_false, Bool.false_eq_true, Nat.not_lt_zero, Nat.zero_le, Nat.reduceEqDiff, Nat.reduceLeDiff, Nat.reduceLT, u8, tt, u12, ← ec7, u87]
            · have sA : ∀ k, ¬ k = 1 → ¬ k = 11 + P → ¬ k = 19 + P → (mS m5 4 1 (nI (P + 1))).2.1 4 k = m.2.1 4 k := fun k h1 h2 h3 => by rw [mS_a, if_pos rfl, if_neg h1, q5 k h3, e4o k h3, if_neg h2]
              refine ⟨by rw [sA 0 (by decide) (by omega) (by omega)]; exact r1, by rw [mS_a, if_pos rfl, if_pos rfl], by rw [sA 2 (by decide) (by omega) (by omega)]; exact r3, by rw [sA 3 (by decide) (by omega) (by omega)]; exact r4, by rw [sA 4 (by decide) (by omega) (by omega)]; exact r5, fun p hp => ?_, fun p hp => ?_, by rw [sA 23 (by decide) (by omega) (by omega)]; exact r8, ⟨by rw [sA 24 (by decide) (by omega) (by omega)]; exact r9.1, by rw [sA 25 (by decide) (by omega) (by omega)]; exact r9.2.1, by rw [sA 26 (by decide) (by omega) (by omega)]; exact r9.2.2⟩, lawN_eq (fun k hk => sA k (by omega) (by omega) (by omega)) r10, lawN_eq (fun k hk => sA k (by omega) (by omega) (by omega)) r11, by rw [sA 137 (by decide) (by omega) (by omega)]; exact r12⟩
              · show _ = nI (dg (G + nm2 * 10 ^ P) p)
                rw [dg_add o4 (by omega)]
                by_cases e : p = P
                · subst e
                  rw [if_pos rfl, mS_a, if_pos rfl, if_neg (by omega), q5 _ (by omega), e4o _ (by omega), if_pos rfl]
                · rw [if_neg e, sA _ (by omega) (by omega) (by omega)]
                  exact r6 p hp
              · show _ = nI (dg (Ck + ch6 * 10 ^ P) p)
                rw [dg_add o5 hch]
                by_cases e : p = P
                · subst e
                  rw [if_pos rfl, mS_a, if_pos rfl, if_neg (by omega)]
                  exact q6
                · rw [if_neg e, sA _ (by omega) (by omega) (by omega)]
                  exact r7 p hp
            · have sC : ∀ k, ¬ k = 8 → ¬ k = 12 → ¬ k = 11 → ¬ k = 4 → (cI c7 82 8 (nI (P + 1))).1 82 k = c.1 82 k := fun k h1 h2 h3 h4 => by rw [cI_1, if_pos rfl, if_neg h1, ec7, cI_1, if_pos rfl, if_neg h2, q7 k h4, ec5, cI_1, if_pos rfl, if_neg h3, c38 k h4]
              have rr : (cI c7 82 8 (nI (P + 1))).2.2.1 = c.2.2.1 := by
                show c7.2.2.1 = _
                rw [ec7]
                show c6.2.2.1 = _
                rw [q8, ec5]
                exact c3r
              refine ⟨by rw [sC 7 (by decide) (by decide) (by decide) (by decide)]; exact s1, by rw [cI_1, if_pos rfl, if_pos rfl], by rw [sC 9 (by decide) (by decide) (by decide) (by decide)]; exact s3, by rw [sC 10 (by decide) (by decide) (by decide) (by decide)]; exact s4, ?_, ?_, by rw [sC 13 (by decide) (by decide) (by decide) (by decide)]; exact s7, by rw [rr]; exact s8, by rw [rr]; exact s9⟩
              · rw [cI_1, if_pos rfl, if_neg (by decide), ec7, cI_1, if_pos rfl, if_neg (by decide), q7 11 (by decide), ec5, cI_1, if_pos rfl, if_pos rfl]
              · rw [cI_1, if_pos rfl, if_neg (by decide), ec7, cI_1, if_pos rfl, if_pos rfl]
            · refine ⟨by show P + 1 ≤ 4; omega, o2, o3, add_lt o4 (by omega), add_lt o5 hch, (fun l hl => by cases hl), o7⟩
          · obtain ⟨k, p, h1, h2, h3, h4, h5, h6, h7, h8, h9⟩ := F6
            refine ⟨m5, q1, Or.inr ⟨c6, q2, k, p, h1, h2, h3, h4, h5, h6, h7, ⟨fun r a1 a2 a3 a4 a5 a6 a7 => by rw [h8.1 r a1 a2 a3 a4 a5 a6 a7]; exact fM4.1 r a1 a2 a3 a4 a5 a6 a7, by rw [h8.2.1]; exact fM4.2.1, fun r hr => by rw [h8.2.2 r hr]; exact fM4.2.2 r hr⟩, ⟨fun r a1 a2 => by rw [h9.1 r a1 a2]; exact fC5.1 r a1 a2, by rw [h9.2.1]; exact fC5.2.1, by rw [h9.2.2.1]; exact fC5.2.2.1, fun r k hk => by rw [h9.2.2.2.1 r k hk]; exact fC5.2.2.2.1 r k hk, fun r hr => by rw [h9.2.2.2.2.1 r hr]; exact fC5.2.2.2.2.1 r hr, by rw [h9.2.2.2.2.2]; exact fC5.2.2.2.2.2⟩⟩⟩
        · omega
        · have pw := FAx_w F
          obtain ⟨m4, em4⟩ : ∃ m4, m4 = mS (mS m3 4 (11 + P) y) 4 (19 + P) (nI 1) := ⟨_, rfl⟩
          have w1 : mW m3 4 (nI (11 + P)) y = some (mS m3 4 (11 + P) y) := mW_4 m3 _ (by omega)
          have w2 : mW (mS m3 4 (11 + P) y) 4 (nI (19 + P)) (nI 1) = some m4 := by rw [em4]; exact mW_4 _ _ (by omega)
          have pw4 : ¬ m4.1 11 = nI 0 := by rw [em4, mS_f, mS_f]; exact pw
          have e83 : gX12_readPair_83 m4 (nI P) = some m4 := by
            have eb : gX12_readPair_83b m4 (nI P) = some (.inr m4) := by
              unfold gX12_readPair_83b gX12_readPair_117 gX12_readPair_134
              simp (disch := omega) only [n_lit, n_of, n_o1, nI_add, pk_mul, nI_ltI, nI_leI, nI_eq, ↓lift_lt, ↓k_mt, ↓k_mp, if_true, if_false, Bool.false_eq_true, Nat.not_lt_zero, Nat.zero_le, Nat.reduceEqDiff, Nat.reduceLeDiff, Nat.reduceLT, pw4, Option.map_some]
            unfold gX12_readPair_83
            exact lpw_r eb
          refine ⟨m4, ?_, Or.inr ⟨c3, ?_, ?_⟩⟩
          · refine Eq.trans hdr ?_
            rw [e32]
            unfold gX12_readPair_57
            simp (disch := omega) only [n_lit, n_of, n_o1, nI_add, pk_mul, nI_ltI, nI_leI, nI_eq, ↓lift_lt, ↓k_mt, ↓k_mp, if_true, if_false, Bool.false_eq_true, Nat.not_lt_zero, Nat.zero_le, Nat.reduceEqDiff, Nat.reduceLeDiff, Nat.reduceLT, y1, w1, w2, e83]
          · unfold gX4_tellPair_53
            simp (disch := omega) only [n_lit, n_of, n_o1, nI_add, pk_mul, nI_ltI, nI_leI, nI_eq, ↓lift_lt, ↓k_mt, ↓k_mp, if_true, if_false, Bool.false_eq_true, Nat.not_lt_zero, Nat.zero_le, Nat.reduceEqDiff, Nat.reduceLeDiff, Nat.reduceLT, s7, s2, pl, e2, x2, i1, y2]
          · obtain ⟨k, p, h1, h2, h3, h4, h5, h6, h7, h8, h9⟩ := LFx_of fM2 fC2 F
            exact ⟨k, p, h1, h2, h3, by rw [em4, mS_f, mS_f]; exact h4, by rw [em4, mS_f, mS_f]; exact h5, h6, h7, by rw [em4]; exact lfM_S (lfM_S h8), h9⟩
      · have x1 : gX12_eats m1 (nI 3) = some (nI 0, m1) := x1
        obtain ⟨m3, y1, y2, y3, y4⟩ := w_pair (P := P) (FAx_w F) pl
        refine ⟨m3, ?_, Or.inr ⟨c2, ?_, ?_⟩⟩
        · refine Eq.trans hdr ?_
          unfold gX12_readPair_32
          simp (disch := omega) only [n_lit, n_of, n_o1, nI_add, pk_mul, nI_ltI, nI_leI, nI_eq, ↓lift_lt, ↓k_mt, ↓k_mp, if_true, if_false, Bool.false_eq_true, Nat.not_lt_zero, Nat.zero_le, Nat.reduceEqDiff, Nat.reduceLeDiff, Nat.reduceLT, T.2.2, e1, x1, x1', y1]
        · unfold gX4_tellPair_53
          simp (disch := omega) only [n_lit, n_of, n_o1, nI_add, pk_mul, nI_ltI, nI_leI, nI_eq, ↓lift_lt, ↓k_mt, ↓k_mp, if_true, if_false, Bool.false_eq_true, Nat.not_lt_zero, Nat.zero_le, Nat.reduceEqDiff, Nat.reduceLeDiff, Nat.reduceLT, s7, s2, pl, e2, x2]
        · obtain ⟨k, p, h1, h2, h3, h4, h5, h6, h7, h8, h9⟩ := LFx_of fM1 fC1 F
          exact ⟨k, p, h1, h2, h3, by rw [y2]; exact h4, by rw [y2]; exact h5, h6, h7, ⟨by rw [y2]; exact h8.1, by rw [y3]; exact h8.2.1, fun r hr => by rw [y4 r hr]; exact h8.2.2 r hr⟩, h9⟩
end PAR
