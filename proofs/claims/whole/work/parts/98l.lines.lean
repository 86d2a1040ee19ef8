/-! lines: tokens that must stand there, faults, numbers -/
section LIN
variable {t : Nat → Nat} {N : Nat} {h : Hp} {m : Mu} {c : Ch} {a : Nat}
def TSx (t : Nat → Nat) (N : Nat) (h : Hp) (m : Mu) (c : Ch) (a b kd nm : Nat) : Prop := TXx t N m h c ∧ TKx t N m c a b kd nm ∧ m.1 11 = nI 0
/-- the same fault on both sides -/
def FAx (m : Mu) (c : Ch) (m' : Mu) (c' : Ch) : Prop := ∃ k p, 1 ≤ k ∧ k ≤ 4 ∧ p ≤ 900 ∧ m' = mI (mI m 11 (nI k)) 12 (nI p) ∧ c' = cI (cI c 82 5 (nI k)) 82 6 (nI p)
theorem FAx_w {m' : Mu} {c' : Ch} (H : FAx m c m' c') : ¬ m'.1 11 = nI 0 := by
  obtain ⟨k, p, h1, h2, h3, h4, -⟩ := H
  rw [h4, mI_f, if_neg (by decide), mI_f, if_pos rfl, nI_eq (by omega) (by omega)]
  omega
theorem l_fault {f b kd nm : Nat} (hf : 1 ≤ f) (hf4 : f ≤ 4) (H : TSx t N h m c a b kd nm) : ∃ m' c', gX12_fails m (nI f) = some m' ∧ gX4_refuse h c (nI f) = some (nI 0, c') ∧ FAx m c m' c' := by
  obtain ⟨H1, ⟨k1, k2, k3, k4, k5, k6, k7, k8⟩, H3⟩ := H
  have kb := TC_kd k8
  have N9 := H1.1
  have ab : a ≤ 900 := by have := k8.1; omega
  have w6 : ∀ f', (mI m 11 (nI f')).1 6 = nI a := fun f' => by rw [mI_f, if_neg (by decide)]; exact k1
  have w4 : ∀ f', (cI c 82 5 (nI f')).1 83 4 = nI a := fun f' => by rw [cI_n _ (by decide)]; exact k4
  have cb := ckd_b kd
  by_cases z : kd = 25
  · have z4 : ckd kd = 4 := by rw [z]; rfl
    refine ⟨_, _, ?_, ?_, 1, a, by decide, by decide, ab, rfl, rfl⟩
    · unfold gX12_fails gX12_fails_23
      simp (disch := omega) only [n_lit, n_of, n_o1, nI_add, pk_mul, nI_ltI, nI_leI, nI_eq, ↓lift_lt, ↓k_mt, ↓k_mp, if_true, if_false, Bool.false_eq_true, Nat.not_lt_zero, Nat.zero_le, Nat.reduceEqDiff, Nat.reduceLeDiff, Nat.reduceLT, H3, k3, eq_true z, w6]
    · unfold gX4_refuse gX4_refuse_17
      simp (disch := omega) only [n_lit, n_of, n_o1, nI_add, pk_mul, nI_ltI, nI_leI, nI_eq, ↓lift_lt, ↓k_mt, ↓k_mp, if_true, if_false, Bool.false_eq_true, Nat.not_lt_zero, Nat.zero_le, Nat.reduceEqDiff, Nat.reduceLeDiff, Nat.reduceLT, k6, z4, w4]
  · have z4 := ckd_4 z
    refine ⟨_, _, ?_, ?_, f, a, hf, hf4, ab, rfl, rfl⟩
    · unfold gX12_fails gX12_fails_23
      simp (disch := omega) only [n_lit, n_of, n_o1, nI_add, pk_mul, nI_ltI, nI_leI, nI_eq, ↓lift_lt, ↓k_mt, ↓k_mp, if_true, if_false, Bool.false_eq_true, Nat.not_lt_zero, Nat.zero_le, Nat.reduceEqDiff, Nat.reduceLeDiff, Nat.reduceLT, H3, k3, z, w6]
    · unfold gX4_refuse gX4_refuse_17
      simp (disch := omega) only [n_lit, n_of, n_o1, nI_add, pk_mul, nI_ltI, nI_leI, nI_eq, ↓lift_lt, ↓k_mt, ↓k_mp, if_true, if_false, Bool.false_eq_true, Nat.not_lt_zero, Nat.zero_le, Nat.reduceEqDiff, Nat.reduceLeDiff, Nat.reduceLT, k6, z4, w4]
theorem l_next {b kd nm : Nat} (H : TSx t N h m c a b kd nm) (hk : ¬ kd = 24) : ∃ m' c' a' b' kd' nm', gX12_next m = some m' ∧ gX6_advance h c = some c' ∧ TSx t N h m' c' a' b' kd' nm' ∧ a < a' ∧ mfn m m' ∧ cfn c c' := by
  obtain ⟨H1, ⟨k1, k2, k3, k4, k5, k6, k7, k8⟩, H3⟩ := H
  obtain ⟨m', c', a', b', kd', nm', e1, e2, f1, f2, K', hb⟩ := tk_next H1 k2 k5 k8.1
  have ab : a < b := by
    rcases k8.2 with ⟨q, -⟩ | ⟨q, -⟩
    · exact absurd q hk
    · exact q
  exact ⟨m', c', a', b', kd', nm', e1, e2, ⟨TXx_f H1 f1 f2, K', by rw [f1.1 11 (by decide) (by decide) (by decide) (by decide)]; exact H3⟩, by omega, f1, f2⟩
theorem l_eat {x b kd nm : Nat} (hx : x < 35) (hx4 : 4 ≤ x) (H : TSx t N h m c a b kd nm) :
    (∃ m' c' a' b' kd' nm', gX12_eats m (nI (kx x)) = some (nI 1, m') ∧ gX4_take h c x = some (nI 1, c') ∧ TSx t N h m' c' a' b' kd' nm' ∧ a < a' ∧ mfn m m' ∧ cfn c c' ∧ kd = kx x) ∨
    (∃ m' c', gX12_eats m (nI (kx x)) = some (nI 0, m) ∧ gX12_fails m (nI 2) = some m' ∧ gX4_take h c x = some (nI 0, c') ∧ FAx m c m' c' ∧ ¬ kd = kx x) := by
  have kb := TC_kd H.2.1.2.2.2.2.2.2.2
  have xb := vk_lt (kx_ok x hx hx4).1
  have qi := q_is (k := kx x) H.2.2 H.2.1.2.2.1 kb.1 xb
  have ci := tk_isAt H.1 H.2.1 hx hx4
  have i1 : ¬ (1 = 0) := by decide
  by_cases z : kd = kx x
  · left
    rw [if_pos z] at qi ci
    have n24 : ¬ kd = 24 := fun e => by
      have := (kx_ok x hx hx4).1
      rw [← z, e] at this
      exact absurd this (by decide)
    obtain ⟨m', c', a', b', kd', nm', e1, e2, P, lt, f1, f2⟩ := l_next H n24
    refine ⟨m', c', a', b', kd', nm', ?_, ?_, P, lt, f1, f2, z⟩
    · unfold gX12_eats
      simp (disch := omega) only [n_lit, n_of, n_o1, nI_add, pk_mul, nI_ltI, nI_leI, nI_eq, ↓lift_lt, ↓k_mt, ↓k_mp, if_true, if_false, Bool.false_eq_true, Nat.not_lt_zero, Nat.zero_le, Nat.reduceEqDiff, Nat.reduceLeDiff, Nat.reduceLT, qi, i1, e1]
    · unfold gX4_take
      simp (disch := omega) only [n_lit, n_of, n_o1, nI_add, pk_mul, nI_ltI, nI_leI, nI_eq, ↓lift_lt, ↓k_mt, ↓k_mp, if_true, if_false, Bool.false_eq_true, Nat.not_lt_zero, Nat.zero_le, Nat.reduceEqDiff, Nat.reduceLeDiff, Nat.reduceLT, ci, i1, e2]
  · right
    rw [if_neg z] at qi ci
    obtain ⟨m', c', e1, e2, P⟩ := l_fault (f := 2) (by decide) (by decide) H
    refine ⟨m', c', ?_, e1, ?_, P, z⟩
    · unfold gX12_eats
      simp (disch := omega) only [n_lit, n_of, n_o1, nI_add, pk_mul, nI_ltI, nI_leI, nI_eq, ↓lift_lt, ↓k_mt, ↓k_mp, if_true, if_false, Bool.false_eq_true, Nat.not_lt_zero, Nat.zero_le, Nat.reduceEqDiff, Nat.reduceLeDiff, Nat.reduceLT, qi]
    · unfold gX4_take
      simp (disch := omega) only [n_lit, n_of, n_o1, nI_add, pk_mul, nI_ltI, nI_leI, nI_eq, ↓lift_lt, ↓k_mt, ↓k_mp, if_true, if_false, Bool.false_eq_true, Nat.not_lt_zero, Nat.zero_le, Nat.reduceEqDiff, Nat.reduceLeDiff, Nat.reduceLT, ci, e2, n_bl0]
theorem q_takes_w {lo hi : Int32} (hm : ¬ m.1 11 = nI 0) : gX12_takes m lo hi = some (m.1 10, m) := by
  unfold gX12_takes gX12_takes_37 gX12_takes_53
  simp (disch := omega) only [n_lit, n_of, n_o1, nI_add, pk_mul, nI_ltI, nI_leI, nI_eq, ↓lift_lt, ↓k_mt, ↓k_mp, if_true, if_false, Bool.false_eq_true, Nat.not_lt_zero, Nat.zero_le, Nat.reduceEqDiff, Nat.reduceLeDiff, Nat.reduceLT, q_is_w hm, q_fails_w hm, hm]
/-- a number -/
theorem l_num {lo hi b kd nm : Nat} (hlo : lo < 1000) (hhi : hi < 1000) (H : TSx t N h m c a b kd nm) :
    (∃ m' c' a' b' kd' nm', gX12_takes m (nI lo) (nI hi) = some (nI nm, m') ∧ gX4_takeNumber h c (nI hi) = some (nI 1, c') ∧ TSx t N h m' c' a' b' kd' nm' ∧ a < a' ∧ mfn m m' ∧ cfn (cI c 82 4 (nI nm)) c' ∧ kd = 23 ∧ lo ≤ nm ∧ nm ≤ hi) ∨
    (kd = 23 ∧ nm < lo ∧ ∃ y m' c', gX12_takes m (nI lo) (nI hi) = some (y, m') ∧ gX4_refuse h c (nI 3) = some (nI 0, c') ∧ FAx m c m' c') ∨
    (∃ y m' c', gX12_takes m (nI lo) (nI hi) = some (y, m') ∧ gX4_takeNumber h c (nI hi) = some (nI 0, c') ∧ FAx m c m' c' ∧ (kd = 23 → lo ≤ nm)) := by
  have kb := TC_kd H.2.1.2.2.2.2.2.2.2
  have q23 : gX12_is m (nI 23) = some (nI (if kd = 23 then 1 else 0)) := q_is H.2.2 H.2.1.2.2.1 kb.1 (by decide)
  have k6 := H.2.1.2.2.2.2.2.1
  have i1 : ¬ (1 = 0) := by decide
  by_cases z : kd = 23
  · rw [if_pos z] at q23
    obtain ⟨n1, n2, n3⟩ := H.2.1.2.2.2.2.2.2.1 z
    have ck : ckd kd = 2 := by rw [z]; rfl
    have wi : ∀ x : Nat, x < 1000 → (nI x).toInt64 = lN x := fun x hx => nI_l (by omega)
    by_cases z1 : lo ≤ nm
    · by_cases z2 : nm ≤ hi
      · left
        have wy := win_y (p := nm) (l := lo) (u := hi) (by omega) z1 z2
        have H4 : TSx t N h m (cI c 82 4 (nI nm)) a b kd nm := by
          obtain ⟨⟨x1, x2, x3, x4, x5, x6, x7⟩, ⟨k1, k2, k3, k4, k5, k6', k7, k8⟩, H3⟩ := H
          have e83 : ∀ k, (cI c 82 4 (nI nm)).1 83 k = c.1 83 k := fun k => by rw [cI_n _ (by decide)]
          exact ⟨⟨x1, x2, x3, x4, x5, by rw [e83]; exact x6, x7.1, by rw [cI_1, if_pos rfl, if_neg (by decide)]; exact x7.2.1, by rw [cI_1, if_pos rfl, if_neg (by decide)]; exact x7.2.2⟩, ⟨k1, k2, k3, by rw [e83]; exact k4, by rw [e83]; exact k5, by rw [e83]; exact k6', fun q => by rw [e83]; exact k7 q, k8⟩, H3⟩
        obtain ⟨m', c', a', b', kd', nm', e1, e2, P, lt, f1, f2⟩ := l_next H4 (by omega)
        refine ⟨m', c', a', b', kd', nm', ?_, ?_, P, lt, f1, f2, z, z1, z2⟩
        · unfold gX12_takes gX12_takes_37 gX12_takes_53
          rw [wi nm n3] at wy
          simp (disch := omega) only [n_lit, n_of, n_o1, nI_add, pk_mul, nI_ltI, nI_leI, nI_eq, ↓lift_lt, ↓k_mt, ↓k_mp, if_true, if_false, Bool.false_eq_true, Nat.not_lt_zero, Nat.zero_le, Nat.reduceEqDiff, Nat.reduceLeDiff, Nat.reduceLT, q23, i1, n1, wi, wy, H.2.2, e1]
        · unfold gX4_takeNumber
          simp (disch := omega) only [n_lit, n_of, n_o1, nI_add, pk_mul, nI_ltI, nI_leI, nI_eq, ↓lift_lt, ↓k_mt, ↓k_mp, if_true, if_false, Bool.false_eq_true, Nat.not_lt_zero, Nat.zero_le, Nat.reduceEqDiff, Nat.reduceLeDiff, Nat.reduceLT, k6, ck, n2, z2, e2]
      · right; right
        have wn : gX12_within (nI nm).toInt64 (lN lo) (lN hi) = some (nI 0) := win_n (by omega) (by omega) (fun ⟨p, p1, p2, p3⟩ => by
          have := (nI_eq (by omega) (by omega)).mp p3
          omega)
        obtain ⟨m', c', e1, e2, P⟩ := l_fault (f := 3) (by decide) (by decide) H
        have pw := FAx_w P
        refine ⟨m'.1 10, m', c', ?_, ?_, P, fun _ => z1⟩
        · unfold gX12_takes gX12_takes_37 gX12_takes_53
          rw [wi nm n3] at wn
          simp (disch := omega) only [n_lit, n_of, n_o1, nI_add, pk_mul, nI_ltI, nI_leI, nI_eq, ↓lift_lt, ↓k_mt, ↓k_mp, if_true, if_false, Bool.false_eq_true, Nat.not_lt_zero, Nat.zero_le, Nat.reduceEqDiff, Nat.reduceLeDiff, Nat.reduceLT, q23, i1, n1, wi, wn, e1, pw]
        · unfold gX4_takeNumber
          simp (disch := omega) only [n_lit, n_of, n_o1, nI_add, pk_mul, nI_ltI, nI_leI, nI_eq, ↓lift_lt, ↓k_mt, ↓k_mp, if_true, if_false, Bool.false_eq_true, Nat.not_lt_zero, Nat.zero_le, Nat.reduceEqDiff, Nat.reduceLeDiff, Nat.reduceLT, k6, ck, n2, z2, e2, n_bl0]
    · right; left
      have wn : gX12_within (nI nm).toInt64 (lN lo) (lN hi) = some (nI 0) := win_n (by omega) (by omega) (fun ⟨p, p1, p2, p3⟩ => by
        have := (nI_eq (by omega) (by omega)).mp p3
        omega)
      obtain ⟨m', c', e1, e2, P⟩ := l_fault (f := 3) (by decide) (by decide) H
      have pw := FAx_w P
      refine ⟨z, by omega, m'.1 10, m', c', ?_, e2, P⟩
      unfold gX12_takes gX12_takes_37 gX12_takes_53
      rw [wi nm n3] at wn
      simp (disch := omega) only [n_lit, n_of, n_o1, nI_add, pk_mul, nI_ltI, nI_leI, nI_eq, ↓lift_lt, ↓k_mt, ↓k_mp, if_true, if_false, Bool.false_eq_true, Nat.not_lt_zero, Nat.zero_le, Nat.reduceEqDiff, Nat.reduceLeDiff, Nat.reduceLT, q23, i1, n1, wi, wn, e1, pw]
  · right; right
    rw [if_neg z] at q23
    have ck := ckd_2 z
    have cb := ckd_b kd
    obtain ⟨m', c', e1, e2, P⟩ := l_fault (f := 2) (by decide) (by decide) H
    have pw := FAx_w P
    refine ⟨m'.1 10, m', c', ?_, ?_, P, fun q => absurd q z⟩
    · unfold gX12_takes gX12_takes_37 gX12_takes_53
      simp (disch := omega) only [n_lit, n_of, n_o1, nI_add, pk_mul, nI_ltI, nI_leI, nI_eq, ↓lift_lt, ↓k_mt, ↓k_mp, if_true, if_false, Bool.false_eq_true, Nat.not_lt_zero, Nat.zero_le, Nat.reduceEqDiff, Nat.reduceLeDiff, Nat.reduceLT, q23, e1, pw]
    · unfold gX4_takeNumber
      simp (disch := omega) only [n_lit, n_of, n_o1, nI_add, pk_mul, nI_ltI, nI_leI, nI_eq, ↓lift_lt, ↓k_mt, ↓k_mp, if_true, if_false, Bool.false_eq_true, Nat.not_lt_zero, Nat.zero_le, Nat.reduceEqDiff, Nat.reduceLeDiff, Nat.reduceLT, k6, ck, e2, n_bl0]
end LIN
