/-! the reference lays all stands that can be -/
def Af (r : Nat) : Bool := (decide (5 ≤ r) && decide (r < 10)) || (decide (13 ≤ r) && decide (r < 17)) || decide (r = 20)
def mfs (m m' : Mu) : Prop := (∀ r, ¬ r = 33 → ¬ r = 21 → m'.1 r = m.1 r) ∧ m'.2.2 = m.2.2 ∧ ∀ r, Af r = false → m'.2.1 r = m.2.1 r
theorem mfs_rfl (m : Mu) : mfs m m := ⟨fun _ _ _ => rfl, rfl, fun _ _ => rfl⟩
theorem mfs_tr {m m' m'' : Mu} (h : mfs m m') (h' : mfs m' m'') : mfs m m'' := ⟨fun r a b => (h'.1 r a b).trans (h.1 r a b), h'.2.1.trans h.2.1, fun r a => (h'.2.2 r a).trans (h.2.2 r a)⟩
theorem mfs_kp {m m' : Mu} (h : mfs m m') : kpM m m' := ⟨h.2.2 1 rfl, h.2.2 2 rfl, h.2.2 3 rfl, h.2.2 21 rfl, h.2.2 22 rfl, by rw [h.2.1], h.1 5 (by decide) (by decide), h.1 13 (by decide) (by decide), h.1 14 (by decide) (by decide)⟩
theorem mfs_S {m m' : Mu} {r i : Nat} {y : Int32} (h : mfs m m') (hr : Af r = true) : mfs m (mS m' r i y) := ⟨h.1, h.2.1, fun z hz => by rw [mS_ne _ _ _ (fun e => by rw [e, hr] at hz; cases hz)]; exact h.2.2 z hz⟩
theorem mfs_33 {m m' : Mu} {y : Int32} (h : mfs m m') : mfs m (mI m' 33 y) := ⟨fun z a b => by rw [mI_f, if_neg a]; exact h.1 z a b, h.2.1, h.2.2⟩
section STD
variable {v : Cv} {s : St} {m m0 : Mu} {s0 : Nat} {q D W : Nat → Nat} {n hd k : Nat}
/-- what the reference reads as it lays them -/
def MBx (m0 : Mu) (v : Cv) (s : St) (m : Mu) : Prop := RD m v s ∧ tabs v s.2.1 m ∧ m.1 21 = nI (nL v) ∧ (∀ i, i < nL v → m.2.1 9 i = nI (ld v i)) ∧ mfs m0 m
theorem MBx_S {r i : Nat} {y : Int32} (H : MBx m0 v s m) (hr : 13 ≤ r ∧ r < 17) : MBx m0 v s (mS m r i y) := by
  obtain ⟨h1, h2, h3, h4, h5⟩ := H
  have ne : ∀ z, z < 13 → (mS m r i y).2.1 z = m.2.1 z := fun z hz => mS_ne _ _ _ (by omega)
  have ar : Af r = true := by
    have : r = 13 ∨ r = 14 ∨ r = 15 ∨ r = 16 := by omega
    rcases this with e | e | e | e <;> subst e <;> rfl
  refine ⟨?_, ?_, h3, by rw [ne 9 (by decide)]; exact h4, mfs_S h5 ar⟩
  · unfold RD at *
    rw [ne 1 (by decide)]
    exact h1
  · unfold tabs at *
    rw [ne 7 (by decide), ne 8 (by decide)]
    exact h2
theorem MBx_33 {y : Int32} (H : MBx m0 v s m) : MBx m0 v s (mI m 33 y) := ⟨H.1, H.2.1, by rw [mI_f, if_neg (by decide)]; exact H.2.2.1, H.2.2.2.1, mfs_33 H.2.2.2.2⟩
/-- stands laid so far -/
def QMx (v : Cv) (ch : Nat) (m : Mu) (s0 : Nat) (q D W : Nat → Nat) (n hd k : Nat) : Prop := Bq (nxt v ch) (nL v) s0 q D W n hd k ∧ k ≤ nL v ∧ n ≤ 20000 ∧ m.1 33 = nI n ∧ (∀ i, i < n → q i < 20000 ∧ q i % 10000 < 10 ^ vP v ∧ m.2.1 13 i = nI (q i)) ∧
  (∀ t, t < 20000 → (m.2.1 16 t = nI 1 ∧ ∃ i, i < n ∧ q i = t) ∨ (m.2.1 16 t = nI 0 ∧ ∀ i, i < n → q i ≠ t)) ∧
  (∀ i kk, i < n → kk < nL v → (i < hd ∨ (i = hd ∧ kk < k)) → m.2.1 14 (35 * q i + kk) = nI (nxt v ch kk (q i)))
theorem ls_turn (F : MBx m0 v s m) (H : QMx v s.2.1 m s0 q D W n hd k) (hh : hd < n) (hk : k < nL v) :
    ∃ m' q' D' W' n', gX12_laysStands_55b m (nI 0) (nI hd) (nI k) = some (.inl (nI (k + 1), m')) ∧ MBx m0 v s m' ∧ QMx v s.2.1 m' s0 q' D' W' n' hd (k + 1) ∧ hd < n' := by
  have hW := F.1.2.2.1
  have hP := hW.1
  obtain ⟨hL0, hL⟩ := nL_b hW
  obtain ⟨hB, hkL, hn, x33, xq, x16, x14⟩ := H
  obtain ⟨o1, o2, o3⟩ := xq hd hh
  have ok := Yr_ok hP o1 o2 s.2.1 (ld v k) 0
  have k1 : ¬ nL v ≤ k := by omega
  have hld := (ld_isL hk).2
  have yb := q_yearBy (m := m) (v := v) (ch := s.2.1) (s := q hd) (l := ld v k) (dry := 0) hP F.1.1.2.1 F.2.1 o1 (by omega) (by decide)
  obtain ⟨t, et⟩ : ∃ t, t = nxt v s.2.1 k (q hd) := ⟨_, rfl⟩
  have yb : gX12_yearBy m (nI (q hd)) (nI (ld v k)) (nI 0) = some (nI t) := by rw [et]; exact yb
  have t1 : t < 20000 := by rw [et]; exact ok.1
  have t2 : t % 10000 < 10 ^ vP v := by rw [et]; exact ok.2
  obtain ⟨m1, em1⟩ : ∃ m1, m1 = mS m 14 (35 * q hd + k) (nI t) := ⟨_, rfl⟩
  have F1 : MBx m0 v s m1 := by rw [em1]; exact MBx_S F (by omega)
  have ne1 : ∀ r, ¬ r = 14 → m1.2.1 r = m.2.1 r := fun r hr => by rw [em1]; exact mS_ne _ _ _ hr
  have v13 : m1.2.1 13 hd = nI (q hd) := by rw [ne1 13 (by decide)]; exact o3
  have v14 : m1.2.1 14 (35 * q hd + k) = nI t := by rw [em1, mS_a, if_pos rfl, if_pos rfl]
  have ew : mW m 14 (nI (35 * q hd + k)) (nI t) = some m1 := by rw [em1]; exact mW_14 m (nI t) (by omega)
  have y14 : ∀ i kk, i < n → kk < nL v → (i < hd ∨ (i = hd ∧ kk < k + 1)) → m1.2.1 14 (35 * q i + kk) = nI (nxt v s.2.1 kk (q i)) := by
    intro i kk hi hkk hc
    rw [em1, mS_a, if_pos rfl]
    by_cases z : 35 * q i + kk = 35 * q hd + k
    · have z1 : kk = k := by omega
      have z2 : q i = q hd := by omega
      rw [if_pos z, z1, z2, et]
    · rw [if_neg z]
      refine x14 i kk hi hkk ?_
      by_cases z3 : i = hd
      · subst z3
        exact Or.inr ⟨rfl, by omega⟩
      · exact Or.inl (by omega)
  unfold gX12_laysStands_55b gX12_laysStands_141 gX12_adds
  rcases x16 t t1 with ⟨u1, j, j1, j2⟩ | ⟨u1, u2⟩
  · have u16 : m1.2.1 16 t = nI 1 := by rw [ne1 16 (by decide)]; exact u1
    have i1 : ¬ (1 = 0) := by decide
    refine ⟨m1, q, D, W, n, ?_, F1, ⟨Bq_old hL hB hh hk j1 (by rw [j2, et]), by omega, hn, by rw [em1]; exact x33, fun i hi => by rw [ne1 13 (by decide)]; exact xq i hi, by rw [ne1 16 (by decide)]; exact x16, y14⟩, hh⟩
    simp (disch := omega) only [n_lit, n_of, n_o1, nI_add, pk_mul, nI_ltI, nI_leI, nI_eq, ↓lift_lt, ↓k_mt, ↓k_mp, if_true, if_false, Bool.false_eq_true, Nat.not_lt_zero, Nat.zero_le, Nat.reduceEqDiff, Nat.reduceLeDiff, Nat.reduceLT, F.2.2.1, k1, mA_13, o3, mA_9, F.2.2.2.1 k hk, yb, ew, v13, mA_14, v14, mA_16, u16, i1]
  · have hf : q hd < 10000 := by
      apply Classical.byContradiction
      intro hq
      exact u2 hd hh (by rw [et]; exact (nxt_ab v s.2.1 k (q hd) (by omega)).symm)
    have B' := Bq_new hL hB hh hk hf (by rw [← et]; exact u2)
    rw [← et] at B'
    have n1 : n + 1 ≤ 20000 := inj_le (f := fun i => if i = n then t else q i) (fun i j hij hj => B'.2.2.2.2.2.2.2 i j hij hj) (fun i hi => by
      show (if i = n then t else q i) < 20000
      by_cases z : i = n
      · rw [if_pos z]; exact t1
      · rw [if_neg z]; exact (xq i (by omega)).1)
    have lo : ∀ i, i < n → ¬ i = n := fun i hi => by omega
    obtain ⟨m4, em4⟩ : ∃ m4, m4 = mI (mS (mS m1 16 t (nI 1)) 13 n (nI t)) 33 (nI (n + 1)) := ⟨_, rfl⟩
    have u16 : m1.2.1 16 t = nI 0 := by rw [ne1 16 (by decide)]; exact u1
    have w33 : (mS m1 16 t (nI 1)).1 33 = nI n := by rw [mS_f, em1]; exact x33
    have w33' : (mS (mS m1 16 t (nI 1)) 13 n (nI t)).1 33 = nI n := by rw [mS_f]; exact w33
    have nn : n < 20001 := by omega
    refine ⟨m4, _, _, _, n + 1, ?_, by rw [em4]; exact MBx_33 (MBx_S (MBx_S F1 (by omega)) (by omega)), ⟨B', by omega, n1, by rw [em4, mI_f, if_pos rfl], fun i hi => ?_, fun u hu => ?_, fun i kk hi hkk hc => ?_⟩, by omega⟩
    · rw [em4]
      simp (disch := omega) only [n_lit, n_of, n_o1, nI_add, pk_mul, nI_ltI, nI_leI, nI_eq, ↓lift_lt, ↓k_mt, ↓k_mp, if_true, if_false, Bool.false_eq_true, Nat.not_lt_zero, Nat.zero_le, Nat.reduceEqDiff, Nat.reduceLeDiff, Nat.reduceLT, F.2.2.1, k1, mA_13, o3, mA_9, F.2.2.2.1 k hk, yb, ew, v13, mA_14, v14, mA_16, u16, mW_16_1, w33, mW_13, w33']
    · show (if i = n then t else q i) < 20000 ∧ (if i = n then t else q i) % 10000 < 10 ^ vP v ∧ m4.2.1 13 i = nI (if i = n then t else q i)
      rw [em4, mI_a, mS_a, if_pos rfl]
      by_cases z : i = n
      · rw [if_pos z, if_pos z]; exact ⟨t1, t2, rfl⟩
      · rw [if_neg z, if_neg z, mS_ne _ _ _ (by decide), ne1 13 (by decide)]; exact xq i (by omega)
    · show (m4.2.1 16 u = nI 1 ∧ ∃ i, i < n + 1 ∧ (if i = n then t else q i) = u) ∨ (m4.2.1 16 u = nI 0 ∧ ∀ i, i < n + 1 → (if i = n then t else q i) ≠ u)
      rw [em4, mI_a, mS_ne _ _ _ (by decide), mS_a, if_pos rfl]
      by_cases z : u = t
      · rw [if_pos z]
        exact Or.inl ⟨rfl, n, by omega, by rw [if_pos rfl, z]⟩
      · rw [if_neg z, ne1 16 (by decide)]
        rcases x16 u hu with ⟨r1, i, r2, r3⟩ | ⟨r1, r2⟩
        · exact Or.inl ⟨r1, i, by omega, by rw [if_neg (lo i r2)]; exact r3⟩
        · refine Or.inr ⟨r1, fun i hi => ?_⟩
          by_cases zz : i = n
          · rw [if_pos zz]; exact fun w => z w.symm
          · rw [if_neg zz]; exact r2 i (by omega)
    · show m4.2.1 14 (35 * (if i = n then t else q i) + kk) = nI (nxt v s.2.1 kk (if i = n then t else q i))
      have z : ¬ i = n := by omega
      rw [if_neg z, em4, mI_a, mS_ne _ _ _ (by decide), mS_ne _ _ _ (by decide)]
      exact y14 i kk (by omega) hkk hc
/-- all stands are laid -/
def ALL (v : Cv) (s : St) (m : Mu) (q D W : Nat → Nat) (n : Nat) : Prop := QMx v s.2.1 m s.1 q D W n n 0
theorem q_laysStands (H : RD m v s) : ∃ m' q D W n, gX12_laysStands m (nI 0) = some m' ∧ MBx m v s m' ∧ ALL v s m' q D W n := by
  have hW := H.2.2.1
  have hP := hW.1
  have hs := H.2.2.2
  obtain ⟨hL0, hL⟩ := nL_b hW
  obtain ⟨m1, e1, f1, T1⟩ := q_laysTables (m := m) (v := v) (ch := s.2.1) H.2.2.1 H.1 (fun p hp => by rw [show 19 + p = 15 + (4 + p) by omega]; exact H.2.1.2.1 p hp)
  have r1 : m1.2.1 1 = m.2.1 1 := f1.2.2 1 rfl
  obtain ⟨m2, e2, l1, l2, l3, l4, l5⟩ := q_laysLeads (m := m1) hW (by rw [r1]; exact H.1.2.1) (by rw [r1]; exact H.1.2.2.1)
  have F2 : MBx m v s m2 := by
    refine ⟨?_, ?_, l1, l2, fun r a b => by rw [l3 r b, f1.1], by rw [l5, f1.2.1], fun r hr => ?_⟩
    · unfold RD at *
      rw [l4 1 (by decide), r1]
      exact H
    · unfold tabs at *
      rw [l4 7 (by decide), l4 8 (by decide)]
      exact T1
    · rw [l4 r (fun e => by rw [e] at hr; cases hr), f1.2.2 r (by
        unfold Af at hr
        unfold Ar58
        simp only [Bool.or_eq_false_iff, Bool.and_eq_false_iff, decide_eq_false_iff_not] at hr ⊢
        omega)]
  -- none is known
  have K0 : ∃ m3, MBx m v s m3 ∧ (∀ t, t < 20000 → m3.2.1 16 t = nI 0) ∧ gX12_laysStands_10 m2 (nI 0) (nI 0) = gX12_laysStands_30 m3 (nI 0) := by
    have key : ∀ j, j ≤ 20000 → ∃ m3, MBx m v s m3 ∧ (∀ t, t < j → m3.2.1 16 t = nI 0) ∧ gX12_laysStands_10 m2 (nI 0) (nI 0) = gX12_laysStands_10 m3 (nI 0) (nI j) := by
      intro j
      induction j with
      | zero => intro _; exact ⟨m2, F2, fun t ht => by omega, rfl⟩
      | succ j ih =>
        intro hj
        obtain ⟨m3, q1, q2, q3⟩ := ih (by omega)
        refine ⟨mS m3 16 j (nI 0), MBx_S q1 (by omega), fun t ht => ?_, ?_⟩
        · rw [mS_a, if_pos rfl]
          by_cases e : t = j
          · rw [if_pos e]
          · rw [if_neg e]; exact q2 t (by omega)
        · rw [q3]
          have j1 : ¬ 20000 ≤ j := by omega
          have eb : gX12_laysStands_10b m3 (nI 0) (nI j) = some (.inl (nI (j + 1), mS m3 16 j (nI 0))) := by
            unfold gX12_laysStands_10b
            simp (disch := omega) only [n_lit, n_of, n_o1, nI_add, pk_mul, nI_ltI, nI_leI, nI_eq, ↓lift_lt, ↓k_mt, ↓k_mp, if_true, if_false, Bool.false_eq_true, Nat.not_lt_zero, Nat.zero_le, Nat.reduceEqDiff, Nat.reduceLeDiff, Nat.reduceLT, j1, mW_16_0]
          unfold gX12_laysStands_10
          exact lpw_l eb
    obtain ⟨m3, q1, q2, q3⟩ := key 20000 (Nat.le_refl _)
    refine ⟨m3, q1, q2, ?_⟩
    rw [q3]
    have eb : gX12_laysStands_10b m3 (nI 0) (nI 20000) = (gX12_laysStands_30 m3 (nI 0)).map (fun q => .inr q) := by
      unfold gX12_laysStands_10b
      simp (disch := omega) only [n_lit, n_of, n_o1, nI_add, pk_mul, nI_ltI, nI_leI, nI_eq, ↓lift_lt, ↓k_mt, ↓k_mp, if_true, if_false, Bool.false_eq_true, Nat.not_lt_zero, Nat.zero_le, Nat.reduceEqDiff, Nat.reduceLeDiff, Nat.reduceLT, Nat.le_refl]
    unfold gX12_laysStands_10
    exact lpw_m eb
  obtain ⟨m3, F3, z3, e3⟩ := K0
  -- the first one
  obtain ⟨m5, em5⟩ : ∃ m5, m5 = mI (mS (mS (mI m3 33 (nI 0)) 16 s.1 (nI 1)) 13 0 (nI s.1)) 33 (nI (0 + 1)) := ⟨_, rfl⟩
  have F5 : MBx m v s m5 := by rw [em5]; exact MBx_33 (MBx_S (MBx_S (MBx_33 F3) (by omega)) (by omega))
  have hs1 : s.1 < 20000 := hs.1
  have ea : gX12_adds (mI m3 33 (nI 0)) (nI s.1) = some m5 := by
    have u : (mI m3 33 (nI 0)).2.1 16 s.1 = nI 0 := by rw [mI_a]; exact z3 _ hs1
    have w1 : (mS (mI m3 33 (nI 0)) 16 s.1 (nI 1)).1 33 = nI 0 := by rw [mS_f, mI_f, if_pos rfl]
    have w2 : (mS (mS (mI m3 33 (nI 0)) 16 s.1 (nI 1)) 13 0 (nI s.1)).1 33 = nI 0 := by rw [mS_f]; exact w1
    rw [em5]
    unfold gX12_adds
    simp (disch := omega) only [n_lit, n_of, n_o1, nI_add, pk_mul, nI_ltI, nI_leI, nI_eq, ↓lift_lt, ↓k_mt, ↓k_mp, if_true, if_false, Bool.false_eq_true, Nat.not_lt_zero, Nat.zero_le, Nat.reduceEqDiff, Nat.reduceLeDiff, Nat.reduceLT, mA_16, u, mW_16_1, w1, mW_13, w2]
  have Q5 : QMx v s.2.1 m5 s.1 (fun _ => s.1) (fun _ => 0) (fun _ => 0) 1 0 0 := by
    rw [em5]
    refine ⟨Bq_start _ _ _ rfl rfl rfl, Nat.zero_le _, by decide, by rw [mI_f, if_pos rfl], fun i hi => ⟨hs.1, hs.2.1, ?_⟩, fun t ht => ?_, fun i kk hi hkk hc => by omega⟩
    · rw [mI_a, mS_a, if_pos rfl, if_pos (by omega)]
    · rw [mI_a, mS_ne _ _ _ (by decide), mS_a, if_pos rfl]
      by_cases z : t = s.1
      · rw [if_pos z]
        exact Or.inl ⟨rfl, 0, by decide, z.symm⟩
      · rw [if_neg z, mI_a]
        exact Or.inr ⟨z3 t ht, fun i _ => fun w => z w.symm⟩
  have K := lpw_inv (body := fun z : Int32 × Mu => gX12_laysStands_45b z.2 (nI 0) z.1)
    (fun hd z => z.1 = nI hd ∧ MBx m v s z.2 ∧ ∃ q D W n, QMx v s.2.1 z.2 s.1 q D W n hd 0 ∧ hd ≤ n)
    (fun r => MBx m v s r ∧ ∃ q D W n, ALL v s r q D W n) 20000 ?_ ?_ (nI 0, m5) ⟨rfl, F5, _, _, _, 1, Q5, Nat.zero_le _⟩
  · obtain ⟨r, e, F, q, D, W, n, A⟩ := K
    refine ⟨r, q, D, W, n, ?_, F, A⟩
    have e45 : gX12_laysStands_45 m5 (nI 0) (nI 0) = some r := e
    have e30 : gX12_laysStands_30 m3 (nI 0) = some r := by
      have nw := q_nowD (MBx_33 (y := nI 0) F3).1
      unfold gX12_laysStands_30
      simp (disch := omega) only [n_lit, n_of, n_o1, nI_add, pk_mul, nI_ltI, nI_leI, nI_eq, ↓lift_lt, ↓k_mt, ↓k_mp, if_true, if_false, Bool.false_eq_true, Nat.not_lt_zero, Nat.zero_le, Nat.reduceEqDiff, Nat.reduceLeDiff, Nat.reduceLT, nw, ea, e45]
    unfold gX12_laysStands
    rw [e30] at e3
    simp (disch := omega) only [n_lit, n_of, n_o1, nI_add, pk_mul, nI_ltI, nI_leI, nI_eq, ↓lift_lt, ↓k_mt, ↓k_mp, if_true, if_false, Bool.false_eq_true, Nat.not_lt_zero, Nat.zero_le, Nat.reduceEqDiff, Nat.reduceLeDiff, Nat.reduceLT, e1, e2, e3]
  · rintro hd ⟨z1, z2⟩ hk ⟨g1, g2, q, D, W, n, g3, g4⟩
    have g1 : z1 = nI hd := g1
    subst g1
    have g2 : MBx m v s z2 := g2
    have g3 : QMx v s.2.1 z2 s.1 q D W n hd 0 := g3
    have hn := g3.2.2.1
    have x33 := g3.2.2.2.1
    show (∃ s', gX12_laysStands_45b z2 (nI 0) (nI hd) = some (.inl s') ∧ _) ∨ (∃ r, gX12_laysStands_45b z2 (nI 0) (nI hd) = some (.inr r) ∧ _)
    by_cases zn : n ≤ hd
    · have e : hd = n := by omega
      subst e
      refine Or.inr ⟨z2, ?_, g2, q, D, W, hd, g3⟩
      unfold gX12_laysStands_45b
      simp (disch := omega) only [n_lit, n_of, n_o1, nI_add, pk_mul, nI_ltI, nI_leI, nI_eq, ↓lift_lt, ↓k_mt, ↓k_mp, if_true, if_false, Bool.false_eq_true, Nat.not_lt_zero, Nat.zero_le, Nat.reduceEqDiff, Nat.reduceLeDiff, Nat.reduceLT, x33, Nat.le_refl]
    · have J := lpw_all (body := fun z : Int32 × Mu => gX12_laysStands_55b z.2 (nI 0) (nI hd) z.1)
        (fun k z => z.1 = nI k ∧ MBx m v s z.2 ∧ ∃ q D W n, QMx v s.2.1 z.2 s.1 q D W n hd k ∧ hd < n)
        (fun r => ∃ m' q D W n, r = .inl (nI (hd + 1), m') ∧ MBx m v s m' ∧ QMx v s.2.1 m' s.1 q D W n (hd + 1) 0 ∧ hd < n) (nL v) ?_ ?_ (nI 0, z2) ⟨rfl, g2, q, D, W, n, g3, by omega⟩
      · obtain ⟨r, er, m', q', D', W', n', a1, a2, a3, a4⟩ := J
        refine Or.inl ⟨(nI (hd + 1), m'), ?_, rfl, a2, q', D', W', n', a3, a4⟩
        have e55 : gX12_laysStands_55 z2 (nI 0) (nI hd) (nI 0) = some r := er
        unfold gX12_laysStands_45b
        simp (disch := omega) only [n_lit, n_of, n_o1, nI_add, pk_mul, nI_ltI, nI_leI, nI_eq, ↓lift_lt, ↓k_mt, ↓k_mp, if_true, if_false, Bool.false_eq_true, Nat.not_lt_zero, Nat.zero_le, Nat.reduceEqDiff, Nat.reduceLeDiff, Nat.reduceLT, x33, zn, e55, a1]
      · rintro k ⟨y1, y2⟩ hk' ⟨b1, b2, q', D', W', n', b3, b4⟩
        have b1 : y1 = nI k := b1
        subst b1
        obtain ⟨m', q2, D2, W2, n2, e, c1, c2, c3⟩ := ls_turn (m := y2) b2 b3 b4 hk'
        exact ⟨_, e, rfl, c1, q2, D2, W2, n2, c2, c3⟩
      · rintro ⟨y1, y2⟩ ⟨b1, b2, q', D', W', n', b3, b4⟩
        have b1 : y1 = nI (nL v) := b1
        subst b1
        have b2 : MBx m v s y2 := b2
        have b3 : QMx v s.2.1 y2 s.1 q' D' W' n' hd (nL v) := b3
        show ∃ r, gX12_laysStands_55b y2 (nI 0) (nI hd) (nI (nL v)) = some (.inr r) ∧ _
        refine ⟨.inl (nI (hd + 1), y2), ?_, y2, q', D', W', n', rfl, b2, ⟨Bq_next b3.1 (Or.inl rfl), Nat.zero_le _, b3.2.2.1, b3.2.2.2.1, b3.2.2.2.2.1, b3.2.2.2.2.2.1, fun i kk hi hkk hc => ?_⟩, b4⟩
        · unfold gX12_laysStands_55b gX12_laysStands_147
          simp (disch := omega) only [n_lit, n_of, n_o1, nI_add, pk_mul, nI_ltI, nI_leI, nI_eq, ↓lift_lt, ↓k_mt, ↓k_mp, if_true, if_false, Bool.false_eq_true, Nat.not_lt_zero, Nat.zero_le, Nat.reduceEqDiff, Nat.reduceLeDiff, Nat.reduceLT, b2.2.2.1, Nat.le_refl, Option.map_some]
        · refine b3.2.2.2.2.2.2 i kk hi hkk ?_
          by_cases z : i = hd
          · exact Or.inr ⟨z, hkk⟩
          · exact Or.inl (by omega)
  · rintro ⟨z1, z2⟩ ⟨g1, g2, q, D, W, n, g3, g4⟩
    have g1 : z1 = nI 20000 := g1
    subst g1
    have g3 : QMx v s.2.1 z2 s.1 q D W n 20000 0 := g3
    have hn := g3.2.2.1
    have e : n = 20000 := by omega
    subst e
    have x33 := g3.2.2.2.1
    show ∃ r, gX12_laysStands_45b z2 (nI 0) (nI 20000) = some (.inr r) ∧ _
    refine ⟨z2, ?_, g2, q, D, W, 20000, g3⟩
    unfold gX12_laysStands_45b
    simp (disch := omega) only [n_lit, n_of, n_o1, nI_add, pk_mul, nI_ltI, nI_leI, nI_eq, ↓lift_lt, ↓k_mt, ↓k_mp, if_true, if_false, Bool.false_eq_true, Nat.not_lt_zero, Nat.zero_le, Nat.reduceEqDiff, Nat.reduceLeDiff, Nat.reduceLT, x33, Nat.le_refl]
end STD
