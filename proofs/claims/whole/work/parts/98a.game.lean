/-! what a guide can force: within n years, whatever the lamp does -/
section GAMEA
variable {nx nd : Nat → Nat → Nat} {L : Nat} {gp : Nat → Nat}
def Fcd (nx nd : Nat → Nat → Nat) (L : Nat) (gp : Nat → Nat) : Nat → Nat → Prop
  | 0, s => gp s = 0
  | n + 1, s => gp s = 0 ∨ ∃ k, k < L ∧ Fcd nx nd L gp n (nx k s) ∧ Fcd nx nd L gp n (nd k s)
theorem Fcd_0 {s : Nat} (h : gp s = 0) : ∀ n, Fcd nx nd L gp n s
  | 0 => h
  | _ + 1 => Or.inl h
theorem Fcd_up : ∀ {n s : Nat}, Fcd nx nd L gp n s → Fcd nx nd L gp (n + 1) s
  | 0, s, h => Or.inl h
  | n + 1, s, h => by
    rcases h with h | ⟨k, k1, k2, k3⟩
    · exact Or.inl h
    · exact Or.inr ⟨k, k1, Fcd_up k2, Fcd_up k3⟩
theorem Fcd_le {n m s : Nat} (h : n ≤ m) (H : Fcd nx nd L gp n s) : Fcd nx nd L gp m s := by
  obtain ⟨d, rfl⟩ : ∃ d, m = n + d := ⟨m - n, by omega⟩
  clear h
  induction d with
  | zero => exact H
  | succ d ih => exact Fcd_up ih
/-- the least such number of years -/
def Fst (nx nd : Nat → Nat → Nat) (L : Nat) (gp : Nat → Nat) (n s : Nat) : Prop := Fcd nx nd L gp n s ∧ ∀ e, e < n → ¬ Fcd nx nd L gp e s
theorem Fst_one {n m s : Nat} (h : Fst nx nd L gp n s) (h' : Fst nx nd L gp m s) : n = m := by
  rcases Nat.lt_trichotomy n m with c | c | c
  · exact absurd h.1 (h'.2 n c)
  · exact c
  · exact absurd h'.1 (h.2 m c)
end GAMEA
/-! the reference lays all stands, of wet and of dry years -/
section GAMER
variable {v : Cv} {s : St} {m m0 : Mu} {q F : Nat → Nat} {n hd k p : Nat}
theorem MBx_20 {i : Nat} {y : Int32} (H : MBx m0 v s m) : MBx m0 v s (mS m 20 i y) := by
  obtain ⟨h1, h2, h3, h4, h5⟩ := H
  have ne : ∀ z, z < 13 → (mS m 20 i y).2.1 z = m.2.1 z := fun z hz => mS_ne _ _ _ (by omega)
  refine ⟨?_, ?_, h3, by rw [ne 9 (by decide)]; exact h4, mfs_S h5 rfl⟩
  · unfold RD at *
    rw [ne 1 (by decide)]
    exact h1
  · unfold tabs at *
    rw [ne 7 (by decide), ne 8 (by decide)]
    exact h2
def QSx (m : Mu) (q : Nat → Nat) (n : Nat) : Prop := n ≤ 20000 ∧ m.1 33 = nI n ∧ (∀ i, i < n → q i < 20000 ∧ m.2.1 13 i = nI (q i)) ∧ (∀ i j, i < j → j < n → q i ≠ q j) ∧ (∀ t, t < 20000 → (m.2.1 16 t = nI 1 ∧ ∃ i, i < n ∧ q i = t) ∨ (m.2.1 16 t = nI 0 ∧ ∀ i, i < n → q i ≠ t))
theorem q_adds {t : Nat} (B : MBx m0 v s m) (H : QSx m q n) (ht : t < 20000) : ∃ (m' : Mu) (q' : Nat → Nat) (n' : Nat), gX12_adds m (nI t) = some m' ∧ MBx m0 v s m' ∧ QSx m' q' n' ∧ n ≤ n' ∧ (∀ i, i < n → q' i = q i) ∧ (∃ j, j < n' ∧ q' j = t) ∧ m'.2.1 14 = m.2.1 14 := by
  obtain ⟨hn, x33, xq, inj, x16⟩ := H
  unfold gX12_adds
  rcases x16 t ht with ⟨u1, j, j1, j2⟩ | ⟨u1, u2⟩
  · have i1 : ¬ (1 = 0) := by decide
    refine ⟨m, q, n, ?_, B, ⟨hn, x33, xq, inj, x16⟩, Nat.le_refl _, fun _ _ => rfl, ⟨j, j1, j2⟩, rfl⟩
    simp (disch := omega) only [n_lit, n_of, n_o1, nI_add, pk_mul, nI_ltI, nI_leI, nI_eq, ↓lift_lt, ↓k_mt, ↓k_mp, if_true, if_false, Bool.false_eq_true, Nat.not_lt_zero, Nat.zero_le, Nat.reduceEqDiff, Nat.reduceLeDiff, Nat.reduceLT, mA_16, u1, i1]
  · have lo : ∀ i, i < n → ¬ i = n := fun i hi => by omega
    have inj' : ∀ i j, i < j → j < n + 1 → (if i = n then t else q i) ≠ (if j = n then t else q j) := fun i j a b => by
      rw [if_neg (show ¬ i = n by omega)]
      by_cases z : j = n
      · rw [if_pos z]; exact u2 i (by omega)
      · rw [if_neg z]; exact inj i j a (by omega)
    have n1 : n + 1 ≤ 20000 := inj_le (f := fun i => if i = n then t else q i) inj' (fun i hi => by
      show (if i = n then t else q i) < 20000
      by_cases z : i = n
      · rw [if_pos z]; exact ht
      · rw [if_neg z]; exact (xq i (by omega)).1)
    obtain ⟨m4, em4⟩ : ∃ m4, m4 = mI (mS (mS m 16 t (nI 1)) 13 n (nI t)) 33 (nI (n + 1)) := ⟨_, rfl⟩
    have w33 : (mS m 16 t (nI 1)).1 33 = nI n := by rw [mS_f]; exact x33
    have w33' : (mS (mS m 16 t (nI 1)) 13 n (nI t)).1 33 = nI n := by rw [mS_f]; exact w33
    have nn : n < 20001 := by omega
    refine ⟨m4, fun i => if i = n then t else q i, n + 1, ?_, by rw [em4]; exact MBx_33 (MBx_S (MBx_S B (by omega)) (by omega)), ⟨n1, by rw [em4, mI_f, if_pos rfl], fun i hi => ?_, inj', fun u hu => ?_⟩, by omega, fun i hi => if_neg (lo i hi), ⟨n, by omega, if_pos rfl⟩, by rw [em4, mI_a, mS_ne _ _ _ (by decide), mS_ne _ _ _ (by decide)]⟩
    · rw [em4]
      simp (disch := omega) only [n_lit, n_of, n_o1, nI_add, pk_mul, nI_ltI, nI_leI, nI_eq, ↓lift_lt, ↓k_mt, ↓k_mp, if_true, if_false, Bool.false_eq_true, Nat.not_lt_zero, Nat.zero_le, Nat.reduceEqDiff, Nat.reduceLeDiff, Nat.reduceLT, mA_16, u1, mW_16_1, w33, mW_13, w33']
    · show (if i = n then t else q i) < 20000 ∧ m4.2.1 13 i = nI (if i = n then t else q i)
      rw [em4, mI_a, mS_a, if_pos rfl]
      by_cases z : i = n
      · rw [if_pos z, if_pos z]; exact ⟨ht, rfl⟩
      · rw [if_neg z, if_neg z, mS_ne _ _ _ (by decide)]; exact xq i (by omega)
    · show (m4.2.1 16 u = nI 1 ∧ ∃ i, i < n + 1 ∧ (if i = n then t else q i) = u) ∨ (m4.2.1 16 u = nI 0 ∧ ∀ i, i < n + 1 → (if i = n then t else q i) ≠ u)
      rw [em4, mI_a, mS_ne _ _ _ (by decide), mS_a, if_pos rfl]
      by_cases z : u = t
      · rw [if_pos z]
        exact Or.inl ⟨rfl, n, by omega, by rw [if_pos rfl, z]⟩
      · rw [if_neg z]
        rcases x16 u hu with ⟨r1, i, r2, r3⟩ | ⟨r1, r2⟩
        · exact Or.inl ⟨r1, i, by omega, by rw [if_neg (lo i r2)]; exact r3⟩
        · refine Or.inr ⟨r1, fun i hi => ?_⟩
          by_cases zz : i = n
          · rw [if_pos zz]; exact fun w => z w.symm
          · rw [if_neg zz]; exact r2 i (by omega)
/-- what was laid for those before hd, and for hd by its first k leadings -/
def QDx (v : Cv) (ch : Nat) (m : Mu) (s0 : Nat) (q : Nat → Nat) (n hd k : Nat) : Prop := QSx m q n ∧ 0 < n ∧ q 0 = s0 ∧
  ∀ i kk, i < n → kk < nL v → (i < hd ∨ (i = hd ∧ kk < k)) → m.2.1 14 (35 * q i + kk) = nI (nxt v ch kk (q i)) ∧ (∃ j, j < n ∧ q j = nxt v ch kk (q i)) ∧ ∃ j, j < n ∧ q j = nxd v ch kk (q i)
theorem ld_turn {s0 : Nat} (B : MBx m0 v s m) (H : QDx v s.2.1 m s0 q n hd k) (hh : hd < n) (hk : k < nL v) :
    ∃ (m' : Mu) (q' : Nat → Nat) (n' : Nat), gX12_laysStands_55b m (nI 1) (nI hd) (nI k) = some (.inl (nI (k + 1), m')) ∧ MBx m0 v s m' ∧ QDx v s.2.1 m' s0 q' n' hd (k + 1) ∧ hd < n' := by
  have hW := B.1.2.2.1
  have hP := hW.1
  obtain ⟨hL0, hL⟩ := nL_b hW
  obtain ⟨HS, h0, hq0, H14⟩ := H
  obtain ⟨o1, o3⟩ := HS.2.2.1 hd hh
  have hn := HS.1
  have k1 : ¬ nL v ≤ k := by omega
  have hld := (ld_isL hk).2
  have yb := q_yearBy (m := m) (v := v) (ch := s.2.1) (s := q hd) (l := ld v k) (dry := 0) hP B.1.1.2.1 B.2.1 o1 (by omega) (by decide)
  have t1 : nxt v s.2.1 k (q hd) < 20000 := Yr_lt hP o1 _ _ _
  have t2 : nxd v s.2.1 k (q hd) < 20000 := Yr_lt hP o1 _ _ _
  have yb : gX12_yearBy m (nI (q hd)) (nI (ld v k)) (nI 0) = some (nI (nxt v s.2.1 k (q hd))) := yb
  obtain ⟨m1, em1⟩ : ∃ m1, m1 = mS m 14 (35 * q hd + k) (nI (nxt v s.2.1 k (q hd))) := ⟨_, rfl⟩
  have B1 : MBx m0 v s m1 := by rw [em1]; exact MBx_S B (by omega)
  have ne1 : ∀ r, ¬ r = 14 → m1.2.1 r = m.2.1 r := fun r hr => by rw [em1]; exact mS_ne _ _ _ hr
  have S1 : QSx m1 q n := by
    unfold QSx at *
    rw [ne1 13 (by decide), ne1 16 (by decide)]
    rw [show m1.1 = m.1 by rw [em1, mS_f]]
    exact HS
  have v13 : m1.2.1 13 hd = nI (q hd) := by rw [ne1 13 (by decide)]; exact o3
  have v14 : m1.2.1 14 (35 * q hd + k) = nI (nxt v s.2.1 k (q hd)) := by rw [em1, mS_a, if_pos rfl, if_pos rfl]
  have ew : mW m 14 (nI (35 * q hd + k)) (nI (nxt v s.2.1 k (q hd))) = some m1 := by rw [em1]; exact mW_14 m _ (by omega)
  obtain ⟨m2, q2, n2, a1, a2, a3, a4, a5, a6, a7⟩ := q_adds B1 S1 t1
  have e2 : q2 hd = q hd := a5 hd hh
  have v13' : m2.2.1 13 hd = nI (q hd) := by rw [(a3.2.2.1 hd (by omega)).2, e2]
  have yd := q_yearBy (m := m2) (v := v) (ch := s.2.1) (s := q hd) (l := ld v k) (dry := 1) hP a2.1.1.2.1 a2.2.1 o1 (by omega) (by decide)
  have yd : gX12_yearBy m2 (nI (q hd)) (nI (ld v k)) (nI 1) = some (nI (nxd v s.2.1 k (q hd))) := yd
  obtain ⟨m3, q3, n3, b1, b2, b3, b4, b5, b6, b7⟩ := q_adds a2 a3 t2
  have i1 : ¬ (1 = 0) := by decide
  have hn2 := a3.1
  refine ⟨m3, q3, n3, ?_, b2, ⟨b3, by omega, by rw [b5 0 (by omega), a5 0 h0]; exact hq0, fun i kk hi hkk hc => ?_⟩, by omega⟩
  · unfold gX12_laysStands_55b gX12_laysStands_141
    simp (disch := omega) only [n_lit, n_of, n_o1, nI_add, pk_mul, nI_ltI, nI_leI, nI_eq, ↓lift_lt, ↓k_mt, ↓k_mp, if_true, if_false, Bool.false_eq_true, Nat.not_lt_zero, Nat.zero_le, Nat.reduceEqDiff, Nat.reduceLeDiff, Nat.reduceLT, B.2.2.1, k1, mA_13, o3, mA_9, B.2.2.2.1 k hk, yb, ew, v13, mA_14, v14, a1, i1, v13', a2.2.2.2.1 k hk, yd, b1]
  · have hi1 : i < n := by omega
    have eq3 : q3 i = q i := by rw [b5 i (by omega), a5 i hi1]
    have m14 : m3.2.1 14 = m1.2.1 14 := by rw [b7, a7]
    rw [eq3, m14, em1, mS_a, if_pos rfl]
    have up : ∀ {t : Nat}, (∃ j, j < n ∧ q j = t) → ∃ j, j < n3 ∧ q3 j = t := fun ⟨j, j1, j2⟩ => ⟨j, by omega, by rw [b5 j (by omega), a5 j j1]; exact j2⟩
    by_cases z : i = hd ∧ kk = k
    · obtain ⟨rfl, rfl⟩ := z
      rw [if_pos rfl]
      refine ⟨rfl, ?_, b6⟩
      obtain ⟨j, j1, j2⟩ := a6
      exact ⟨j, by omega, by rw [b5 j j1]; exact j2⟩
    · have hc' : i < hd ∨ (i = hd ∧ kk < k) := by omega
      obtain ⟨c1, c2, c3⟩ := H14 i kk hi1 hkk hc'
      have ne : ¬ 35 * q i + kk = 35 * q hd + k := fun w => by
        have w1 : kk = k := by omega
        have w2 : q i = q hd := by omega
        by_cases zi : i = hd
        · exact z ⟨zi, w1⟩
        · exact HS.2.2.2.1 i hd (by omega) hh w2
      rw [if_neg ne]
      exact ⟨c1, up c2, up c3⟩
/-- all are laid -/
def ALd (v : Cv) (s : St) (m : Mu) (q : Nat → Nat) (n : Nat) : Prop := 0 < n ∧ q 0 = s.1 ∧ n ≤ 20000 ∧ m.1 33 = nI n ∧ (∀ i, i < n → q i < 20000 ∧ m.2.1 13 i = nI (q i)) ∧ (∀ i j, i < j → j < n → q i ≠ q j) ∧
  ∀ i kk, i < n → kk < nL v → m.2.1 14 (35 * q i + kk) = nI (nxt v s.2.1 kk (q i)) ∧ (∃ j, j < n ∧ q j = nxt v s.2.1 kk (q i)) ∧ ∃ j, j < n ∧ q j = nxd v s.2.1 kk (q i)
theorem q_laysDry (H : RD m v s) : ∃ (m' : Mu) (q : Nat → Nat) (n : Nat), gX12_laysStands m (nI 1) = some m' ∧ MBx m v s m' ∧ ALd v s m' q n := by
  have hW := H.2.2.1
  have hP := hW.1
  have hs := H.2.2.2
  obtain ⟨hL0, hL⟩ := nL_b hW
  obtain ⟨m1, e1, f1, T1⟩ := q_laysTables (m := m) (v := v) (ch := s.2.1) H.2.2.1 H.1 (fun p hp => by rw [show 19 + p = 15 + (4 + p) by omega]; exact H.2.1.2.1 p hp)
  have r1 : m1.2.1 1 = m.2.1 1 := f1.2.2 1 rfl
  obtain ⟨m2, e2, l1, l2, l3, l4, l5⟩ := q_laysLeads (m := m1) hW (by rw [r1]; exact H.1.2.1) (by rw [r1]; exact H.1.2.2.1)
  have F2 : MBx m v s m2 := by
    refine ⟨?_, ?_, l1, l2, fun r a b => by rw [l3 r b, f1.1], by rw [l5, f1.2.1], fun r hr => ?_⟩
    · unfold RD at *
      rw [l4 1 (by decide), r1]
      exact H
    · unfold tabs at *
      rw [l4 7 (by decide), l4 8 (by decide)]
      exact T1
    · rw [l4 r (fun e => by rw [e] at hr; cases hr), f1.2.2 r (by
        unfold Af at hr
        unfold Ar58
        simp only [Bool.or_eq_false_iff, Bool.and_eq_false_iff, decide_eq_false_iff_not] at hr ⊢
        omega)]
  have K0 : ∃ m3, MBx m v s m3 ∧ (∀ t, t < 20000 → m3.2.1 16 t = nI 0) ∧ gX12_laysStands_10 m2 (nI 1) (nI 0) = gX12_laysStands_30 m3 (nI 1) := by
    have key : ∀ j, j ≤ 20000 → ∃ m3, MBx m v s m3 ∧ (∀ t, t < j → m3.2.1 16 t = nI 0) ∧ gX12_laysStands_10 m2 (nI 1) (nI 0) = gX12_laysStands_10 m3 (nI 1) (nI j) := by
      intro j
      induction j with
      | zero => intro _; exact ⟨m2, F2, fun t ht => by omega, rfl⟩
      | succ j ih =>
        intro hj
        obtain ⟨m3, q1, q2, q3⟩ := ih (by omega)
        refine ⟨mS m3 16 j (nI 0), MBx_S q1 (by omega), fun t ht => ?_, ?_⟩
        · rw [mS_a, if_pos rfl]
          by_cases e : t = j
          · rw [if_pos e]
          · rw [if_neg e]; exact q2 t (by omega)
        · rw [q3]
          have j1 : ¬ 20000 ≤ j := by omega
          have eb : gX12_laysStands_10b m3 (nI 1) (nI j) = some (.inl (nI (j + 1), mS m3 16 j (nI 0))) := by
            unfold gX12_laysStands_10b
            simp (disch := omega) only [n_lit, n_of, n_o1, nI_add, pk_mul, nI_ltI, nI_leI, nI_eq, ↓lift_lt, ↓k_mt, ↓k_mp, if_true, if_false, Bool.false_eq_true, Nat.not_lt_zero, Nat.zero_le, Nat.reduceEqDiff, Nat.reduceLeDiff, Nat.reduceLT, j1, mW_16_0]
          unfold gX12_laysStands_10
          exact lpw_l eb
    obtain ⟨m3, q1, q2, q3⟩ := key 20000 (Nat.le_refl _)
    refine ⟨m3, q1, q2, ?_⟩
    rw [q3]
    have eb : gX12_laysStands_10b m3 (nI 1) (nI 20000) = (gX12_laysStands_30 m3 (nI 1)).map (fun q => .inr q) := by
      unfold gX12_laysStands_10b
      simp (disch := omega) only [n_lit, n_of, n_o1, nI_add, pk_mul, nI_ltI, nI_leI, nI_eq, ↓lift_lt, ↓k_mt, ↓k_mp, if_true, if_false, Bool.false_eq_true, Nat.not_lt_zero, Nat.zero_le, Nat.reduceEqDiff, Nat.reduceLeDiff, Nat.reduceLT, Nat.le_refl]
    unfold gX12_laysStands_10
    exact lpw_m eb
  obtain ⟨m3, F3, z3, e3⟩ := K0
  have S0 : QSx (mI m3 33 (nI 0)) (fun _ => 0) 0 := ⟨by decide, by rw [mI_f, if_pos rfl], fun i hi => by omega, fun i j a b => by omega, fun t ht => Or.inr ⟨by rw [mI_a]; exact z3 t ht, fun i hi => by omega⟩⟩
  obtain ⟨m5, q5, n5, ea, F5, S5, -, -, ⟨j5, j51, j52⟩, -⟩ := q_adds (MBx_33 (y := nI 0) F3) S0 hs.1
  have n51 : n5 = 1 := by
    -- one was added to none
    have x := S5.2.1
    have hs1 := hs.1
    have u : (mI m3 33 (nI 0)).2.1 16 s.1 = nI 0 := by rw [mI_a]; exact z3 _ hs.1
    have w1 : (mS (mI m3 33 (nI 0)) 16 s.1 (nI 1)).1 33 = nI 0 := by rw [mS_f, mI_f, if_pos rfl]
    have w2 : (mS (mS (mI m3 33 (nI 0)) 16 s.1 (nI 1)) 13 0 (nI s.1)).1 33 = nI 0 := by rw [mS_f]; exact w1
    have ea2 : gX12_adds (mI m3 33 (nI 0)) (nI s.1) = some (mI (mS (mS (mI m3 33 (nI 0)) 16 s.1 (nI 1)) 13 0 (nI s.1)) 33 (nI (0 + 1))) := by
      unfold gX12_adds
      simp (disch := omega) only [n_lit, n_of, n_o1, nI_add, pk_mul, nI_ltI, nI_leI, nI_eq, ↓lift_lt, ↓k_mt, ↓k_mp, if_true, if_false, Bool.false_eq_true, Nat.not_lt_zero, Nat.zero_le, Nat.reduceEqDiff, Nat.reduceLeDiff, Nat.reduceLT, mA_16, u, mW_16_1, w1, mW_13, w2]
    rw [ea2] at ea
    rw [← Option.some.inj ea, mI_f, if_pos rfl] at x
    have hn5 := S5.1
    have := (nI_eq (by omega) (by omega)).mp x
    omega
  subst n51
  have j50 : j5 = 0 := by omega
  subst j50
  have D5 : QDx v s.2.1 m5 s.1 q5 1 0 0 := ⟨S5, by decide, j52, fun i kk hi hkk hc => by omega⟩
  have K := lpw_inv (body := fun z : Int32 × Mu => gX12_laysStands_45b z.2 (nI 1) z.1)
    (fun hd z => z.1 = nI hd ∧ MBx m v s z.2 ∧ ∃ (q : Nat → Nat) (n : Nat), QDx v s.2.1 z.2 s.1 q n hd 0 ∧ hd ≤ n)
    (fun r => MBx m v s r ∧ ∃ (q : Nat → Nat) (n : Nat), QDx v s.2.1 r s.1 q n n 0) 20000 ?_ ?_ (nI 0, m5) ⟨rfl, F5, q5, 1, D5, Nat.zero_le _⟩
  · obtain ⟨r, e, B, q, n, A⟩ := K
    refine ⟨r, q, n, ?_, B, A.2.1, A.2.2.1, A.1.1, A.1.2.1, A.1.2.2.1, A.1.2.2.2.1, fun i kk hi hkk => A.2.2.2 i kk hi hkk (Or.inl hi)⟩
    have e45 : gX12_laysStands_45 m5 (nI 1) (nI 0) = some r := e
    have e30 : gX12_laysStands_30 m3 (nI 1) = some r := by
      have nw := q_nowD (MBx_33 (y := nI 0) F3).1
      unfold gX12_laysStands_30
      simp (disch := omega) only [n_lit, n_of, n_o1, nI_add, pk_mul, nI_ltI, nI_leI, nI_eq, ↓lift_lt, ↓k_mt, ↓k_mp, if_true, if_false, Bool.false_eq_true, Nat.not_lt_zero, Nat.zero_le, Nat.reduceEqDiff, Nat.reduceLeDiff, Nat.reduceLT, nw, ea, e45]
    unfold gX12_laysStands
    rw [e30] at e3
    simp (disch := omega) only [n_lit, n_of, n_o1, nI_add, pk_mul, nI_ltI, nI_leI, nI_eq, ↓lift_lt, ↓k_mt, ↓k_mp, if_true, if_false, Bool.false_eq_true, Nat.not_lt_zero, Nat.zero_le, Nat.reduceEqDiff, Nat.reduceLeDiff, Nat.reduceLT, e1, e2, e3]
  · rintro hd ⟨z1, z2⟩ hk ⟨g1, g2o, q, n, g3o, g4⟩
    have g1 : z1 = nI hd := g1
    subst g1
    have g2 : MBx m v s z2 := g2o
    have g3 : QDx v s.2.1 z2 s.1 q n hd 0 := g3o
    have hn := g3.1.1
    have x33 := g3.1.2.1
    show (∃ s', gX12_laysStands_45b z2 (nI 1) (nI hd) = some (.inl s') ∧ _) ∨ (∃ r, gX12_laysStands_45b z2 (nI 1) (nI hd) = some (.inr r) ∧ _)
    by_cases zn : n ≤ hd
    · have e : hd = n := by omega
      subst e
      refine Or.inr ⟨z2, ?_, g2, q, hd, g3⟩
      unfold gX12_laysStands_45b
      simp (disch := omega) only [n_lit, n_of, n_o1, nI_add, pk_mul, nI_ltI, nI_leI, nI_eq, ↓lift_lt, ↓k_mt, ↓k_mp, if_true, if_false, Bool.false_eq_true, Nat.not_lt_zero, Nat.zero_le, Nat.reduceEqDiff, Nat.reduceLeDiff, Nat.reduceLT, x33, Nat.le_refl]
    · have J := lpw_all (body := fun z : Int32 × Mu => gX12_laysStands_55b z.2 (nI 1) (nI hd) z.1)
        (fun k z => z.1 = nI k ∧ MBx m v s z.2 ∧ ∃ (q : Nat → Nat) (n : Nat), QDx v s.2.1 z.2 s.1 q n hd k ∧ hd < n)
        (fun r => ∃ (m' : Mu) (q : Nat → Nat) (n : Nat), r = .inl (nI (hd + 1), m') ∧ MBx m v s m' ∧ QDx v s.2.1 m' s.1 q n (hd + 1) 0 ∧ hd < n) (nL v) ?_ ?_ (nI 0, z2) ⟨rfl, g2, q, n, g3, by omega⟩
      · obtain ⟨r, er, m', q', n', a1, a2, a3, a4⟩ := J
        refine Or.inl ⟨(nI (hd + 1), m'), ?_, rfl, a2, q', n', a3, a4⟩
        have e55 : gX12_laysStands_55 z2 (nI 1) (nI hd) (nI 0) = some r := er
        unfold gX12_laysStands_45b
        simp (disch := omega) only [n_lit, n_of, n_o1, nI_add, pk_mul, nI_ltI, nI_leI, nI_eq, ↓lift_lt, ↓k_mt, ↓k_mp, if_true, if_false, Bool.false_eq_true, Nat.not_lt_zero, Nat.zero_le, Nat.reduceEqDiff, Nat.reduceLeDiff, Nat.reduceLT, x33, zn, e55, a1]
      · rintro k ⟨y1, y2⟩ hk' ⟨b1, b2, q', n', b3, b4⟩
        have b1 : y1 = nI k := b1
        subst b1
        obtain ⟨m', q2, n2, e, c1, c2, c3⟩ := ld_turn (m := y2) b2 b3 b4 hk'
        exact ⟨_, e, rfl, c1, q2, n2, c2, c3⟩
      · rintro ⟨y1, y2⟩ ⟨b1, b2, q', n', b3, b4⟩
        have b1 : y1 = nI (nL v) := b1
        subst b1
        have b2 : MBx m v s y2 := b2
        have b3 : QDx v s.2.1 y2 s.1 q' n' hd (nL v) := b3
        show ∃ r, gX12_laysStands_55b y2 (nI 1) (nI hd) (nI (nL v)) = some (.inr r) ∧ _
        refine ⟨.inl (nI (hd + 1), y2), ?_, y2, q', n', rfl, b2, ⟨b3.1, b3.2.1, b3.2.2.1, fun i kk hi hkk hc => b3.2.2.2 i kk hi hkk (by omega)⟩, b4⟩
        unfold gX12_laysStands_55b gX12_laysStands_147
        simp (disch := omega) only [n_lit, n_of, n_o1, nI_add, pk_mul, nI_ltI, nI_leI, nI_eq, ↓lift_lt, ↓k_mt, ↓k_mp, if_true, if_false, Bool.false_eq_true, Nat.not_lt_zero, Nat.zero_le, Nat.reduceEqDiff, Nat.reduceLeDiff, Nat.reduceLT, b2.2.2.1, Nat.le_refl, Option.map_some]
  · rintro ⟨z1, z2⟩ ⟨g1, g2, q, n, g3, g4⟩
    have g1 : z1 = nI 20000 := g1
    subst g1
    have g3 : QDx v s.2.1 z2 s.1 q n 20000 0 := g3
    have hn := g3.1.1
    have e : n = 20000 := by omega
    subst e
    have x33 := g3.1.2.1
    show ∃ r, gX12_laysStands_45b z2 (nI 1) (nI 20000) = some (.inr r) ∧ _
    refine ⟨z2, ?_, g2, q, 20000, g3⟩
    unfold gX12_laysStands_45b
    simp (disch := omega) only [n_lit, n_of, n_o1, nI_add, pk_mul, nI_ltI, nI_leI, nI_eq, ↓lift_lt, ↓k_mt, ↓k_mp, if_true, if_false, Bool.false_eq_true, Nat.not_lt_zero, Nat.zero_le, Nat.reduceEqDiff, Nat.reduceLeDiff, Nat.reduceLT, x33, Nat.le_refl]
end GAMER
