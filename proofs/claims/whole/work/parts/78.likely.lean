/-! the reference's rows of how many, and what they sum up to -/
def jfr (m m' : Mu) : Prop := m'.1 = m.1 ∧ m'.2.1 = m.2.1 ∧ ∀ r, ¬ r = 17 → ¬ r = 18 → m'.2.2 r = m.2.2 r
theorem jfr_rfl (m : Mu) : jfr m m := ⟨rfl, rfl, fun _ _ _ => rfl⟩
theorem jfr_tr {m m' m'' : Mu} (h : jfr m m') (h' : jfr m' m'') : jfr m m'' := ⟨h'.1.trans h.1, h'.2.1.trans h.2.1, fun r a b => (h'.2.2 r a b).trans (h.2.2 r a b)⟩
theorem jfr_J {m m' : Mu} {r i : Nat} {y : Int64} (h : jfr m m') (hr : r = 17 ∨ r = 18) : jfr m (mSJ m' r i y) := ⟨h.1, h.2.1, fun z a b => by rw [mSJ_ne _ _ _ (by omega)]; exact h.2.2 z a b⟩
theorem jfr_kp {m m' : Mu} (h : jfr m m') : kpM m m' := ⟨by rw [h.2.1], by rw [h.2.1], by rw [h.2.1], by rw [h.2.1], by rw [h.2.1], h.2.2 23 (by decide) (by decide), by rw [h.1], by rw [h.1], by rw [h.1]⟩
theorem tabs_j {v : Cv} {ch : Nat} {m m' : Mu} (h : m'.2.1 = m.2.1) (H : tabs v ch m) : tabs v ch m' := by
  unfold tabs at *
  rw [h]
  exact H
theorem RD_j {v : Cv} {s : St} {m m' : Mu} (h : m'.2.1 = m.2.1) (H : RD m v s) : RD m' v s := by
  unfold RD at *
  rw [h]
  exact H
theorem csum_ge {f : Nat → Nat} : ∀ {n i : Nat}, i < n → f i ≤ csum f n
  | n + 1, i, hi => by
    show f i ≤ csum f n + f n
    by_cases e : i = n
    · subst e; omega
    · have := csum_ge (f := f) (n := n) (i := i) (by omega)
      omega
theorem csum_upd {N f : Nat → Nat} {t w : Nat} : ∀ n, csum (fun s => (if s = t then N s + w else N s) * f s) n = csum (fun s => N s * f s) n + (if t < n then w * f t else 0)
  | 0 => rfl
  | n + 1 => by
    show csum (fun s => (if s = t then N s + w else N s) * f s) n + (if n = t then N n + w else N n) * f n = csum (fun s => N s * f s) n + N n * f n + (if t < n + 1 then w * f t else 0)
    rw [csum_upd n]
    by_cases e : n = t
    · subst e
      rw [if_neg (by omega), if_pos rfl, if_pos (by omega), Nat.add_mul]
      omega
    · rw [if_neg e]
      by_cases z : t < n
      · rw [if_pos z, if_pos (by omega)]; omega
      · rw [if_neg z, if_neg (by omega)]; omega
theorem csum_0 : ∀ n, csum (fun _ => 0) n = 0
  | 0 => rfl
  | n + 1 => by
    show csum (fun _ => 0) n + 0 = 0
    rw [csum_0 n]
theorem csum_dl {f : Nat → Nat} {t : Nat} : ∀ n, csum (fun s => (if s = t then 1 else 0) * f s) n = if t < n then f t else 0
  | 0 => rfl
  | n + 1 => by
    show csum (fun s => (if s = t then 1 else 0) * f s) n + (if n = t then 1 else 0) * f n = _
    rw [csum_dl n]
    by_cases e : n = t
    · subst e
      rw [if_neg (by omega), if_pos rfl, if_pos (by omega)]
      omega
    · rw [if_neg e]
      by_cases z : t < n
      · rw [if_pos z, if_pos (by omega)]; omega
      · rw [if_neg z, if_neg (by omega)]; omega
section LK
variable {v : Cv} {s : St} {m : Mu}
theorem q_beginsMany (H : RD m v s) : ∃ m', gX12_beginsMany m = some m' ∧ jfr m m' ∧ ∀ t, t < 20000 → m'.2.2 17 t = lN (if t = s.1 then 1 else 0) ∧ m'.2.2 18 t = lN 0 := by
  have hs := H.2.2.2.1
  unfold gX12_beginsMany gX12_beginsMany_2
  have K := lpw_all (body := fun q : Int32 × Mu => gX12_beginsMany_2b q.2 q.1)
    (fun k q => q.1 = nI k ∧ jfr m q.2 ∧ ∀ t, t < k → q.2.2.2 17 t = lN (if t = s.1 then 1 else 0) ∧ q.2.2.2 18 t = lN 0)
    (fun r => jfr m r ∧ ∀ t, t < 20000 → r.2.2 17 t = lN (if t = s.1 then 1 else 0) ∧ r.2.2 18 t = lN 0) 20000 ?_ ?_ (nI 0, m) ⟨rfl, jfr_rfl m, fun t ht => by omega⟩
  · exact K
  · rintro k ⟨z1, z2⟩ hk ⟨g1, g2, g3⟩
    have g1 : z1 = nI k := g1
    subst g1
    have g2 : jfr m z2 := g2
    have g3 : ∀ t, t < k → z2.2.2 17 t = lN (if t = s.1 then 1 else 0) ∧ z2.2.2 18 t = lN 0 := g3
    have k1 : ¬ 20000 ≤ k := by omega
    have en := q_nowD (RD_j g2.2.1 H)
    show ∃ s', gX12_beginsMany_2b z2 (nI k) = some (.inl s') ∧ _
    refine ⟨(nI (k + 1), mSJ (mSJ z2 17 k (lN (if k = s.1 then 1 else 0))) 18 k (lN 0)), ?_, rfl, jfr_J (jfr_J g2 (by omega)) (by omega), fun t ht => ?_⟩
    · unfold gX12_beginsMany_2b gX12_beginsMany_27
      by_cases z : k = s.1
      · rw [if_pos z]
        simp (disch := omega) only [n_lit, n_of, n_o1, nI_add, pk_mul, nI_ltI, nI_leI, nI_eq, ↓lift_lt, ↓k_mt, ↓k_mp, if_true, if_false, Bool.false_eq_true, Nat.not_lt_zero, Nat.zero_le, Nat.reduceEqDiff, Nat.reduceLeDiff, Nat.reduceLT, n_litL, k1, en, eq_true z, mWJ_17, mWJ_18]
      · rw [if_neg z]
        simp (disch := omega) only [n_lit, n_of, n_o1, nI_add, pk_mul, nI_ltI, nI_leI, nI_eq, ↓lift_lt, ↓k_mt, ↓k_mp, if_true, if_false, Bool.false_eq_true, Nat.not_lt_zero, Nat.zero_le, Nat.reduceEqDiff, Nat.reduceLeDiff, Nat.reduceLT, n_litL, k1, en, z, mWJ_17, mWJ_18]
    · show (mSJ (mSJ z2 17 k (lN (if k = s.1 then 1 else 0))) 18 k (lN 0)).2.2 17 t = _ ∧ (mSJ (mSJ z2 17 k (lN (if k = s.1 then 1 else 0))) 18 k (lN 0)).2.2 18 t = _
      rw [mSJ_j, if_neg (by decide), mSJ_j, if_pos rfl, mSJ_j, if_pos rfl]
      by_cases e : t = k
      · subst e
        rw [if_pos rfl, if_pos rfl]
        exact ⟨rfl, rfl⟩
      · rw [if_neg e, if_neg e, mSJ_j, if_neg (show ¬ (18 : Nat) = 17 by decide)]
        exact g3 t (by omega)
  · rintro ⟨z1, z2⟩ ⟨g1, g2, g3⟩
    have g1 : z1 = nI 20000 := g1
    subst g1
    show ∃ r, gX12_beginsMany_2b z2 (nI 20000) = some (.inr r) ∧ _
    unfold gX12_beginsMany_2b
    refine ⟨z2, ?_, g2, g3⟩
    simp (disch := omega) only [n_lit, n_of, n_o1, nI_add, pk_mul, nI_ltI, nI_leI, nI_eq, ↓lift_lt, ↓k_mt, ↓k_mp, if_true, if_false, Bool.false_eq_true, Nat.not_lt_zero, Nat.zero_le, Nat.reduceEqDiff, Nat.reduceLeDiff, Nat.reduceLT, Nat.le_refl]
theorem q_isThen {N : Nat → Nat} (H : ∀ t, t < 20000 → m.2.2 18 t = lN (N t)) : ∃ m', gX12_isThen m = some m' ∧ jfr m m' ∧ ∀ t, t < 20000 → m'.2.2 17 t = lN (N t) ∧ m'.2.2 18 t = lN 0 := by
  unfold gX12_isThen gX12_isThen_2
  have K := lpw_all (body := fun q : Int32 × Mu => gX12_isThen_2b q.2 q.1)
    (fun k q => q.1 = nI k ∧ jfr m q.2 ∧ ∀ t, t < 20000 → (t < k → q.2.2.2 17 t = lN (N t) ∧ q.2.2.2 18 t = lN 0) ∧ (k ≤ t → q.2.2.2 18 t = lN (N t)))
    (fun r => jfr m r ∧ ∀ t, t < 20000 → r.2.2 17 t = lN (N t) ∧ r.2.2 18 t = lN 0) 20000 ?_ ?_ (nI 0, m) ⟨rfl, jfr_rfl m, fun t ht => ⟨fun q => by omega, fun _ => H t ht⟩⟩
  · exact K
  · rintro k ⟨z1, z2⟩ hk ⟨g1, g2, g3⟩
    have g1 : z1 = nI k := g1
    subst g1
    have g2 : jfr m z2 := g2
    have g3 : ∀ t, t < 20000 → (t < k → z2.2.2 17 t = lN (N t) ∧ z2.2.2 18 t = lN 0) ∧ (k ≤ t → z2.2.2 18 t = lN (N t)) := g3
    have k1 : ¬ 20000 ≤ k := by omega
    have ek := (g3 k hk).2 (Nat.le_refl k)
    show ∃ s', gX12_isThen_2b z2 (nI k) = some (.inl s') ∧ _
    refine ⟨(nI (k + 1), mSJ (mSJ z2 17 k (lN (N k))) 18 k (lN 0)), ?_, rfl, jfr_J (jfr_J g2 (by omega)) (by omega), fun t ht => ?_⟩
    · unfold gX12_isThen_2b
      simp (disch := omega) only [n_lit, n_of, n_o1, nI_add, pk_mul, nI_ltI, nI_leI, nI_eq, ↓lift_lt, ↓k_mt, ↓k_mp, if_true, if_false, Bool.false_eq_true, Nat.not_lt_zero, Nat.zero_le, Nat.reduceEqDiff, Nat.reduceLeDiff, Nat.reduceLT, n_litL, k1, mJ_18, ek, mWJ_17, mWJ_18]
    · show (_ → (mSJ (mSJ z2 17 k (lN (N k))) 18 k (lN 0)).2.2 17 t = _ ∧ (mSJ (mSJ z2 17 k (lN (N k))) 18 k (lN 0)).2.2 18 t = _) ∧ (_ → (mSJ (mSJ z2 17 k (lN (N k))) 18 k (lN 0)).2.2 18 t = _)
      rw [mSJ_j, if_neg (by decide), mSJ_j, if_pos rfl, mSJ_j, if_pos rfl]
      by_cases e : t = k
      · subst e
        rw [if_pos rfl, if_pos rfl]
        exact ⟨fun _ => ⟨rfl, rfl⟩, fun q => by have : t + 1 ≤ t := q; omega⟩
      · rw [if_neg e, if_neg e, mSJ_j, if_neg (show ¬ (18 : Nat) = 17 by decide)]
        exact ⟨fun q => (g3 t ht).1 (by have : t < k + 1 := q; omega), fun q => (g3 t ht).2 (by have : k + 1 ≤ t := q; omega)⟩
  · rintro ⟨z1, z2⟩ ⟨g1, g2, g3⟩
    have g1 : z1 = nI 20000 := g1
    subst g1
    show ∃ r, gX12_isThen_2b z2 (nI 20000) = some (.inr r) ∧ _
    unfold gX12_isThen_2b
    refine ⟨z2, ?_, g2, fun t ht => (g3 t ht).1 ht⟩
    simp (disch := omega) only [n_lit, n_of, n_o1, nI_add, pk_mul, nI_ltI, nI_leI, nI_eq, ↓lift_lt, ↓k_mt, ↓k_mp, if_true, if_false, Bool.false_eq_true, Nat.not_lt_zero, Nat.zero_le, Nat.reduceEqDiff, Nat.reduceLeDiff, Nat.reduceLT, Nat.le_refl]
theorem Yr_lt {v : Cv} (hP : vP v ≤ 4) {s : Nat} (hs : s < 20000) (ch l dry : Nat) : Yr v ch s l dry < 20000 := by
  unfold Yr yr
  by_cases h : 10000 ≤ s
  · rw [if_pos h]; exact hs
  · rw [if_neg h]
    have h1 : yto (grw (vg v) ch) (vP v) s l dry < 10 ^ vP v := cod_lt _ (fun p => ygap_lt _ _ _ _ _ p) _
    have h2 := pow10_le hP
    split
    · omega
    · omega
/-- a year of all of them -/
theorem q_lk20 {M A B : Nat → Nat} {l : Nat} {x1 : Int32} {W y : Nat} (H : RD m v s) (hT : tabs v s.2.1 m) (hl : s.2.2.1 = l) (hl2 : l < 2 ^ 31) (hA : A = fun t => Yr v s.2.1 t l 0) (hB : B = fun t => Yr v s.2.1 t l 1) (hM : ∀ t, t < 20000 → m.2.2 17 t = lN (M t) ∧ m.2.2 18 t = lN 0) (hMb : ∀ t, t < 20000 → M t < 2 ^ 31) :
    ∃ (m' : Mu) (N : Nat → Nat), gX12_laysLikely_20 m x1 (nI W) (nI y) (nI 0) = some (.inl (nI (W * 10), nI (y + 1), m')) ∧ jfr m m' ∧ (∀ t, t < 20000 → m'.2.2 17 t = lN (N t) ∧ m'.2.2 18 t = lN 0) ∧ ∀ f : Nat → Nat, csum (fun t => N t * f t) 20000 = csum (fun t => M t * ((10 - vY v) * f (A t) + vY v * f (B t))) 20000 := by
  have hP := H.2.2.1.1
  have hY := H.2.2.1.2.2.1
  have m1 : m.2.1 1 1 = nI (vP v) := H.1.2.1
  have m4 : m.2.1 1 4 = nI (vY v) := H.1.2.2.2.1
  have m23 : m.2.1 1 23 = nI l := by rw [← hl]; exact H.2.1.2.2.1
  unfold gX12_laysLikely_20
  have K := lpw_all (body := fun q : Int32 × Mu => gX12_laysLikely_20b q.2 x1 (nI W) (nI y) q.1)
    (fun k q => q.1 = nI k ∧ jfr m q.2 ∧ (∀ t, t < 20000 → q.2.2.2 17 t = lN (M t)) ∧ ∃ N : Nat → Nat, (∀ t, t < 20000 → q.2.2.2 18 t = lN (N t)) ∧ ∀ f : Nat → Nat, csum (fun t => N t * f t) 20000 = csum (fun t => M t * ((10 - vY v) * f (A t) + vY v * f (B t))) k)
    (fun r => ∃ (m' : Mu) (N : Nat → Nat), r = .inl (nI (W * 10), nI (y + 1), m') ∧ jfr m m' ∧ (∀ t, t < 20000 → m'.2.2 17 t = lN (N t) ∧ m'.2.2 18 t = lN 0) ∧ ∀ f : Nat → Nat, csum (fun t => N t * f t) 20000 = csum (fun t => M t * ((10 - vY v) * f (A t) + vY v * f (B t))) 20000) 20000 ?_ ?_ (nI 0, m) ⟨rfl, jfr_rfl m, fun t ht => (hM t ht).1, fun _ => 0, fun t ht => (hM t ht).2, fun f => by
      show csum (fun t => 0 * f t) 20000 = 0
      rw [show (fun t => 0 * f t) = fun _ => 0 from funext (fun t => Nat.zero_mul _)]
      exact csum_0 20000⟩
  · obtain ⟨r, e, m', N, er, rest⟩ := K
    exact ⟨m', N, by rw [e, er], rest⟩
  · rintro k ⟨z1, z2⟩ hk ⟨g1, g2, g3, N, g4, g5⟩
    have g1 : z1 = nI k := g1
    subst g1
    have g2 : jfr m z2 := g2
    have g3 : ∀ t, t < 20000 → z2.2.2 17 t = lN (M t) := g3
    have g4 : ∀ t, t < 20000 → z2.2.2 18 t = lN (N t) := g4
    have k1 : ¬ 20000 ≤ k := by omega
    have ek := g3 k hk
    have bk := hMb k hk
    show ∃ s', gX12_laysLikely_20b z2 x1 (nI W) (nI y) (nI k) = some (.inl s') ∧ _
    unfold gX12_laysLikely_20b gX12_laysLikely_120
    by_cases z : M k = 0
    · have g0 : lg_cmp (lN (M k)) (lN 0) = nI 0 := (lg_e' _ _).mpr (by rw [z])
      refine ⟨(nI (k + 1), z2), ?_, rfl, g2, g3, N, g4, fun f => ?_⟩
      · simp (disch := omega) only [n_lit, n_of, n_o1, nI_add, pk_mul, nI_ltI, nI_leI, nI_eq, ↓lift_lt, ↓k_mt, ↓k_mp, if_true, if_false, Bool.false_eq_true, Nat.not_lt_zero, Nat.zero_le, Nat.reduceEqDiff, Nat.reduceLeDiff, Nat.reduceLT, n_litL, k1, mJ_17, ek, g0]
      · show _ = csum (fun t => M t * ((10 - vY v) * f (A t) + vY v * f (B t))) k + M k * ((10 - vY v) * f (A k) + vY v * f (B k))
        rw [g5 f, z, Nat.zero_mul, Nat.add_zero]
    · have g0 : ¬ (lg_cmp (lN (M k)) (lN 0) = nI 0) := fun q => z ((pk_lEQ (by omega) (by omega)).mp ((lg_e' _ _).mp q))
      have lA : A k < 20000 := by rw [hA]; exact Yr_lt hP hk _ _ _
      have lB : B k < 20000 := by rw [hB]; exact Yr_lt hP hk _ _ _
      have eA : Yr v s.2.1 k l 0 = A k := by rw [hA]
      have eB : Yr v s.2.1 k l 1 = B k := by rw [hB]
      have zm : z2.2.1 = m.2.1 := g2.2.1
      have y0 := q_yearBy (m := z2) (s := k) (l := l) (dry := 0) hP (by rw [zm]; exact m1) (tabs_j zm hT) hk hl2 (by decide)
      rw [eA] at y0
      obtain ⟨N1, eN1⟩ : ∃ N1 : Nat → Nat, N1 = fun t => if t = A k then N t + M k * (10 - vY v) else N t := ⟨_, rfl⟩
      obtain ⟨N2, eN2⟩ : ∃ N2 : Nat → Nat, N2 = fun t => if t = B k then N1 t + M k * vY v else N1 t := ⟨_, rfl⟩
      obtain ⟨n1, en1⟩ : ∃ n1, n1 = mSJ z2 18 (A k) (lN (N (A k) + M k * (10 - vY v))) := ⟨_, rfl⟩
      obtain ⟨n2, en2⟩ : ∃ n2, n2 = mSJ n1 18 (B k) (lN (N1 (B k) + M k * vY v)) := ⟨_, rfl⟩
      have h17 : ∀ t, t < 20000 → n1.2.2 17 t = lN (M t) := fun t ht => by rw [en1, mSJ_j, if_neg (by decide)]; exact g3 t ht
      have h18 : ∀ t, t < 20000 → n1.2.2 18 t = lN (N1 t) := fun t ht => by
        rw [en1, mSJ_j, if_pos rfl, eN1]
        show _ = lN (if t = A k then N t + M k * (10 - vY v) else N t)
        by_cases e : t = A k
        · rw [if_pos e, if_pos e, e]
        · rw [if_neg e, if_neg e]; exact g4 t ht
      have nm : n1.2.1 = m.2.1 := by rw [en1, mSJ_a, zm]
      have y1 := q_yearBy (m := n1) (s := k) (l := l) (dry := 1) hP (by rw [nm]; exact m1) (tabs_j nm hT) hk hl2 (by decide)
      rw [eB] at y1
      have a4 : z2.2.1 1 4 = nI (vY v) := by rw [zm]; exact m4
      have a23 : z2.2.1 1 23 = nI l := by rw [zm]; exact m23
      have b4 : n1.2.1 1 4 = nI (vY v) := by rw [nm]; exact m4
      have b23 : n1.2.1 1 23 = nI l := by rw [nm]; exact m23
      have l1 : (nI (10 - vY v)).toInt64 = lN (10 - vY v) := nI_l (by omega)
      have l2 : (nI (vY v)).toInt64 = lN (vY v) := nI_l (by omega)
      have w1 := mWJ_18 z2 (lN (N (A k) + M k * (10 - vY v))) lA
      rw [← en1] at w1
      have w2 := mWJ_18 n1 (lN (N1 (B k) + M k * vY v)) lB
      rw [← en2] at w2
      refine ⟨(nI (k + 1), n2), ?_, rfl, ?_, fun t ht => ?_, N2, fun t ht => ?_, fun f => ?_⟩
      · simp (disch := omega) only [n_lit, n_of, n_o1, nI_add, pk_mul, nI_ltI, nI_leI, nI_eq, ↓lift_lt, ↓k_mt, ↓k_mp, if_true, if_false, Bool.false_eq_true, Nat.not_lt_zero, Nat.zero_le, Nat.reduceEqDiff, Nat.reduceLeDiff, Nat.reduceLT, n_litL, k1, mJ_17, ek, g0, mA_1, a23, a4, y0, mJ_18, g4 _ lA, pk_sub, l1, l2, lN_mul, lN_add, w1, b23, b4, y1, h18 _ lB, h17 _ hk, w2]
      · show jfr m n2
        rw [en2, en1]; exact jfr_J (jfr_J g2 (by omega)) (by omega)
      · show n2.2.2 17 t = _
        rw [en2, mSJ_j, if_neg (by decide)]; exact h17 t ht
      · show n2.2.2 18 t = _
        rw [en2, mSJ_j, if_pos rfl, eN2]
        show _ = lN (if t = B k then N1 t + M k * vY v else N1 t)
        by_cases e : t = B k
        · rw [if_pos e, if_pos e, e]
        · rw [if_neg e, if_neg e]; exact h18 t ht
      · show _ = csum (fun t => M t * ((10 - vY v) * f (A t) + vY v * f (B t))) k + M k * ((10 - vY v) * f (A k) + vY v * f (B k))
        rw [eN2, csum_upd 20000, if_pos lB, eN1, csum_upd 20000, if_pos lA, g5 f, Nat.mul_add, Nat.mul_assoc, Nat.mul_assoc, Nat.add_assoc]
  · rintro ⟨z1, z2⟩ ⟨g1, g2, g3, N, g4, g5⟩
    have g1 : z1 = nI 20000 := g1
    subst g1
    have g4 : ∀ t, t < 20000 → z2.2.2 18 t = lN (N t) := g4
    obtain ⟨m', em, fm, hm⟩ := q_isThen (m := z2) g4
    show ∃ r, gX12_laysLikely_20b z2 x1 (nI W) (nI y) (nI 20000) = some (.inr r) ∧ _
    refine ⟨_, ?_, m', N, rfl, jfr_tr g2 fm, hm, g5⟩
    unfold gX12_laysLikely_20b gX12_laysLikely_126
    simp (disch := omega) only [n_lit, n_of, n_o1, nI_add, pk_mul, nI_ltI, nI_leI, nI_eq, ↓lift_lt, ↓k_mt, ↓k_mp, if_true, if_false, Bool.false_eq_true, Nat.not_lt_zero, Nat.zero_le, Nat.reduceEqDiff, Nat.reduceLeDiff, Nat.reduceLT, Nat.le_refl, em, Option.map_some]
theorem q_laysLikely {A B : Nat → Nat} {n : Nat} (H : RD m v s) (hn : n ≤ 8) (hA : A = fun t => Yr v s.2.1 t s.2.2.1 0) (hB : B = fun t => Yr v s.2.1 t s.2.2.1 1) :
    ∃ (m' : Mu) (M : Nat → Nat), gX12_laysLikely m (nI n) = some (nI (10 ^ n), m') ∧ kpM m m' ∧ (∀ t, t < 20000 → m'.2.2 17 t = lN (M t) ∧ M t < 2 ^ 31) ∧ ∀ f : Nat → Nat, csum (fun t => M t * f t) 20000 = ew A B (vY v) f n s.1 := by
  have hP := H.2.2.1.1
  have hY := H.2.2.1.2.2.1
  have hs := H.2.2.2.1
  have p5 := pow5_le hP
  have hl2 : s.2.2.1 < 2 ^ 31 := by have := H.2.2.2.2.2.2.1; omega
  obtain ⟨m1, e1, f1, T1⟩ := q_laysTables (m := m) (v := v) (ch := s.2.1) H.2.2.1 H.1 (fun p hp => by rw [show 19 + p = 15 + (4 + p) by omega]; exact H.2.1.2.1 p hp)
  have H1 : RD m1 v s := by
    have e : m1.2.1 1 = m.2.1 1 := f1.2.2 1 rfl
    unfold RD at *
    rw [e]
    exact H
  obtain ⟨m2, e2, f2, h2⟩ := q_beginsMany H1
  have T2 := tabs_j f2.2.1 T1
  have H2 := RD_j f2.2.1 H1
  have hb : ∀ k, k ≤ 8 → ∀ M : Nat → Nat, (∀ f : Nat → Nat, csum (fun t => M t * f t) 20000 = ew A B (vY v) f k s.1) → ∀ t, t < 20000 → M t < 2 ^ 31 := fun k hk M hM t ht => by
    have h1 := hM (fun _ => 1)
    rw [ew_one A B hY] at h1
    have h2 := csum_ge (f := fun t => M t * 1) ht
    have h3 : 10 ^ k ≤ 10 ^ 8 := Nat.pow_le_pow_right (by decide) hk
    have h4 : M t * 1 ≤ 10 ^ k := by rw [← h1]; exact h2
    omega
  have K := lpw_all (body := fun q : Int32 × Int32 × Mu => gX12_laysLikely_12b q.2.2 (nI n) q.1 q.2.1)
    (fun k q => q.1 = nI (10 ^ k) ∧ q.2.1 = nI k ∧ jfr m2 q.2.2 ∧ ∃ M : Nat → Nat, (∀ t, t < 20000 → q.2.2.2.2 17 t = lN (M t) ∧ q.2.2.2.2 18 t = lN 0) ∧ ∀ f : Nat → Nat, csum (fun t => M t * f t) 20000 = ew A B (vY v) f k s.1)
    (fun r => r.1 = nI (10 ^ n) ∧ jfr m2 r.2 ∧ ∃ M : Nat → Nat, (∀ t, t < 20000 → r.2.2.2 17 t = lN (M t) ∧ M t < 2 ^ 31) ∧ ∀ f : Nat → Nat, csum (fun t => M t * f t) 20000 = ew A B (vY v) f n s.1) n ?_ ?_ (nI 1, nI 0, m2) ⟨rfl, rfl, jfr_rfl m2, fun t => if t = s.1 then 1 else 0, h2, fun f => by rw [csum_dl, if_pos hs]; rfl⟩
  · obtain ⟨r, e, r1, r2, M, r3, r4⟩ := K
    refine ⟨r.2, M, ?_, kpM_tr (kpM_fr f1 rfl rfl rfl rfl rfl) (jfr_kp (jfr_tr f2 r2)), r3, r4⟩
    unfold gX12_laysLikely
    have e' : gX12_laysLikely_12 m2 (nI n) (nI 1) (nI 0) = some (nI (10 ^ n), r.2) := by
      unfold gX12_laysLikely_12
      rw [e]
      exact congrArg some (Prod.ext r1 rfl)
    simp (disch := omega) only [n_lit, n_of, n_o1, nI_add, pk_mul, nI_ltI, nI_leI, nI_eq, ↓lift_lt, ↓k_mt, ↓k_mp, if_true, if_false, Bool.false_eq_true, Nat.not_lt_zero, Nat.zero_le, Nat.reduceEqDiff, Nat.reduceLeDiff, Nat.reduceLT, e1, e2, e']
  · rintro k ⟨z1, z2, z3⟩ hk ⟨g1, g2, g3, M, g4, g5⟩
    have g1 : z1 = nI (10 ^ k) := g1
    have g2 : z2 = nI k := g2
    subst g1 g2
    have g3 : jfr m2 z3 := g3
    have g4 : ∀ t, t < 20000 → z3.2.2 17 t = lN (M t) ∧ z3.2.2 18 t = lN 0 := g4
    have k1 : ¬ n ≤ k := by omega
    obtain ⟨m', N, e, fm, hm, hN⟩ := q_lk20 (m := z3) (v := v) (s := s) (M := M) (A := A) (B := B) (x1 := nI n) (W := 10 ^ k) (y := k) (RD_j g3.2.1 H2) (tabs_j g3.2.1 T2) rfl hl2 hA hB g4 (hb k (by omega) M g5)
    show ∃ s', gX12_laysLikely_12b z3 (nI n) (nI (10 ^ k)) (nI k) = some (.inl s') ∧ _
    refine ⟨(nI (10 ^ k * 10), nI (k + 1), m'), ?_, ?_, rfl, jfr_tr g3 fm, N, hm, fun f => ?_⟩
    · unfold gX12_laysLikely_12b
      simp (disch := omega) only [n_lit, n_of, n_o1, nI_add, pk_mul, nI_ltI, nI_leI, nI_eq, ↓lift_lt, ↓k_mt, ↓k_mp, if_true, if_false, Bool.false_eq_true, Nat.not_lt_zero, Nat.zero_le, Nat.reduceEqDiff, Nat.reduceLeDiff, Nat.reduceLT, k1, e]
    · show nI (10 ^ k * 10) = _
      rw [Nat.pow_succ]
    · rw [hN f, g5 (fun t => (10 - vY v) * f (A t) + vY v * f (B t)), ew_in]
  · rintro ⟨z1, z2, z3⟩ ⟨g1, g2, g3, M, g4, g5⟩
    have g1 : z1 = nI (10 ^ n) := g1
    have g2 : z2 = nI n := g2
    subst g1 g2
    show ∃ r, gX12_laysLikely_12b z3 (nI n) (nI (10 ^ n)) (nI n) = some (.inr r) ∧ _
    refine ⟨(nI (10 ^ n), z3), ?_, rfl, g3, M, fun t ht => ⟨(g4 t ht).1, hb n hn M g5 t ht⟩, g5⟩
    unfold gX12_laysLikely_12b
    simp (disch := omega) only [n_lit, n_of, n_o1, nI_add, pk_mul, nI_ltI, nI_leI, nI_eq, ↓lift_lt, ↓k_mt, ↓k_mp, if_true, if_false, Bool.false_eq_true, Nat.not_lt_zero, Nat.zero_le, Nat.reduceEqDiff, Nat.reduceLeDiff, Nat.reduceLT, Nat.le_refl]
end LK
