/-! chance, mean, fallen -/
section SUMS
variable {m : Mu} {M : Nat → Nat}
theorem q_sum8 {p what W : Nat} {r : Int32} (hp : p < 4) (hM : ∀ t, t < 20000 → m.2.2 17 t = lN (M t) ∧ M t < 2 ^ 31) (hr : gX12_part (lN (csum (fun t => M t * fw p 8 t) 20000)) (nI W) (nI what) = some r) : gX12_chance_40 m (nI p) (nI what) (nI W) (lN 0) (nI 0) = some (r, m) := by
  unfold gX12_chance_40
  refine lpw_iter (body := fun z : Int64 × Int32 => gX12_chance_40b m (nI p) (nI what) (nI W) z.1 z.2) (fun k => (lN (csum (fun t => M t * fw p 8 t) k), nI k)) 20000 (r, m) ?_ ?_
  · intro k hk
    obtain ⟨e1, b1⟩ := hM k hk
    have k1 : ¬ 20000 ≤ k := by omega
    show gX12_chance_40b m (nI p) (nI what) (nI W) (lN (csum (fun t => M t * fw p 8 t) k)) (nI k) = some (.inl (lN (csum (fun t => M t * fw p 8 t) k + M k * (if dg k p = 0 then 1 else 0)), nI (k + 1)))
    generalize csum (fun t => M t * fw p 8 t) k = u
    unfold gX12_chance_40b gX12_chance_81 gX12_chance_82
    by_cases z : M k = 0
    · have g0 : lg_cmp (lN (M k)) (lN 0) ≤ nI 0 := (lg_le' _ _).mpr (by rw [z]; exact Int64.le_refl _)
      rw [z] at e1 g0
      rw [z, Nat.zero_mul]
      simp (disch := omega) only [n_lit, n_of, n_o1, nI_add, pk_mul, nI_ltI, nI_leI, nI_eq, ↓lift_lt, ↓k_mt, ↓k_mp, if_true, if_false, Bool.false_eq_true, Nat.not_lt_zero, Nat.zero_le, Nat.reduceEqDiff, Nat.reduceLeDiff, Nat.reduceLT, n_litL, k1, mJ_17, e1, g0, lN_add]
    · have g0 : ¬ lg_cmp (lN (M k)) (lN 0) ≤ nI 0 := fun q => by
        have := (pk_lLE (by omega) (by omega)).mp ((lg_le' _ _).mp q)
        omega
      by_cases y : dg k p = 0
      · rw [if_pos y, Nat.mul_one]
        simp (disch := omega) only [n_lit, n_of, n_o1, nI_add, pk_mul, nI_ltI, nI_leI, nI_eq, ↓lift_lt, ↓k_mt, ↓k_mp, if_true, if_false, Bool.false_eq_true, Nat.not_lt_zero, Nat.zero_le, Nat.reduceEqDiff, Nat.reduceLeDiff, Nat.reduceLT, n_litL, k1, mJ_17, e1, g0, q_gapIn, y, lN_add]
      · have hdg := dg_lt k p
        rw [if_neg y, Nat.mul_zero]
        simp (disch := omega) only [n_lit, n_of, n_o1, nI_add, pk_mul, nI_ltI, nI_leI, nI_eq, ↓lift_lt, ↓k_mt, ↓k_mp, if_true, if_false, Bool.false_eq_true, Nat.not_lt_zero, Nat.zero_le, Nat.reduceEqDiff, Nat.reduceLeDiff, Nat.reduceLT, n_litL, k1, mJ_17, e1, g0, q_gapIn, y, lN_add]
  · show gX12_chance_40b m (nI p) (nI what) (nI W) (lN (csum (fun t => M t * fw p 8 t) 20000)) (nI 20000) = _
    unfold gX12_chance_40b
    simp (disch := omega) only [n_lit, n_of, n_o1, nI_add, pk_mul, nI_ltI, nI_leI, nI_eq, ↓lift_lt, ↓k_mt, ↓k_mp, if_true, if_false, Bool.false_eq_true, Nat.not_lt_zero, Nat.zero_le, Nat.reduceEqDiff, Nat.reduceLeDiff, Nat.reduceLT, Nat.le_refl, hr]
theorem q_sum9 {p what W : Nat} {r : Int32} (hp : p < 4) (hM : ∀ t, t < 20000 → m.2.2 17 t = lN (M t) ∧ M t < 2 ^ 31) (hr : gX12_part (lN (csum (fun t => M t * fw p 9 t) 20000)) (nI W) (nI what) = some r) : gX12_mean_40 m (nI p) (nI what) (nI W) (lN 0) (nI 0) = some (r, m) := by
  unfold gX12_mean_40
  refine lpw_iter (body := fun z : Int64 × Int32 => gX12_mean_40b m (nI p) (nI what) (nI W) z.1 z.2) (fun k => (lN (csum (fun t => M t * fw p 9 t) k), nI k)) 20000 (r, m) ?_ ?_
  · intro k hk
    obtain ⟨e1, b1⟩ := hM k hk
    have k1 : ¬ 20000 ≤ k := by omega
    show gX12_mean_40b m (nI p) (nI what) (nI W) (lN (csum (fun t => M t * fw p 9 t) k)) (nI k) = some (.inl (lN (csum (fun t => M t * fw p 9 t) k + M k * dg k p), nI (k + 1)))
    generalize csum (fun t => M t * fw p 9 t) k = u
    have hdg := dg_lt k p
    have nl : (nI (dg k p)).toInt64 = lN (dg k p) := nI_l (by omega)
    unfold gX12_mean_40b gX12_mean_81
    by_cases z : M k = 0
    · have g0 : lg_cmp (lN (M k)) (lN 0) ≤ nI 0 := (lg_le' _ _).mpr (by rw [z]; exact Int64.le_refl _)
      rw [z] at e1 g0
      rw [z, Nat.zero_mul]
      simp (disch := omega) only [n_lit, n_of, n_o1, nI_add, pk_mul, nI_ltI, nI_leI, nI_eq, ↓lift_lt, ↓k_mt, ↓k_mp, if_true, if_false, Bool.false_eq_true, Nat.not_lt_zero, Nat.zero_le, Nat.reduceEqDiff, Nat.reduceLeDiff, Nat.reduceLT, n_litL, k1, mJ_17, e1, g0, lN_add]
    · have g0 : ¬ lg_cmp (lN (M k)) (lN 0) ≤ nI 0 := fun q => by
        have := (pk_lLE (by omega) (by omega)).mp ((lg_le' _ _).mp q)
        omega
      simp (disch := omega) only [n_lit, n_of, n_o1, nI_add, pk_mul, nI_ltI, nI_leI, nI_eq, ↓lift_lt, ↓k_mt, ↓k_mp, if_true, if_false, Bool.false_eq_true, Nat.not_lt_zero, Nat.zero_le, Nat.reduceEqDiff, Nat.reduceLeDiff, Nat.reduceLT, n_litL, k1, mJ_17, e1, g0, q_gapIn, nl, lN_mul, lN_add]
  · show gX12_mean_40b m (nI p) (nI what) (nI W) (lN (csum (fun t => M t * fw p 9 t) 20000)) (nI 20000) = _
    unfold gX12_mean_40b
    simp (disch := omega) only [n_lit, n_of, n_o1, nI_add, pk_mul, nI_ltI, nI_leI, nI_eq, ↓lift_lt, ↓k_mt, ↓k_mp, if_true, if_false, Bool.false_eq_true, Nat.not_lt_zero, Nat.zero_le, Nat.reduceEqDiff, Nat.reduceLeDiff, Nat.reduceLT, Nat.le_refl, hr]
theorem q_sum10 {what W : Nat} {r : Int32} (hM : ∀ t, t < 20000 → m.2.2 17 t = lN (M t) ∧ M t < 2 ^ 31) (hr : gX12_part (lN (csum (fun t => M t * fw 0 10 t) 20000)) (nI W) (nI what) = some r) : gX12_fallen_34 m (nI what) (nI W) (lN 0) (nI 10000) = some (r, m) := by
  unfold gX12_fallen_34
  have z0 : csum (fun t => M t * fw 0 10 t) 10000 = 0 := by
    rw [csum_eq (g := fun _ => 0) (fun i hi => ?_), csum_0]
    show M i * (if 10000 ≤ i then 1 else 0) = 0
    rw [if_neg (by omega), Nat.mul_zero]
  have K := lpw_iter (body := fun z : Int64 × Int32 => gX12_fallen_34b m (nI what) (nI W) z.1 z.2) (fun k => (lN (csum (fun t => M t * fw 0 10 t) (10000 + k)), nI (10000 + k))) 10000 (r, m) ?_ ?_
  · have K' : lpw (fun z : Int64 × Int32 => gX12_fallen_34b m (nI what) (nI W) z.1 z.2) (lN (csum (fun t => M t * fw 0 10 t) 10000), nI 10000) = some (r, m) := K
    rw [z0] at K'
    exact K'
  · intro k hk
    obtain ⟨e1, b1⟩ := hM (10000 + k) (by omega)
    have k1 : ¬ 20000 ≤ 10000 + k := by omega
    show gX12_fallen_34b m (nI what) (nI W) (lN (csum (fun t => M t * fw 0 10 t) (10000 + k))) (nI (10000 + k)) = some (.inl (lN (csum (fun t => M t * fw 0 10 t) (10000 + k) + M (10000 + k) * (if 10000 ≤ 10000 + k then 1 else 0)), nI (10000 + k + 1)))
    rw [if_pos (by omega), Nat.mul_one]
    generalize csum (fun t => M t * fw 0 10 t) (10000 + k) = u
    unfold gX12_fallen_34b
    generalize 10000 + k = j at *
    simp (disch := omega) only [n_lit, n_of, n_o1, nI_add, pk_mul, nI_ltI, nI_leI, nI_eq, ↓lift_lt, ↓k_mt, ↓k_mp, if_true, if_false, Bool.false_eq_true, Nat.not_lt_zero, Nat.zero_le, Nat.reduceEqDiff, Nat.reduceLeDiff, Nat.reduceLT, n_litL, k1, mJ_17, e1, lN_add]
  · show gX12_fallen_34b m (nI what) (nI W) (lN (csum (fun t => M t * fw 0 10 t) 20000)) (nI 20000) = _
    unfold gX12_fallen_34b
    simp (disch := omega) only [n_lit, n_of, n_o1, nI_add, pk_mul, nI_ltI, nI_leI, nI_eq, ↓lift_lt, ↓k_mt, ↓k_mp, if_true, if_false, Bool.false_eq_true, Nat.not_lt_zero, Nat.zero_le, Nat.reduceEqDiff, Nat.reduceLeDiff, Nat.reduceLT, Nat.le_refl, hr]
end SUMS
theorem c_frp_y {p : Nat} (hp : p < 2) : gX11_isFractionPart (nI p) = some (nI 1) := by
  unfold gX11_isFractionPart gX11_isFractionPart_9 gX11_isFractionPart_14
  by_cases h0 : p = 0
  · simp (disch := omega) only [n_lit, n_of, n_o1, nI_add, pk_mul, nI_ltI, nI_leI, nI_eq, ↓lift_lt, ↓k_mt, ↓k_mp, if_true, if_false, Bool.false_eq_true, Nat.not_lt_zero, Nat.zero_le, Nat.reduceEqDiff, Nat.reduceLeDiff, Nat.reduceLT, h0, n_bl1]
  · have h1 : p = 1 := by omega
    subst h1
    simp (disch := omega) only [n_lit, n_of, n_o1, nI_add, pk_mul, nI_ltI, nI_leI, nI_eq, ↓lift_lt, ↓k_mt, ↓k_mp, if_true, if_false, Bool.false_eq_true, Nat.not_lt_zero, Nat.zero_le, Nat.reduceEqDiff, Nat.reduceLeDiff, Nat.reduceLT, h0, n_bl1]
theorem c_frp_n {x : Int32} (hx : ¬ ∃ p, p < 2 ∧ x = nI p) : gX11_isFractionPart x = some (nI 0) := by
  unfold gX11_isFractionPart gX11_isFractionPart_14
  have h0 := ix_ne (k := 0) hx (by decide)
  have h1 := ix_ne (k := 1) hx (by decide)
  simp (disch := omega) only [n_lit, n_of, n_o1, nI_add, pk_mul, nI_ltI, nI_leI, nI_eq, ↓lift_lt, ↓k_mt, ↓k_mp, if_true, if_false, Bool.false_eq_true, Nat.not_lt_zero, Nat.zero_le, Nat.reduceEqDiff, Nat.reduceLeDiff, Nat.reduceLT, h0, h1, n_bl0]
section OPS10
variable {T : Nat} {h : Hp} {V : Nat → Cv} {c : Ch} {m : Mu} {x : Sp}
def wA (x : Sp) (t : Nat) : Nat := Yr (zV x) (zS x).2.1 t (zS x).2.2.1 0
def wB (x : Sp) (t : Nat) : Nat := Yr (zV x) (zS x).2.1 t (zS x).2.2.1 1
theorem c_weigh {p n : Nat} (gC : RC T h V c x) (hw : WF x) (hp : p < 4) (hn : n ≤ 8) : ∃ c', gX11_weighYears h c (nI p) (nI n) = some c' ∧ RC T h V c' x ∧ ∀ k, 8 ≤ k → k ≤ 11 → c'.2.1 115 k = lN (ew (wA x) (wB x) (vY (zV x)) (fw p k) n (zS x).1) := by
  obtain ⟨a, c1, e1, eV, T1, f1, R1, k80, s1, C1⟩ := cl_tuned gC hw
  have hP := hw.2.2.1.1
  have hs := hw.2.2.2.1
  have p5 := pow5_le hP
  have hY := hw.2.2.1.2.2.1
  have hl : (zS x).2.2.1 < 2 ^ 31 := by have := hs.2.2.2.1; omega
  obtain ⟨c2, ec2⟩ : ∃ c2, c2 = cI (cI (cI c1 115 3 (nI (vY (zV x)))) 115 1 (nI p)) 115 2 (nI (zS x).2.2.1) := ⟨_, rfl⟩
  obtain ⟨c3, ec3⟩ : ∃ c3, c3 = cJ (cJ (cJ (cJ c2 115 8 (lN 0)) 115 9 (lN 0)) 115 10 (lN 0)) 115 11 (lN 0) := ⟨_, rfl⟩
  have k3 : c3.1 = c2.1 := by rw [ec3, cJ_1, cJ_1, cJ_1, cJ_1]
  have T3 : CT h V c3 a (zS x).2.1 := by rw [ec3, ec2]; exact CT_J (CT_J (CT_J (CT_J (CT_115 (CT_115 (CT_115 T1))))))
  have q3 : qfr c1 c3 := by rw [ec3, ec2]; exact qfr_J (qfr_J (qfr_J (qfr_J (qfr_I (qfr_I (qfr_I (qfr_rfl c1) (by omega)) (by omega)) (by omega)))))
  have v1 : c3.1 115 1 = nI p := by rw [k3, ec2, cI_1, if_pos rfl, if_neg (by decide), cI_1, if_pos rfl, if_pos rfl]
  have v2 : c3.1 115 2 = nI (zS x).2.2.1 := by rw [k3, ec2, cI_1, if_pos rfl, if_pos rfl]
  have v3 : c3.1 115 3 = nI (vY (zV x)) := by rw [k3, ec2, cI_1, if_pos rfl, if_neg (by decide), cI_1, if_pos rfl, if_neg (by decide), cI_1, if_pos rfl, if_pos rfl]
  have jz : ∀ k, 8 ≤ k → k ≤ 11 → c3.2.1 115 k = lN 0 := by
    intro k h8 h11
    have hk : k = 8 ∨ k = 9 ∨ k = 10 ∨ k = 11 := by omega
    rcases hk with e | e | e | e <;> subst e
    · rw [ec3, cJ_2, if_pos rfl, if_neg (by decide), cJ_2, if_pos rfl, if_neg (by decide), cJ_2, if_pos rfl, if_neg (by decide), cJ_2, if_pos rfl, if_pos rfl]
    · rw [ec3, cJ_2, if_pos rfl, if_neg (by decide), cJ_2, if_pos rfl, if_neg (by decide), cJ_2, if_pos rfl, if_pos rfl]
    · rw [ec3, cJ_2, if_pos rfl, if_neg (by decide), cJ_2, if_pos rfl, if_pos rfl]
    · rw [ec3, cJ_2, if_pos rfl, if_pos rfl]
  have h8 : 10 ^ n ≤ 10 ^ 8 := Nat.pow_le_pow_right (by decide) hn
  obtain ⟨c4, e4, T4, -, q4, v4⟩ := c_sw (h := h) (V := V) (a := a) (ch := (zS x).2.1) (l := (zS x).2.2.1) (p := p) (A := wA x) (B := wB x) (d := vY (zV x)) hl hp (by rw [eV]; rfl) (by rw [eV]; rfl) hY n 100 (zS x).1 1 c3 (by omega) hn hs.1 (by rw [eV]; exact hs.2.1) (by omega) T3 v1 v2 v3
  refine ⟨c4, ?_, RC_q R1 (qfr_tr q3 q4) ⟨a, _, T4⟩, fun k h8 h11 => ?_⟩
  · have yv := cv_Y (h := h) C1 c1
    rw [ec3, ec2] at e4
    unfold gX11_weighYears gX2_weigh gX1_tunedTo
    simp (disch := omega) only [n_lit, n_of, n_o1, nI_add, pk_mul, nI_ltI, nI_leI, nI_eq, ↓lift_lt, ↓k_mt, ↓k_mp, if_true, if_false, Bool.false_eq_true, Nat.not_lt_zero, Nat.zero_le, Nat.reduceEqDiff, Nat.reduceLeDiff, Nat.reduceLT, n_litL, e1, T1.1, yv, s1.1, s1.2.2.1, e4]
  · rw [v4 k h8 h11, jz k h8 h11, lN_add, Nat.zero_add, Nat.one_mul]
theorem op_chance (x1 x2 x3 : Int32) (gC : RC T h V c x) (gM : RM m x) (hw : WF x) : OKs T h V (gX11_chance h c x1 x2 x3) (gX12_chance m x1 x2 x3) := by
  have i1 : ¬ (1 = 0) := by decide
  have j2 : ¬ (-nI 2 = nI 0) := by decide
  have j3 : ¬ (-nI 3 = nI 0) := by decide
  have hP := hw.2.2.1.1
  have hY := hw.2.2.1.2.2.1
  have N := RD_now gM hw
  obtain ⟨-, -, ⟨a0, a3, -, a3c⟩, a4, -⟩ := gC.1
  unfold gX11_chance gX11_chance_15 gX11_chance_28 gX12_chance gX12_noChance gX12_noChance_14 gX12_noChance_37
  by_cases hp : ∃ p, p < vP (zV x) ∧ x1 = nI p
  · obtain ⟨p, hp, rfl⟩ := hp
    have hp4 : p < 4 := by omega
    have y1 := c_pair_y hP a3 a3c hp
    have y2 := q_pair_y hP N.1.2.1 hp
    by_cases hy : ∃ p, p < 2 ∧ x3 = nI p
    · obtain ⟨what, hy, rfl⟩ := hy
      rcases ix_cases x2 9 (by decide) (by decide) with ⟨n, hn, rfl⟩ | ⟨n2, n2a⟩ | ⟨n2, n2a, n2b, n2c, n2d, n2e⟩
      · have hn8 : n ≤ 8 := by omega
        obtain ⟨c', ec, R', vc⟩ := c_weigh (p := p) (n := n) gC hw hp4 hn8
        obtain ⟨m', M, em, km, hM, hS⟩ := q_laysLikely (A := wA x) (B := wB x) (n := n) N hn8 rfl rfl
        have bE := ew_le (wA x) (wB x) hY (f := fw p 8) (fun s => fw_b p 8 s) n (zS x).1
        have h8 : 10 ^ n ≤ 10 ^ 8 := Nat.pow_le_pow_right (by decide) hn8
        have h0 : 0 < 10 ^ n := Nat.pow_pos (by decide)
        have v8 := vc 8 (by decide) (by decide)
        have v11 := vc 11 (by decide) (by decide)
        rw [show fw p 11 = fun _ => 1 from rfl, ew_one _ _ hY] at v11
        have ecp := c_part (a := ew (wA x) (wB x) (vY (zV x)) (fw p 8) n (zS x).1) (w := 10 ^ n) (what := what) (by omega) h0 (by omega) hy
        have eqp := q_part (a := ew (wA x) (wB x) (vY (zV x)) (fw p 8) n (zS x).1) (w := 10 ^ n) (what := what) (by omega) h0 (by omega) hy
        rw [← hS] at eqp
        have eq := q_sum8 (m := m') hp4 hM eqp
        rw [hS] at eq
        refine ⟨nI (prt (ew (wA x) (wB x) (vY (zV x)) (fw p 8) n (zS x).1) (10 ^ n) what), c', m', x, ?_, ?_, RC_T (by omega) R', RM_kp (RM_0 gM _) km, hw⟩
        · simp (disch := omega) only [n_lit, n_of, n_o1, nI_add, pk_mul, nI_ltI, nI_leI, nI_eq, ↓lift_lt, ↓k_mt, ↓k_mp, if_true, if_false, Bool.false_eq_true, Nat.not_lt_zero, Nat.zero_le, Nat.reduceEqDiff, Nat.reduceLeDiff, Nat.reduceLT, y1, i1, c_frp_y hy, hn8, ec, v8, v11, ecp]
        · simp (disch := omega) only [n_lit, n_of, n_o1, nI_add, pk_mul, nI_ltI, nI_leI, nI_eq, ↓lift_lt, ↓k_mt, ↓k_mp, if_true, if_false, Bool.false_eq_true, Nat.not_lt_zero, Nat.zero_le, Nat.reduceEqDiff, Nat.reduceLeDiff, Nat.reduceLT, n_litL, y2, i1, win_y, em, eq]
      · have w := wi_n (u := 8) n2 (by decide) (by decide)
        refine OK_no gC gM hw (-nI 3) ?_ ?_
        · simp (disch := omega) only [n_lit, n_of, n_o1, nI_add, pk_mul, nI_ltI, nI_leI, nI_eq, ↓lift_lt, ↓k_mt, ↓k_mp, if_true, if_false, Bool.false_eq_true, Nat.not_lt_zero, Nat.zero_le, Nat.reduceEqDiff, Nat.reduceLeDiff, Nat.reduceLT, y1, i1, c_frp_y hy, n2a]
        · simp (disch := omega) only [n_lit, n_of, n_o1, nI_add, pk_mul, nI_ltI, nI_leI, nI_eq, ↓lift_lt, ↓k_mt, ↓k_mp, if_true, if_false, Bool.false_eq_true, Nat.not_lt_zero, Nat.zero_le, Nat.reduceEqDiff, Nat.reduceLeDiff, Nat.reduceLT, n_litL, y2, i1, win_y, w, j3]
      · have w := wi_n (u := 8) n2 (by decide) (by decide)
        have n2f : ¬ x2 ≤ nI 8 := n2e
        refine OK_no gC gM hw (-nI 3) ?_ ?_
        · simp (disch := omega) only [n_lit, n_of, n_o1, nI_add, pk_mul, nI_ltI, nI_leI, nI_eq, ↓lift_lt, ↓k_mt, ↓k_mp, if_true, if_false, Bool.false_eq_true, Nat.not_lt_zero, Nat.zero_le, Nat.reduceEqDiff, Nat.reduceLeDiff, Nat.reduceLT, y1, i1, c_frp_y hy, n2a, n2f]
        · simp (disch := omega) only [n_lit, n_of, n_o1, nI_add, pk_mul, nI_ltI, nI_leI, nI_eq, ↓lift_lt, ↓k_mt, ↓k_mp, if_true, if_false, Bool.false_eq_true, Nat.not_lt_zero, Nat.zero_le, Nat.reduceEqDiff, Nat.reduceLeDiff, Nat.reduceLT, n_litL, y2, i1, win_y, w, j3]
    · have w := wi_n (u := 1) hy (by decide) (by decide)
      refine OK_no gC gM hw (-nI 2) ?_ ?_
      · simp (disch := omega) only [n_lit, n_of, n_o1, nI_add, pk_mul, nI_ltI, nI_leI, nI_eq, ↓lift_lt, ↓k_mt, ↓k_mp, if_true, if_false, Bool.false_eq_true, Nat.not_lt_zero, Nat.zero_le, Nat.reduceEqDiff, Nat.reduceLeDiff, Nat.reduceLT, y1, i1, c_frp_n hy]
      · simp (disch := omega) only [n_lit, n_of, n_o1, nI_add, pk_mul, nI_ltI, nI_leI, nI_eq, ↓lift_lt, ↓k_mt, ↓k_mp, if_true, if_false, Bool.false_eq_true, Nat.not_lt_zero, Nat.zero_le, Nat.reduceEqDiff, Nat.reduceLeDiff, Nat.reduceLT, n_litL, y2, i1, w, j2]
  · refine OK_no gC gM hw (-nI 2) ?_ ?_
    · simp (disch := omega) only [n_lit, n_of, n_o1, nI_add, pk_mul, nI_ltI, nI_leI, nI_eq, ↓lift_lt, ↓k_mt, ↓k_mp, if_true, if_false, Bool.false_eq_true, Nat.not_lt_zero, Nat.zero_le, Nat.reduceEqDiff, Nat.reduceLeDiff, Nat.reduceLT, c_pair_n hP a3 a3c hp]
    · simp (disch := omega) only [n_lit, n_of, n_o1, nI_add, pk_mul, nI_ltI, nI_leI, nI_eq, ↓lift_lt, ↓k_mt, ↓k_mp, if_true, if_false, Bool.false_eq_true, Nat.not_lt_zero, Nat.zero_le, Nat.reduceEqDiff, Nat.reduceLeDiff, Nat.reduceLT, q_pair_n hP N.1.2.1 hp, j2]
theorem op_mean (x1 x2 x3 : Int32) (gC : RC T h V c x) (gM : RM m x) (hw : WF x) : OKs T h V (gX11_mean h c x1 x2 x3) (gX12_mean m x1 x2 x3) := by
  have i1 : ¬ (1 = 0) := by decide
  have j2 : ¬ (-nI 2 = nI 0) := by decide
  have j3 : ¬ (-nI 3 = nI 0) := by decide
  have hP := hw.2.2.1.1
  have hY := hw.2.2.1.2.2.1
  have N := RD_now gM hw
  obtain ⟨-, -, ⟨a0, a3, -, a3c⟩, a4, -⟩ := gC.1
  unfold gX11_mean gX11_mean_15 gX11_mean_28 gX12_mean gX12_noChance gX12_noChance_14 gX12_noChance_37
  by_cases hp : ∃ p, p < vP (zV x) ∧ x1 = nI p
  · obtain ⟨p, hp, rfl⟩ := hp
    have hp4 : p < 4 := by omega
    have y1 := c_pair_y hP a3 a3c hp
    have y2 := q_pair_y hP N.1.2.1 hp
    by_cases hy : ∃ p, p < 2 ∧ x3 = nI p
    · obtain ⟨what, hy, rfl⟩ := hy
      rcases ix_cases x2 9 (by decide) (by decide) with ⟨n, hn, rfl⟩ | ⟨n2, n2a⟩ | ⟨n2, n2a, n2b, n2c, n2d, n2e⟩
      · have hn8 : n ≤ 8 := by omega
        obtain ⟨c', ec, R', vc⟩ := c_weigh (p := p) (n := n) gC hw hp4 hn8
        obtain ⟨m', M, em, km, hM, hS⟩ := q_laysLikely (A := wA x) (B := wB x) (n := n) N hn8 rfl rfl
        have bE := ew_le (wA x) (wB x) hY (f := fw p 9) (fun s => fw_b p 9 s) n (zS x).1
        have h8 : 10 ^ n ≤ 10 ^ 8 := Nat.pow_le_pow_right (by decide) hn8
        have h0 : 0 < 10 ^ n := Nat.pow_pos (by decide)
        have v8 := vc 9 (by decide) (by decide)
        have v11 := vc 11 (by decide) (by decide)
        rw [show fw p 11 = fun _ => 1 from rfl, ew_one _ _ hY] at v11
        have ecp := c_part (a := ew (wA x) (wB x) (vY (zV x)) (fw p 9) n (zS x).1) (w := 10 ^ n) (what := what) (by omega) h0 (by omega) hy
        have eqp := q_part (a := ew (wA x) (wB x) (vY (zV x)) (fw p 9) n (zS x).1) (w := 10 ^ n) (what := what) (by omega) h0 (by omega) hy
        rw [← hS] at eqp
        have eq := q_sum9 (m := m') hp4 hM eqp
        rw [hS] at eq
        refine ⟨nI (prt (ew (wA x) (wB x) (vY (zV x)) (fw p 9) n (zS x).1) (10 ^ n) what), c', m', x, ?_, ?_, RC_T (by omega) R', RM_kp (RM_0 gM _) km, hw⟩
        · simp (disch := omega) only [n_lit, n_of, n_o1, nI_add, pk_mul, nI_ltI, nI_leI, nI_eq, ↓lift_lt, ↓k_mt, ↓k_mp, if_true, if_false, Bool.false_eq_true, Nat.not_lt_zero, Nat.zero_le, Nat.reduceEqDiff, Nat.reduceLeDiff, Nat.reduceLT, y1, i1, c_frp_y hy, hn8, ec, v8, v11, ecp]
        · simp (disch := omega) only [n_lit, n_of, n_o1, nI_add, pk_mul, nI_ltI, nI_leI, nI_eq, ↓lift_lt, ↓k_mt, ↓k_mp, if_true, if_false, Bool.false_eq_true, Nat.not_lt_zero, Nat.zero_le, Nat.reduceEqDiff, Nat.reduceLeDiff, Nat.reduceLT, n_litL, y2, i1, win_y, em, eq]
      · have w := wi_n (u := 8) n2 (by decide) (by decide)
        refine OK_no gC gM hw (-nI 3) ?_ ?_
        · simp (disch := omega) only [n_lit, n_of, n_o1, nI_add, pk_mul, nI_ltI, nI_leI, nI_eq, ↓lift_lt, ↓k_mt, ↓k_mp, if_true, if_false, Bool.false_eq_true, Nat.not_lt_zero, Nat.zero_le, Nat.reduceEqDiff, Nat.reduceLeDiff, Nat.reduceLT, y1, i1, c_frp_y hy, n2a]
        · simp (disch := omega) only [n_lit, n_of, n_o1, nI_add, pk_mul, nI_ltI, nI_leI, nI_eq, ↓lift_lt, ↓k_mt, ↓k_mp, if_true, if_false, Bool.false_eq_true, Nat.not_lt_zero, Nat.zero_le, Nat.reduceEqDiff, Nat.reduceLeDiff, Nat.reduceLT, n_litL, y2, i1, win_y, w, j3]
      · have w := wi_n (u := 8) n2 (by decide) (by decide)
        have n2f : ¬ x2 ≤ nI 8 := n2e
        refine OK_no gC gM hw (-nI 3) ?_ ?_
        · simp (disch := omega) only [n_lit, n_of, n_o1, nI_add, pk_mul, nI_ltI, nI_leI, nI_eq, ↓lift_lt, ↓k_mt, ↓k_mp, if_true, if_false, Bool.false_eq_true, Nat.not_lt_zero, Nat.zero_le, Nat.reduceEqDiff, Nat.reduceLeDiff, Nat.reduceLT, y1, i1, c_frp_y hy, n2a, n2f]
        · simp (disch := omega) only [n_lit, n_of, n_o1, nI_add, pk_mul, nI_ltI, nI_leI, nI_eq, ↓lift_lt, ↓k_mt, ↓k_mp, if_true, if_false, Bool.false_eq_true, Nat.not_lt_zero, Nat.zero_le, Nat.reduceEqDiff, Nat.reduceLeDiff, Nat.reduceLT, n_litL, y2, i1, win_y, w, j3]
    · have w := wi_n (u := 1) hy (by decide) (by decide)
      refine OK_no gC gM hw (-nI 2) ?_ ?_
      · simp (disch := omega) only [n_lit, n_of, n_o1, nI_add, pk_mul, nI_ltI, nI_leI, nI_eq, ↓lift_lt, ↓k_mt, ↓k_mp, if_true, if_false, Bool.false_eq_true, Nat.not_lt_zero, Nat.zero_le, Nat.reduceEqDiff, Nat.reduceLeDiff, Nat.reduceLT, y1, i1, c_frp_n hy]
      · simp (disch := omega) only [n_lit, n_of, n_o1, nI_add, pk_mul, nI_ltI, nI_leI, nI_eq, ↓lift_lt, ↓k_mt, ↓k_mp, if_true, if_false, Bool.false_eq_true, Nat.not_lt_zero, Nat.zero_le, Nat.reduceEqDiff, Nat.reduceLeDiff, Nat.reduceLT, n_litL, y2, i1, w, j2]
  · refine OK_no gC gM hw (-nI 2) ?_ ?_
    · simp (disch := omega) only [n_lit, n_of, n_o1, nI_add, pk_mul, nI_ltI, nI_leI, nI_eq, ↓lift_lt, ↓k_mt, ↓k_mp, if_true, if_false, Bool.false_eq_true, Nat.not_lt_zero, Nat.zero_le, Nat.reduceEqDiff, Nat.reduceLeDiff, Nat.reduceLT, c_pair_n hP a3 a3c hp]
    · simp (disch := omega) only [n_lit, n_of, n_o1, nI_add, pk_mul, nI_ltI, nI_leI, nI_eq, ↓lift_lt, ↓k_mt, ↓k_mp, if_true, if_false, Bool.false_eq_true, Nat.not_lt_zero, Nat.zero_le, Nat.reduceEqDiff, Nat.reduceLeDiff, Nat.reduceLT, q_pair_n hP N.1.2.1 hp, j2]
theorem op_fallen (x2 x3 : Int32) (gC : RC T h V c x) (gM : RM m x) (hw : WF x) : OKs T h V (gX11_fallen h c x2 x3) (gX12_fallen m x2 x3) := by
  have i1 : ¬ (1 = 0) := by decide
  have j2 : ¬ (-nI 2 = nI 0) := by decide
  have j3 : ¬ (-nI 3 = nI 0) := by decide
  have hP := hw.2.2.1.1
  have hY := hw.2.2.1.2.2.1
  have N := RD_now gM hw
  unfold gX11_fallen gX11_fallen_20 gX12_fallen gX12_noChance gX12_noChance_14 gX12_noChance_37
  by_cases hy : ∃ p, p < 2 ∧ x3 = nI p
  · obtain ⟨what, hy, rfl⟩ := hy
    rcases ix_cases x2 9 (by decide) (by decide) with ⟨n, hn, rfl⟩ | ⟨n2, n2a⟩ | ⟨n2, n2a, n2b, n2c, n2d, n2e⟩
    · have hn8 : n ≤ 8 := by omega
      obtain ⟨c', ec, R', vc⟩ := c_weigh (p := 0) (n := n) gC hw (by decide) hn8
      obtain ⟨m', M, em, km, hM, hS⟩ := q_laysLikely (A := wA x) (B := wB x) (n := n) N hn8 rfl rfl
      have bE := ew_le (wA x) (wB x) hY (f := fw 0 10) (fun s => fw_b 0 10 s) n (zS x).1
      have h8 : 10 ^ n ≤ 10 ^ 8 := Nat.pow_le_pow_right (by decide) hn8
      have h0 : 0 < 10 ^ n := Nat.pow_pos (by decide)
      have v8 := vc 10 (by decide) (by decide)
      have v11 := vc 11 (by decide) (by decide)
      rw [show fw 0 11 = fun _ => 1 from rfl, ew_one _ _ hY] at v11
      have ecp := c_part (a := ew (wA x) (wB x) (vY (zV x)) (fw 0 10) n (zS x).1) (w := 10 ^ n) (what := what) (by omega) h0 (by omega) hy
      have eqp := q_part (a := ew (wA x) (wB x) (vY (zV x)) (fw 0 10) n (zS x).1) (w := 10 ^ n) (what := what) (by omega) h0 (by omega) hy
      rw [← hS] at eqp
      have eq := q_sum10 (m := m') hM eqp
      rw [hS] at eq
      refine ⟨nI (prt (ew (wA x) (wB x) (vY (zV x)) (fw 0 10) n (zS x).1) (10 ^ n) what), c', m', x, ?_, ?_, RC_T (by omega) R', RM_kp (RM_0 gM _) km, hw⟩
      · simp (disch := omega) only [n_lit, n_of, n_o1, nI_add, pk_mul, nI_ltI, nI_leI, nI_eq, ↓lift_lt, ↓k_mt, ↓k_mp, if_true, if_false, Bool.false_eq_true, Nat.not_lt_zero, Nat.zero_le, Nat.reduceEqDiff, Nat.reduceLeDiff, Nat.reduceLT, i1, c_frp_y hy, hn8, ec, v8, v11, ecp]
      · simp (disch := omega) only [n_lit, n_of, n_o1, nI_add, pk_mul, nI_ltI, nI_leI, nI_eq, ↓lift_lt, ↓k_mt, ↓k_mp, if_true, if_false, Bool.false_eq_true, Nat.not_lt_zero, Nat.zero_le, Nat.reduceEqDiff, Nat.reduceLeDiff, Nat.reduceLT, n_litL, i1, win_y, em, eq]
    · have w := wi_n (u := 8) n2 (by decide) (by decide)
      refine OK_no gC gM hw (-nI 3) ?_ ?_
      · simp (disch := omega) only [n_lit, n_of, n_o1, nI_add, pk_mul, nI_ltI, nI_leI, nI_eq, ↓lift_lt, ↓k_mt, ↓k_mp, if_true, if_false, Bool.false_eq_true, Nat.not_lt_zero, Nat.zero_le, Nat.reduceEqDiff, Nat.reduceLeDiff, Nat.reduceLT, i1, c_frp_y hy, n2a]
      · simp (disch := omega) only [n_lit, n_of, n_o1, nI_add, pk_mul, nI_ltI, nI_leI, nI_eq, ↓lift_lt, ↓k_mt, ↓k_mp, if_true, if_false, Bool.false_eq_true, Nat.not_lt_zero, Nat.zero_le, Nat.reduceEqDiff, Nat.reduceLeDiff, Nat.reduceLT, n_litL, i1, win_y, w, j3]
    · have w := wi_n (u := 8) n2 (by decide) (by decide)
      have n2f : ¬ x2 ≤ nI 8 := n2e
      refine OK_no gC gM hw (-nI 3) ?_ ?_
      · simp (disch := omega) only [n_lit, n_of, n_o1, nI_add, pk_mul, nI_ltI, nI_leI, nI_eq, ↓lift_lt, ↓k_mt, ↓k_mp, if_true, if_false, Bool.false_eq_true, Nat.not_lt_zero, Nat.zero_le, Nat.reduceEqDiff, Nat.reduceLeDiff, Nat.reduceLT, i1, c_frp_y hy, n2a, n2f]
      · simp (disch := omega) only [n_lit, n_of, n_o1, nI_add, pk_mul, nI_ltI, nI_leI, nI_eq, ↓lift_lt, ↓k_mt, ↓k_mp, if_true, if_false, Bool.false_eq_true, Nat.not_lt_zero, Nat.zero_le, Nat.reduceEqDiff, Nat.reduceLeDiff, Nat.reduceLT, n_litL, i1, win_y, w, j3]
  · have w := wi_n (u := 1) hy (by decide) (by decide)
    refine OK_no gC gM hw (-nI 2) ?_ ?_
    · simp (disch := omega) only [n_lit, n_of, n_o1, nI_add, pk_mul, nI_ltI, nI_leI, nI_eq, ↓lift_lt, ↓k_mt, ↓k_mp, if_true, if_false, Bool.false_eq_true, Nat.not_lt_zero, Nat.zero_le, Nat.reduceEqDiff, Nat.reduceLeDiff, Nat.reduceLT, c_frp_n hy]
    · simp (disch := omega) only [n_lit, n_of, n_o1, nI_add, pk_mul, nI_ltI, nI_leI, nI_eq, ↓lift_lt, ↓k_mt, ↓k_mp, if_true, if_false, Bool.false_eq_true, Nat.not_lt_zero, Nat.zero_le, Nat.reduceEqDiff, Nat.reduceLeDiff, Nat.reduceLT, n_litL, i1, w, j2]
end OPS10
