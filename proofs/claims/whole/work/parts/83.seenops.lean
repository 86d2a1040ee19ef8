/-! seen, seenDry, surely -/
section OPS11
variable {T : Nat} {h : Hp} {V : Nat → Cv} {c : Ch} {m : Mu} {x : Sp}
def zY (x : Sp) (u b : Nat) : Nat := Yr (zV x) (zS x).2.1 u (zS x).2.2.1 b
theorem c_trace {t p so n : Nat} {w : Nat → Int64} (gC : RC T h V c x) (hw : WF x) (ht : t < 4) (hp : p < 4) (hn : n ≤ 10) (hz : zR x t = some (so, n, w)) :
    ∃ c', gX11_traceSeen h c (nI t) (nI p) = some c' ∧ RC T h V c' x ∧ SX (SN (zY x) w p n (zS x).1) n (2 ^ n) c' ∧ c'.1 (tadr t) 3 = nI n := by
  obtain ⟨a, c1, e1, eV, T1, f1, R1, k80, s1, C1⟩ := cl_tuned gC hw
  have hP := hw.2.2.1.1
  have hs := hw.2.2.2.1
  have p5 := pow5_le hP
  have p2 := pow2_10 hn
  have p0 : 0 < 2 ^ n := Nat.pow_pos (by decide)
  have hl : (zS x).2.2.1 < 2 ^ 31 := by have := hs.2.2.2.1; omega
  have tb := tadr_b (t := t)
  have cl : (nI t).toNatClampNeg = t := nI_clamp (by omega)
  have ib : inB (nI t) 4 = true := inB_nI ht (by decide)
  have hc := R1.1.2.2.2.2.2.2.1 t ht
  unfold trC at hc
  rw [hz] at hc
  obtain ⟨c2', c1', c3, cw⟩ := hc
  obtain ⟨c7, e7⟩ : ∃ c7, c7 = cI (cI (cI (cI (cI (cI c1 115 1 (nI p)) 115 2 (nI (zS x).2.2.1)) 115 4 (nI 0)) 115 5 (nI 0)) 115 6 (nI (2 ^ n - 1))) 115 7 (nI (2 ^ n - 1)) := ⟨_, rfl⟩
  have F7 : FK h V a (zS x).2.1 (zS x).2.2.1 p t n w c7 := by
    rw [e7]
    refine FK_I (by decide) (by decide) (FK_I (by decide) (by decide) (FK_I (by decide) (by decide) (FK_I (by decide) (by decide) ?_)))
    exact ⟨CT_115 (CT_115 T1), by rw [cI_1, if_pos rfl, if_neg (by decide), cI_1, if_pos rfl, if_pos rfl], by rw [cI_1, if_pos rfl, if_pos rfl], by rw [cI_n _ (by omega), cI_n _ (by omega)]; exact c3, cw⟩
  have q7 : qfr c1 c7 := by
    rw [e7]; exact qfr_I (qfr_I (qfr_I (qfr_I (qfr_I (qfr_I (qfr_rfl c1) (by omega)) (by omega)) (by omega)) (by omega)) (by omega)) (by omega)
  have H7 : SX (SN (zY x) w p n (zS x).1) n (0 * 2 ^ n) c7 := by
    rw [Nat.zero_mul]
    refine ⟨0, 2 ^ n - 1, 2 ^ n - 1, ?_, ?_, by decide, ?_, by omega, ?_, by omega, fun j => ?_, fun j => ?_, fun ⟨R, q, _⟩ => by omega⟩
    · rw [e7, cI_1, if_pos rfl, if_neg (by decide), cI_1, if_pos rfl, if_neg (by decide), cI_1, if_pos rfl, if_neg (by decide), cI_1, if_pos rfl, if_pos rfl]; rfl
    · rw [e7, cI_1, if_pos rfl, if_neg (by decide), cI_1, if_pos rfl, if_neg (by decide), cI_1, if_pos rfl, if_pos rfl]
    · rw [e7, cI_1, if_pos rfl, if_neg (by decide), cI_1, if_pos rfl, if_pos rfl]
    · rw [e7, cI_1, if_pos rfl, if_pos rfl]
    · rw [ones_t]; exact ⟨fun q => ⟨q, fun R r => by omega⟩, fun q => q.1⟩
    · rw [ones_t]; exact ⟨fun q => ⟨q, fun R r => by omega⟩, fun q => q.1⟩
  obtain ⟨c8, e8, H8, F8, q8⟩ := c_follow (h := h) (V := V) (a := a) (ch := (zS x).2.1) (l := (zS x).2.2.1) (p := p) (t := t) (n := n) (w := w) (Y := zY x) (s0 := (zS x).1) (by rw [eV]; rfl) hl hp ht hn n 0 100 0 (zS x).1 0 c7 (by omega) (by omega) (by decide) (by decide) hs.1 (fun R _ => ⟨rfl, fun j hj => by omega, fun j hj => by omega⟩) F7 H7
  rw [Nat.zero_add, Nat.one_mul] at H8
  refine ⟨c8, ?_, RC_q R1 (qfr_tr q7 q8) ⟨a, _, F8.1⟩, H8, F8.2.2.2.1⟩
  rw [e7] at e8
  have d4 : (cI (cI (cI (cI c1 115 1 (nI p)) 115 2 (nI (zS x).2.2.1)) 115 4 (nI 0)) 115 5 (nI 0)).1 (tadr t) 3 = nI n := by
    rw [cI_n _ (by omega), cI_n _ (by omega), cI_n _ (by omega), cI_n _ (by omega)]; exact c3
  have d5 : (cI (cI (cI (cI (cI c1 115 1 (nI p)) 115 2 (nI (zS x).2.2.1)) 115 4 (nI 0)) 115 5 (nI 0)) 115 6 (nI (2 ^ n - 1))).1 115 6 = nI (2 ^ n - 1) := by
    rw [cI_1, if_pos rfl, if_pos rfl]
  unfold gX11_traceSeen gX2_trace
  simp (disch := omega) only [n_lit, n_of, n_o1, nI_add, pk_mul, nI_ltI, nI_leI, nI_eq, ↓lift_lt, ↓k_mt, ↓k_mp, if_true, if_false, Bool.false_eq_true, Nat.not_lt_zero, Nat.zero_le, Nat.reduceEqDiff, Nat.reduceLeDiff, Nat.reduceLT, e1, ib, iff_t, cl, s1.1, s1.2.2.1, d4, n_and, n_shlN, Nat.one_mul, pk_sub, d5, e8]
theorem SQ_of {t so n : Nat} {w : Nat → Int64} (gM : RM m x) (hw : WF x) (ht : t < 4) (hz : zR x t = some (so, n, w)) : SQ (zV x) (zS x) t n w (mI m 0 (nI 0)) := by
  have hm := (RM_0 gM (nI 0)).2.2.2.2.2.2.2.1 t ht
  unfold trR at hm
  rw [hz] at hm
  exact ⟨RD_now gM hw, hm.2.1, hm.2.2⟩
theorem op_seen (x1 x2 : Int32) (gC : RC T h V c x) (gM : RM m x) (hw : WF x) : OKs T h V (gX11_seen h c x1 x2) (gX12_seen m x1 x2) := by
  unfold gX11_seen gX12_seen
  rcases seen_no x1 x2 gC gM hw with ⟨e, e0, e1, e2⟩ | ⟨t, p, so, n, w, ht, hp, rfl, rfl, hz, n1, n10, e1, e2⟩
  · refine OK_no gC gM hw e ?_ ?_
    · simp (disch := omega) only [n_lit, n_of, n_o1, nI_add, pk_mul, nI_ltI, nI_leI, nI_eq, ↓lift_lt, ↓k_mt, ↓k_mp, if_true, if_false, Bool.false_eq_true, Nat.not_lt_zero, Nat.zero_le, Nat.reduceEqDiff, Nat.reduceLeDiff, Nat.reduceLT, e1, e0]
    · simp (disch := omega) only [n_lit, n_of, n_o1, nI_add, pk_mul, nI_ltI, nI_leI, nI_eq, ↓lift_lt, ↓k_mt, ↓k_mp, if_true, if_false, Bool.false_eq_true, Nat.not_lt_zero, Nat.zero_le, Nat.reduceEqDiff, Nat.reduceLeDiff, Nat.reduceLT, e2, e0]
  · have hp4 : p < 4 := by have := hw.2.2.1.1; omega
    obtain ⟨c', ec, R', ⟨f, a, z, h1, -⟩, -⟩ := c_trace gC hw ht hp4 n10 hz
    obtain ⟨m', em, fm⟩ := q_seen (p := p) (Y := zY x) rfl (SQ_of gM hw ht hz) ht n10 hp4
    refine ⟨nI (csum (fun R => ib (SN (zY x) w p n (zS x).1 R)) (2 ^ n)), c', m', x, ?_, ?_, RC_T (by omega) R', RM_kp (RM_0 gM (nI 0)) (kpM_fr fm rfl rfl rfl rfl rfl), hw⟩
    · simp (disch := omega) only [n_lit, n_of, n_o1, nI_add, pk_mul, nI_ltI, nI_leI, nI_eq, ↓lift_lt, ↓k_mt, ↓k_mp, if_true, if_false, Bool.false_eq_true, Nat.not_lt_zero, Nat.zero_le, Nat.reduceEqDiff, Nat.reduceLeDiff, Nat.reduceLT, e1, ec, h1]
    · simp (disch := omega) only [n_lit, n_of, n_o1, nI_add, pk_mul, nI_ltI, nI_leI, nI_eq, ↓lift_lt, ↓k_mt, ↓k_mp, if_true, if_false, Bool.false_eq_true, Nat.not_lt_zero, Nat.zero_le, Nat.reduceEqDiff, Nat.reduceLeDiff, Nat.reduceLT, e2, em]
theorem op_seenDry (x1 x2 x3 : Int32) (gC : RC T h V c x) (gM : RM m x) (hw : WF x) : OKs T h V (gX11_seenDry h c x1 x2 x3) (gX12_seenDry m x1 x2 x3) := by
  unfold gX11_seenDry gX11_seenDry_52 gX12_seenDry
  rcases seen_no x1 x2 gC gM hw with ⟨e, e0, e1, e2⟩ | ⟨t, p, so, n, w, ht, hp, rfl, rfl, hz, n1, n10, e1, e2⟩
  · refine OK_no gC gM hw e ?_ ?_
    · simp (disch := omega) only [n_lit, n_of, n_o1, nI_add, pk_mul, nI_ltI, nI_leI, nI_eq, ↓lift_lt, ↓k_mt, ↓k_mp, if_true, if_false, Bool.false_eq_true, Nat.not_lt_zero, Nat.zero_le, Nat.reduceEqDiff, Nat.reduceLeDiff, Nat.reduceLT, e1, e0]
    · simp (disch := omega) only [n_lit, n_of, n_o1, nI_add, pk_mul, nI_ltI, nI_leI, nI_eq, ↓lift_lt, ↓k_mt, ↓k_mp, if_true, if_false, Bool.false_eq_true, Nat.not_lt_zero, Nat.zero_le, Nat.reduceEqDiff, Nat.reduceLeDiff, Nat.reduceLT, e2, e0]
  · have hp4 : p < 4 := by have := hw.2.2.1.1; omega
    by_cases h0 : nI 0 ≤ x3
    · obtain ⟨i, hi, rfl⟩ : ∃ i, i < 2 ^ 31 ∧ x3 = nI i := by
        have : ¬ x3 < 0 := Int32.not_lt.mpr h0
        exact nI_of this
      have cl : (nI t).toNatClampNeg = t := nI_clamp (by omega)
      have ibt : inB (nI t) 4 = true := inB_nI ht (by decide)
      obtain ⟨c', ec, R', ⟨f, a, z, h1, h2, h3, h4, h5, h6, h7, h8, h9, h10⟩, ht3⟩ := c_trace gC hw ht hp4 n10 hz
      have SQ0 := SQ_of gM hw ht hz
      have p2 := pow2_10 n10
      have p0 : 0 < 2 ^ n := Nat.pow_pos (by decide)
      have cb := csum_b (f := fun R => ib (SN (zY x) w p n (zS x).1 R)) (fun R => ib_b _) (2 ^ n)
      by_cases hin : i < n
      · obtain ⟨r, m', em, fm, hr⟩ := q_seenDry (p := p) (Y := zY x) (i := i) rfl SQ0 ht n10 hp4 hin
        refine ⟨r, c', m', x, ?_, ?_, RC_T (by omega) R', RM_kp (RM_0 gM (nI 0)) (kpM_fr fm rfl rfl rfl rfl rfl), hw⟩
        · by_cases c0 : csum (fun R => ib (SN (zY x) w p n (zS x).1 R)) (2 ^ n) = 0
          · have er : r = -nI 1 := fstA_one hr (Or.inr ⟨csum_ib0.mp c0, rfl⟩)
            rw [c0] at h1
            rw [er]
            simp (disch := omega) only [n_lit, n_of, n_o1, nI_add, pk_mul, nI_ltI, nI_leI, nI_eq, ↓lift_lt, ↓k_mt, ↓k_mp, if_true, if_false, Bool.false_eq_true, Nat.not_lt_zero, Nat.zero_le, Nat.reduceEqDiff, Nat.reduceLeDiff, Nat.reduceLT, e1, h0, ec, h1]
          · have : ∃ R, R < 2 ^ n ∧ SN (zY x) w p n (zS x).1 R := by
              apply Classical.byContradiction
              intro q
              exact c0 (csum_ib0.mpr (fun R hR hS' => q ⟨R, hR, hS'⟩))
            obtain ⟨R, r1, r2, r3, r4⟩ := h10 this
            have er : r = nI (f / 2 ^ i % 2) := fstA_one hr (Or.inl ⟨R, r1, r2, r3, by rw [r4 i hin]⟩)
            rw [er]
            simp (disch := omega) only [n_lit, n_of, n_o1, nI_add, pk_mul, nI_ltI, nI_leI, nI_eq, ↓lift_lt, ↓k_mt, ↓k_mp, if_true, if_false, Bool.false_eq_true, Nat.not_lt_zero, Nat.zero_le, Nat.reduceEqDiff, Nat.reduceLeDiff, Nat.reduceLT, e1, h0, ec, h1, c0, ibt, iff_t, cl, ht3, hin, h2, n_and, n_shrN, Nat.and_one_is_mod]
        · simp (disch := omega) only [n_lit, n_of, n_o1, nI_add, pk_mul, nI_ltI, nI_leI, nI_eq, ↓lift_lt, ↓k_mt, ↓k_mp, if_true, if_false, Bool.false_eq_true, Nat.not_lt_zero, Nat.zero_le, Nat.reduceEqDiff, Nat.reduceLeDiff, Nat.reduceLT, e2, h0, em]
      · have hin' : n ≤ i := by omega
        have k1 : ¬ 1 * 2 ^ n ≤ 0 := by omega
        have m22 := SQ0.2.1
        have el : gX12_seenDry_31 (mI m 0 (nI 0)) (nI t) (nI p) (nI i) (nI 0) = some (-nI 1, mI m 0 (nI 0)) := by
          unfold gX12_seenDry_31
          have eb : gX12_seenDry_31b (mI m 0 (nI 0)) (nI t) (nI p) (nI i) (nI 0) = some (.inr (-nI 1, mI m 0 (nI 0))) := by
            unfold gX12_seenDry_31b gX12_seenDry_80
            simp (disch := omega) only [n_lit, n_of, n_o1, nI_add, pk_mul, nI_ltI, nI_leI, nI_eq, ↓lift_lt, ↓k_mt, ↓k_mp, if_true, if_false, Bool.false_eq_true, Nat.not_lt_zero, Nat.zero_le, Nat.reduceEqDiff, Nat.reduceLeDiff, Nat.reduceLT, mA_22, m22, n_and, n_shlN, k1, hin', Option.map_some]
          exact lpw_r eb
        refine ⟨-nI 1, c', mI m 0 (nI 0), x, ?_, ?_, RC_T (by omega) R', RM_0 gM (nI 0), hw⟩
        · by_cases c0 : csum (fun R => ib (SN (zY x) w p n (zS x).1 R)) (2 ^ n) = 0
          · rw [c0] at h1
            simp (disch := omega) only [n_lit, n_of, n_o1, nI_add, pk_mul, nI_ltI, nI_leI, nI_eq, ↓lift_lt, ↓k_mt, ↓k_mp, if_true, if_false, Bool.false_eq_true, Nat.not_lt_zero, Nat.zero_le, Nat.reduceEqDiff, Nat.reduceLeDiff, Nat.reduceLT, e1, h0, ec, h1]
          · simp (disch := omega) only [n_lit, n_of, n_o1, nI_add, pk_mul, nI_ltI, nI_leI, nI_eq, ↓lift_lt, ↓k_mt, ↓k_mp, if_true, if_false, Bool.false_eq_true, Nat.not_lt_zero, Nat.zero_le, Nat.reduceEqDiff, Nat.reduceLeDiff, Nat.reduceLT, e1, h0, ec, h1, c0, ibt, iff_t, cl, ht3, hin]
        · simp (disch := omega) only [n_lit, n_of, n_o1, nI_add, pk_mul, nI_ltI, nI_leI, nI_eq, ↓lift_lt, ↓k_mt, ↓k_mp, if_true, if_false, Bool.false_eq_true, Nat.not_lt_zero, Nat.zero_le, Nat.reduceEqDiff, Nat.reduceLeDiff, Nat.reduceLT, e2, h0, el]
    · refine OK_no gC gM hw (-nI 3) ?_ ?_
      · simp (disch := omega) only [n_lit, n_of, n_o1, nI_add, pk_mul, nI_ltI, nI_leI, nI_eq, ↓lift_lt, ↓k_mt, ↓k_mp, if_true, if_false, Bool.false_eq_true, Nat.not_lt_zero, Nat.zero_le, Nat.reduceEqDiff, Nat.reduceLeDiff, Nat.reduceLT, e1, h0]
      · simp (disch := omega) only [n_lit, n_of, n_o1, nI_add, pk_mul, nI_ltI, nI_leI, nI_eq, ↓lift_lt, ↓k_mt, ↓k_mp, if_true, if_false, Bool.false_eq_true, Nat.not_lt_zero, Nat.zero_le, Nat.reduceEqDiff, Nat.reduceLeDiff, Nat.reduceLT, e2, h0]
theorem op_surely (x1 x2 x3 : Int32) (gC : RC T h V c x) (gM : RM m x) (hw : WF x) : OKs T h V (gX11_surely h c x1 x2 x3) (gX12_surely m x1 x2 x3) := by
  have i1 : ¬ (1 = 0) := by decide
  unfold gX11_surely gX11_surely_66 gX12_surely
  by_cases hy : ∃ p, p < 2 ∧ x3 = nI p
  · obtain ⟨what, hy, rfl⟩ := hy
    rcases seen_no x1 x2 gC gM hw with ⟨e, e0, e1, e2⟩ | ⟨t, p, so, n, w, ht, hp, rfl, rfl, hz, n1, n10, e1, e2⟩
    · refine OK_no gC gM hw e ?_ ?_
      · simp (disch := omega) only [n_lit, n_of, n_o1, nI_add, pk_mul, nI_ltI, nI_leI, nI_eq, ↓lift_lt, ↓k_mt, ↓k_mp, if_true, if_false, Bool.false_eq_true, Nat.not_lt_zero, Nat.zero_le, Nat.reduceEqDiff, Nat.reduceLeDiff, Nat.reduceLT, c_dry_y hy, i1, e1, e0]
      · simp (disch := omega) only [n_lit, n_of, n_o1, nI_add, pk_mul, nI_ltI, nI_leI, nI_eq, ↓lift_lt, ↓k_mt, ↓k_mp, if_true, if_false, Bool.false_eq_true, Nat.not_lt_zero, Nat.zero_le, Nat.reduceEqDiff, Nat.reduceLeDiff, Nat.reduceLT, q_dry_y hy, i1, e2, e0]
    · have hp4 : p < 4 := by have := hw.2.2.1.1; omega
      obtain ⟨c', ec, R', ⟨f, a, z, h1, h2, h3, h4, h5, h6, h7, h8, h9, h10⟩, ht3⟩ := c_trace gC hw ht hp4 n10 hz
      have SQ0 := SQ_of gM hw ht hz
      have p2 := pow2_10 n10
      have p0 : 0 < 2 ^ n := Nat.pow_pos (by decide)
      have cb := csum_b (f := fun R => ib (SN (zY x) w p n (zS x).1 R)) (fun R => ib_b _) (2 ^ n)
      have m22 := SQ0.2.1
      obtain ⟨b, m', em, fm, hr⟩ := q_surely (p := p) (Y := zY x) (what := what) rfl SQ0 ht n10 hp4 hy
      refine ⟨nI b, c', m', x, ?_, ?_, RC_T (by omega) R', RM_kp (RM_0 gM (nI 0)) (kpM_fr fm rfl rfl rfl rfl rfl), hw⟩
      · rcases hr with ⟨⟨R, r1, r2⟩, hb⟩ | ⟨hno, hb⟩
        · have c0 : ¬ csum (fun R => ib (SN (zY x) w p n (zS x).1 R)) (2 ^ n) = 0 := fun q => csum_ib0.mp q R r1 r2
          by_cases w1 : what = 1
          · subst w1
            rw [bits_eq hb h8]
            simp (disch := omega) only [n_lit, n_of, n_o1, nI_add, pk_mul, nI_ltI, nI_leI, nI_eq, ↓lift_lt, ↓k_mt, ↓k_mp, if_true, if_false, Bool.false_eq_true, Nat.not_lt_zero, Nat.zero_le, Nat.reduceEqDiff, Nat.reduceLeDiff, Nat.reduceLT, c_dry_y hy, i1, e1, ec, h1, c0, h4]
          · have w0 : what = 0 := by omega
            subst w0
            rw [bits_eq hb h9]
            simp (disch := omega) only [n_lit, n_of, n_o1, nI_add, pk_mul, nI_ltI, nI_leI, nI_eq, ↓lift_lt, ↓k_mt, ↓k_mp, if_true, if_false, Bool.false_eq_true, Nat.not_lt_zero, Nat.zero_le, Nat.reduceEqDiff, Nat.reduceLeDiff, Nat.reduceLT, c_dry_y hy, i1, e1, ec, h1, c0, h6]
        · have c0 := csum_ib0.mpr hno
          rw [c0] at h1
          rw [hb]
          simp (disch := omega) only [n_lit, n_of, n_o1, nI_add, pk_mul, nI_ltI, nI_leI, nI_eq, ↓lift_lt, ↓k_mt, ↓k_mp, if_true, if_false, Bool.false_eq_true, Nat.not_lt_zero, Nat.zero_le, Nat.reduceEqDiff, Nat.reduceLeDiff, Nat.reduceLT, c_dry_y hy, i1, e1, ec, h1]
      · simp (disch := omega) only [n_lit, n_of, n_o1, nI_add, pk_mul, nI_ltI, nI_leI, nI_eq, ↓lift_lt, ↓k_mt, ↓k_mp, if_true, if_false, Bool.false_eq_true, Nat.not_lt_zero, Nat.zero_le, Nat.reduceEqDiff, Nat.reduceLeDiff, Nat.reduceLT, q_dry_y hy, i1, e2, mA_22, m22, n_and, n_shlN, Nat.one_mul, pk_sub, em]
  · refine OK_no gC gM hw (-nI 2) ?_ ?_
    · simp (disch := omega) only [n_lit, n_of, n_o1, nI_add, pk_mul, nI_ltI, nI_leI, nI_eq, ↓lift_lt, ↓k_mt, ↓k_mp, if_true, if_false, Bool.false_eq_true, Nat.not_lt_zero, Nat.zero_le, Nat.reduceEqDiff, Nat.reduceLeDiff, Nat.reduceLT, c_dry_n hy]
    · simp (disch := omega) only [n_lit, n_of, n_o1, nI_add, pk_mul, nI_ltI, nI_leI, nI_eq, ↓lift_lt, ↓k_mt, ↓k_mp, if_true, if_false, Bool.false_eq_true, Nat.not_lt_zero, Nat.zero_le, Nat.reduceEqDiff, Nat.reduceLeDiff, Nat.reduceLT, q_dry_n hy]
end OPS11
