/-! year, lead, saw, chalk, undo -/
section BEG
variable {T : Nat} {h : Hp} {V : Nat → Cv} {c : Ch} {m : Mu} {x : Sp}
theorem DC_of {c' : Ch} {j : Nat} (gC : RC T h V c x) (hw : WF x) (hf : stf c c') (hs : stc c' j (zS x)) (hT : ∃ a ch, CT h V c' a ch) : ∃ a, DC h V c' a (zV x) j (zS x) := by
  obtain ⟨-, -, ⟨a, a3, a3b, a3c⟩, -⟩ := gC.1
  exact ⟨a, by rw [hf.2.2.1 80 (by decide)]; exact a3, a3b, a3c, hw.2.2.1, hs, hw.2.2.2.1, hT⟩
theorem CT_1 {c' : Ch} {a ch : Nat} (H : CT h V c a ch) (h1 : c'.1 108 6 = c.1 108 6) (h2 : c'.2 = c.2) : CT h V c' a ch := by
  obtain ⟨e1, e2, e3, e4, e5, e6, e7⟩ := H
  exact ⟨by rw [h2]; exact e1, e2, e3, by rw [h1]; exact e4, e5, by rw [h2]; exact e6, by rw [h2]; exact e7⟩
theorem pastC_eq {c c' : Ch} {H : List St} (h93 : c'.1 93 = c.1 93) (hs : ∀ j, 3 ≤ j → j < 13 → c'.1 (sadr j) = c.1 (sadr j)) (hp : pastC c H) : pastC c' H := by
  obtain ⟨p2, nx, pn, p1, pb⟩ := hp
  exact ⟨by rw [h93]; exact p2, nx, pn, by rw [h93]; exact p1, fun i hi => stc_eq (hs _ (by omega) (by omega)) (pb i hi)⟩
theorem cl_begin (gC : RC T h V c x) (hw : WF x) : ∃ a c1, gX8_copy h c 1 0 = some c1 ∧ DC h V c1 a (zV x) 0 (zS x) ∧ stc c1 1 (zS x) ∧ pastC c1 (zH x) ∧ stf c c1 := by
  obtain ⟨-, -, -, a4, a5, -⟩ := gC.1
  obtain ⟨aa, ch, hT⟩ := gC.2.1
  obtain ⟨c1, e1, ks, kr, k2⟩ := c_copy (c := c) (s := zS x) h (j := 0) (j' := 1) (by decide) (by decide) (by decide) a4
  have s91 : sadr 1 = 91 := rfl
  rw [s91] at kr
  have hf : stf c c1 := stf_1 (fun r hr => kr r (by omega)) k2
  obtain ⟨a, D⟩ := DC_of (c' := c1) (j := 0) gC hw hf (stc_eq (kr _ (by decide)) a4) ⟨aa, ch, CT_1 hT (by rw [kr 108 (by decide)]) k2⟩
  exact ⟨a, c1, e1, D, ks, pastC_eq (kr 93 (by decide)) (fun j h1 h2 => kr _ (fun q => sadr_inj (j := j) (j' := 1) (by omega) (by decide) (by omega) q)) a5, hf⟩
theorem cl_end {c1 c2 : Ch} {a : Nat} {s' : St} (gC : RC T h V c x) (hw : WF x) (h1 : stc c1 1 (zS x)) (h2 : pastC c1 (zH x)) (h3 : stf c c1) (D : DC h V c2 a (zV x) 0 s') (hd : dfc 0 c1 c2) : ∃ c3, gX5_remember h c2 1 = some c3 ∧ RC T h V c3 (sD x s' (push (zH x) (zS x))) ∧ stc c3 1 (zS x) ∧ stc c3 0 s' ∧ c3.2.2.1 80 3 = some a ∧ CaveAt h a (zV x) := by
  have n1 : ∀ j, j < 15 → ¬ j = 0 → c2.1 (sadr j) = c1.1 (sadr j) := fun j q1 q2 => hd.1 _ (sadr_inj q1 (by decide) q2) (fun q => sadr_108 j q.symm)
  obtain ⟨c3, e3, p3, k3, k4⟩ := c_remember (h := h) (c := c2) (s := zS x) (H := zH x) (pastC_eq (hd.1 93 (by decide) (by decide)) (fun j q1 q2 => n1 j (by omega) (by omega)) h2) hw.2.2.2.2.1 (stc_eq (n1 1 (by decide) (by decide)) h1)
  obtain ⟨d1, d2, d3, d4, d5, d6, a', ch', dT⟩ := D
  have hf3 : stf c c3 := stf_tr h3 (stf_tr (stf_dfc (by decide) hd) (stf_1 (fun r hr => k3 r (by omega) (by omega)) k4))
  have s3 : stc c3 0 s' := stc_eq (k3 _ (by decide) (by decide)) d5
  have t3 : stc c3 1 (zS x) := stc_eq (k3 _ (by decide) (by decide)) (stc_eq (n1 1 (by decide) (by decide)) h1)
  exact ⟨c3, e3, RC_deed gC hf3 s3 p3 ⟨a', ch', CT_1 dT (by rw [k3 108 (by decide) (by decide)]) k4⟩, t3, s3, by rw [k4]; exact d1, d3⟩
/-- nothing done: only what is tried was written -/
theorem cl_no {c1 : Ch} {a : Nat} (gC : RC T h V c x) (h2 : pastC c1 (zH x)) (h3 : stf c c1) (D : DC h V c1 a (zV x) 0 (zS x)) : RC T h V c1 x := by
  obtain ⟨d1, d2, d3, d4, d5, d6, dT⟩ := D
  exact RC_deed gC h3 d5 h2 dT
theorem rf_begin (gM : RM m x) (hw : WF x) : ∃ m2, gX12_keeps (mI m 0 (nI 0)) = some m2 ∧ RD m2 (zV x) (zS x) ∧ blk (m2.2.1 10) 0 (zS x) ∧ bks (m2.2.1 1) (zH x) ∧ mdf m m2 ∧ m2.2.1 21 = m.2.1 21 ∧ m2.2.1 22 = m.2.1 22 ∧ m2.2.2 = m.2.2 := by
  obtain ⟨a1, a2, a3, a4, a5, a6, -⟩ := RM_0 gM (nI 0)
  obtain ⟨m2, e2, b2, f1, f2, f3⟩ := q_keeps (m := mI m 0 (nI 0)) a4
  have r1 : m2.2.1 1 = m.2.1 1 := f3 1 (by decide)
  refine ⟨m2, e2, ⟨by rw [r1]; exact a3, by rw [r1]; exact a4, hw.2.2.1, hw.2.2.2.1⟩, b2, ⟨by rw [r1]; exact a5, fun i hi => by rw [r1]; exact a6 i hi⟩, ⟨fun r _ _ _ q => f3 r q, by rw [f2]; rfl, by rw [f1]; rfl, by rw [f1]; rfl, by rw [f1]; rfl, fun j _ => by rw [r1]⟩, f3 21 (by decide), f3 22 (by decide), f2⟩
theorem rf_end {m2 m3 : Mu} {s' : St} (gM : RM m x) (hw : WF x) (h1 : blk (m2.2.1 10) 0 (zS x)) (h2 : bks (m2.2.1 1) (zH x)) (h3 : mdf m m2) (D : RD m3 (zV x) s') (hd : dfm m2 m3) : ∃ m4, gX12_notes m3 = some m4 ∧ RM m4 (sD x s' (push (zH x) (zS x))) ∧ RD m4 (zV x) s' ∧ blk (m4.2.1 10) 0 (zS x) := by
  have r10 : m3.2.1 10 = m2.2.1 10 := hd.2.2.1 10 (by decide) (by decide) (by decide)
  have hB : bks (m3.2.1 1) (zH x) := ⟨by rw [hd.2.2.2 26 (by omega)]; exact h2.1, fun i hi => blk_eq (fun k hk => hd.2.2.2 _ (by omega)) (h2.2 i hi)⟩
  obtain ⟨m4, e4, g1, g2, g3, g4, g5⟩ := q_notes (m := m3) (s := zS x) hB hw.2.2.2.2.1 (by rw [r10]; exact h1)
  have hf : mdf m m4 := mdf_tr h3 (mdf_tr (mdf_d hd) ⟨fun r q _ _ _ => g4 r q, g3, by rw [g2], by rw [g2], by rw [g2], fun j hj => g5 j (by omega)⟩)
  obtain ⟨d1, d2, d3, d4⟩ := D
  have b4 : blk (m4.2.1 1) 15 s' := blk_eq (fun k hk => g5 _ (by omega)) d2
  exact ⟨m4, e4, RM_deed gM hf b4 g1, ⟨Rv_eq2 (fun k hk => g5 k (by omega)) d1, b4, d3, d4⟩, by rw [g4 10 (by decide), r10]; exact h1⟩
theorem RD_now (gM : RM m x) (hw : WF x) : RD (mI m 0 (nI 0)) (zV x) (zS x) := by
  obtain ⟨-, -, a3, a4, -⟩ := RM_0 gM (nI 0)
  exact ⟨a3, a4, hw.2.2.1, hw.2.2.2.1⟩
end BEG
section OPS5
variable {T : Nat} {h : Hp} {V : Nat → Cv} {c : Ch} {m : Mu} {x : Sp}
theorem op_year (x1 : Int32) (gC : RC T h V c x) (gM : RM m x) (hw : WF x) : OKs T h V (gX11_year h c x1) (gX12_year m x1) := by
  have i1 : ¬ (1 = 0) := by decide
  have hW := hw.2.2.1
  have hP := hW.1
  have hs := hw.2.2.2.1
  have p16 := pow2_le hP
  obtain ⟨a, c1, e1, D1, t1, p1, f1⟩ := cl_begin gC hw
  unfold gX11_year gX12_year
  by_cases hd : ∃ p, p < 2 ∧ x1 = nI p
  · obtain ⟨dry, hd, rfl⟩ := hd
    obtain ⟨c2, e2, D2, g2⟩ := c_passYear D1 hd
    obtain ⟨c3, e3, R3, t3, s3, k3, C3⟩ := cl_end gC hw t1 p1 f1 D2 g2
    obtain ⟨m2, em2, Q2, b2, h2, w2, -⟩ := rf_begin gM hw
    obtain ⟨m3, em3, Q3, g3⟩ := q_goesYear Q2 hd
    obtain ⟨m4, em4, R4, Q4, b4⟩ := rf_end gM hw b2 h2 w2 Q3 g3
    have n2 := q_nowD Q2
    have n4 := q_nowD Q4
    have hw2 := D2.2.2.2.2.2.1
    obtain ⟨s', es'⟩ : ∃ s' : St, s' = (Yr (zV x) (zS x).2.1 (zS x).1 (zS x).2.2.1 dry, (zS x).2.1, (zS x).2.2.1, (zS x).2.2.2 + nI 1) := ⟨_, rfl⟩
    rw [← es'] at R3 s3 R4 n4 hw2 Q4
    have q1 : (zS x).1 < 2 ^ 31 := by have := hs.1; omega
    have q2 : s'.1 < 2 ^ 31 := by have := hw2.1; omega
    have u1 := metb_lt (vP (zV x)) (zS x).1
    have u2' := metb_lt (vP (zV x)) s'.1
    refine ⟨nI (mets (vP (zV x)) s'.1) - nI (mets (vP (zV x)) (zS x).1), c3, m4, _, ?_, ?_, RC_T (by omega) R3, R4, WF_deed hw hw2 (push_w hw).1 (push_w hw).2⟩
    · simp (disch := omega) only [n_lit, n_of, n_o1, nI_add, pk_mul, nI_ltI, nI_leI, nI_eq, ↓lift_lt, ↓k_mt, ↓k_mp, if_true, if_false, Bool.false_eq_true, Nat.not_lt_zero, Nat.zero_le, Nat.reduceEqDiff, Nat.reduceLeDiff, e1, e2, e3, k3, cv_O C3, s3.1, t3.1, c_metCount C3 hP q1, c_metCount C3 hP q2]
    · simp (disch := omega) only [n_lit, n_of, n_o1, nI_add, pk_mul, nI_ltI, nI_leI, nI_eq, ↓lift_lt, ↓k_mt, ↓k_mp, if_true, if_false, Bool.false_eq_true, Nat.not_lt_zero, Nat.zero_le, Nat.reduceEqDiff, Nat.reduceLeDiff, q_dry_y hd, i1, em2, n2, q_metIn hP Q2.1.2.1 q1, q_bitsOf, bct_metb hP, em3, em4, n4, q_metIn hP Q4.1.2.1 q2]
  · have j1 : -nI 10 - nI 1 = -nI 11 := by decide
    refine ⟨-nI 11, c1, mI m 0 (nI 0), x, ?_, ?_, RC_T (by omega) (cl_no gC p1 f1 D1), RM_0 gM _, hw⟩
    · unfold gX11_passYear
      simp (disch := omega) only [n_lit, n_of, n_o1, nI_add, pk_mul, nI_ltI, nI_leI, nI_eq, ↓lift_lt, ↓k_mt, ↓k_mp, if_true, if_false, Bool.false_eq_true, Nat.not_lt_zero, Nat.zero_le, Nat.reduceEqDiff, Nat.reduceLeDiff, e1, c_dry_n hd, i1, j1]
    · simp (disch := omega) only [n_lit, n_of, n_o1, nI_add, pk_mul, nI_ltI, nI_leI, nI_eq, ↓lift_lt, ↓k_mt, ↓k_mp, if_true, if_false, Bool.false_eq_true, Nat.not_lt_zero, Nat.zero_le, Nat.reduceEqDiff, Nat.reduceLeDiff, q_dry_n hd]
theorem op_lead (x1 : Int32) (gC : RC T h V c x) (gM : RM m x) (hw : WF x) : OKs T h V (gX11_lead h c x1) (gX12_lead m x1) := by
  have i1 : ¬ (1 = 0) := by decide
  have hW := hw.2.2.1
  have hP := hW.1
  obtain ⟨a, c1, e1, D1, t1, p1, f1⟩ := cl_begin gC hw
  have N := RD_now gM hw
  have r1 := N.1.2.1
  have r2 := N.1.2.2.1
  unfold gX11_lead gX12_lead
  by_cases hl : ∃ l, isL (vP (zV x)) (vD (zV x)) l ∧ x1 = nI l
  · obtain ⟨l, hl, rfl⟩ := hl
    have l625 : l < 625 := by have := hl.1; have := pow5_le hP; omega
    obtain ⟨c2, e2, D2, g2⟩ := c_leadOtherwise D1 hl
    obtain ⟨c3, e3, R3, t3, s3, k3, C3⟩ := cl_end gC hw t1 p1 f1 D2 g2
    obtain ⟨m2, em2, Q2, b2, h2, w2, -⟩ := rf_begin gM hw
    obtain ⟨Q3, g3⟩ := RD_lead Q2 hl
    obtain ⟨m4, em4, R4, Q4, b4⟩ := rf_end gM hw b2 h2 w2 Q3 g3
    have lq := q_isLead (m := mI m 0 (nI 0)) hP hW.2.1 r1 r2 l625
    rw [if_pos ((isLb_iff _ _ _).mpr hl)] at lq
    have b8 : m4.2.1 10 8 = nI (zS x).2.2.1 := b4.2.2.1
    refine ⟨nI (zS x).2.2.1, c3, m4, _, ?_, ?_, RC_T (by omega) R3, R4, WF_deed hw D2.2.2.2.2.2.1 (push_w hw).1 (push_w hw).2⟩
    · simp (disch := omega) only [n_lit, n_of, n_o1, nI_add, pk_mul, nI_ltI, nI_leI, nI_eq, ↓lift_lt, ↓k_mt, ↓k_mp, if_true, if_false, Bool.false_eq_true, Nat.not_lt_zero, Nat.zero_le, Nat.reduceEqDiff, Nat.reduceLeDiff, e1, e2, e3, t3.2.2.1]
    · simp (disch := omega) only [n_lit, n_of, n_o1, nI_add, pk_mul, nI_ltI, nI_leI, nI_eq, ↓lift_lt, ↓k_mt, ↓k_mp, if_true, if_false, Bool.false_eq_true, Nat.not_lt_zero, Nat.zero_le, Nat.reduceEqDiff, Nat.reduceLeDiff, nI_l, lq, i1, em2, mW_1, em4, mA_10, b8]
  · have j1 : -nI 10 - nI 1 = -nI 11 := by decide
    have lq : gX12_isLead (mI m 0 (nI 0)) x1.toInt64 = some (nI 0) := by
      by_cases hx : ∃ p, p < 625 ∧ x1 = nI p
      · obtain ⟨p, hp, rfl⟩ := hx
        rw [nI_l (by omega), q_isLead (m := mI m 0 (nI 0)) hP hW.2.1 r1 r2 hp, if_neg]
        intro q
        exact hl ⟨p, (isLb_iff _ _ _).mp q, rfl⟩
      · exact q_isLead_n hx
    have D0 := D1
    obtain ⟨d1, d2, d3, -⟩ := D1
    refine ⟨-nI 11, c1, mI m 0 (nI 0), x, ?_, ?_, RC_T (by omega) (cl_no gC p1 f1 D0), RM_0 gM _, hw⟩
    · unfold gX11_leadOtherwise
      simp (disch := omega) only [n_lit, n_of, n_o1, nI_add, pk_mul, nI_ltI, nI_leI, nI_eq, ↓lift_lt, ↓k_mt, ↓k_mp, if_true, if_false, Bool.false_eq_true, Nat.not_lt_zero, Nat.zero_le, Nat.reduceEqDiff, Nat.reduceLeDiff, e1, d1, cv_O d3, c_isLeading_n hW d3 hl, i1, j1]
    · simp (disch := omega) only [n_lit, n_of, n_o1, nI_add, pk_mul, nI_ltI, nI_leI, nI_eq, ↓lift_lt, ↓k_mt, ↓k_mp, if_true, if_false, Bool.false_eq_true, Nat.not_lt_zero, Nat.zero_le, Nat.reduceEqDiff, Nat.reduceLeDiff, lq]
theorem q_whySaw_0 {v : Cv} {s : St} {p : Nat} (Q : RD m v s) (hp : p < vP v) (hs : s.1 < 10000) : gX12_whySaw m (nI p).toInt64 = some (nI 0) := by
  have i1 : ¬ (1 = 0) := by decide
  have b9 : m.2.1 1 24 = nI (s.1 / 10000) := Q.2.1.2.2.2.1
  rw [Nat.div_eq_of_lt hs] at b9
  unfold gX12_whySaw gX12_whySaw_28
  simp (disch := omega) only [n_lit, n_of, n_o1, nI_add, pk_mul, nI_ltI, nI_leI, nI_eq, ↓lift_lt, ↓k_mt, ↓k_mp, if_true, if_false, Bool.false_eq_true, Nat.not_lt_zero, Nat.zero_le, Nat.reduceEqDiff, Nat.reduceLeDiff, q_pair_y Q.2.2.1.1 Q.1.2.1 hp, i1, mA_1, b9]
theorem q_whySaw_2 {v : Cv} {s : St} {p : Nat} (Q : RD m v s) (hp : p < vP v) (hs : ¬ s.1 < 10000) : gX12_whySaw m (nI p).toInt64 = some (nI 2) := by
  have i1 : ¬ (1 = 0) := by decide
  have b9 : m.2.1 1 24 = nI (s.1 / 10000) := Q.2.1.2.2.2.1
  have h2 := Q.2.2.2.1
  rw [show s.1 / 10000 = 1 by omega] at b9
  unfold gX12_whySaw gX12_whySaw_28
  simp (disch := omega) only [n_lit, n_of, n_o1, nI_add, pk_mul, nI_ltI, nI_leI, nI_eq, ↓lift_lt, ↓k_mt, ↓k_mp, if_true, if_false, Bool.false_eq_true, Nat.not_lt_zero, Nat.zero_le, Nat.reduceEqDiff, Nat.reduceLeDiff, q_pair_y Q.2.2.1.1 Q.1.2.1 hp, i1, mA_1, b9]
theorem q_whySaw_1 {v : Cv} {s : St} {y : Int32} (Q : RD m v s) (hp : ¬ ∃ p, p < vP v ∧ y = nI p) : gX12_whySaw m y.toInt64 = some (nI 1) := by
  unfold gX12_whySaw gX12_whySaw_28
  simp (disch := omega) only [n_lit, n_of, n_o1, nI_add, pk_mul, nI_ltI, nI_leI, nI_eq, ↓lift_lt, ↓k_mt, ↓k_mp, if_true, if_false, Bool.false_eq_true, Nat.not_lt_zero, Nat.zero_le, Nat.reduceEqDiff, Nat.reduceLeDiff, q_pair_n Q.2.2.1.1 Q.1.2.1 hp]
theorem op_saw (x1 : Int32) (gC : RC T h V c x) (gM : RM m x) (hw : WF x) : OKs T h V (gX11_saw h c x1) (gX12_saw m x1) := by
  have i1 : ¬ (1 = 0) := by decide
  have i2 : ¬ (2 = 0) := by decide
  have hW := hw.2.2.1
  have hP := hW.1
  have hs := hw.2.2.2.1
  obtain ⟨a, c1, e1, D1, t1, p1, f1⟩ := cl_begin gC hw
  have N := RD_now gM hw
  unfold gX11_saw gX12_saw
  by_cases hp : ∃ p, p < vP (zV x) ∧ x1 = nI p
  · obtain ⟨p, hp, rfl⟩ := hp
    have hp4 : p < 4 := by omega
    by_cases hf : (zS x).1 < 10000
    · obtain ⟨c2, e2, D2, g2⟩ := c_sawOff D1 hp hf
      obtain ⟨c3, e3, R3, t3, s3, k3, C3⟩ := cl_end gC hw t1 p1 f1 D2 g2
      obtain ⟨m2, em2, Q2, b2, h2, w2, -⟩ := rf_begin gM hw
      obtain ⟨Q3, g3⟩ := RD_gap (p := p) (d := dg (vG (zV x)) p) Q2 hp (dg_lt _ _)
      obtain ⟨m4, em4, R4, Q4, b4⟩ := rf_end gM hw b2 h2 w2 Q3 g3
      have v11 : m2.2.1 1 (11 + p) = nI (dg (vG (zV x)) p) := Q2.1.2.2.2.2.1 p hp4
      have b0 : m4.2.1 10 p = nI (dg (zS x).1 p) := by have := b4.1 p hp4; rw [Nat.zero_add] at this; exact this
      refine ⟨nI (dg (zS x).1 p), c3, m4, _, ?_, ?_, RC_T (by omega) R3, R4, WF_deed hw D2.2.2.2.2.2.1 (push_w hw).1 (push_w hw).2⟩
      · simp (disch := omega) only [n_lit, n_of, n_o1, nI_add, pk_mul, nI_ltI, nI_leI, nI_eq, ↓lift_lt, ↓k_mt, ↓k_mp, if_true, if_false, Bool.false_eq_true, Nat.not_lt_zero, Nat.zero_le, Nat.reduceEqDiff, Nat.reduceLeDiff, e1, e2, e3, t3.1, c_digit]
      · simp (disch := omega) only [n_lit, n_of, n_o1, nI_add, pk_mul, nI_ltI, nI_leI, nI_eq, ↓lift_lt, ↓k_mt, ↓k_mp, if_true, if_false, Bool.false_eq_true, Nat.not_lt_zero, Nat.zero_le, Nat.reduceEqDiff, Nat.reduceLeDiff, q_whySaw_0 N hp hf, em2, mA_1, v11, mW_1, em4, mA_10, b0]
    · have D0 := D1
      obtain ⟨d1, d2, d3, d4, d5, -⟩ := D1
      have j1 : -nI 10 - nI 2 = -nI 12 := by decide
      have q1 := hs.1
      refine ⟨-nI 12, c1, mI m 0 (nI 0), x, ?_, ?_, RC_T (by omega) (cl_no gC p1 f1 D0), RM_0 gM _, hw⟩
      · unfold gX11_sawOff
        simp (disch := omega) only [n_lit, n_of, n_o1, nI_add, pk_mul, nI_ltI, nI_leI, nI_eq, ↓lift_lt, ↓k_mt, ↓k_mp, if_true, if_false, Bool.false_eq_true, Nat.not_lt_zero, Nat.zero_le, Nat.reduceEqDiff, Nat.reduceLeDiff, e1, c_pair_y hP d1 d3 hp, i1, d5.1, hf, i2, j1]
      · simp (disch := omega) only [n_lit, n_of, n_o1, nI_add, pk_mul, nI_ltI, nI_leI, nI_eq, ↓lift_lt, ↓k_mt, ↓k_mp, if_true, if_false, Bool.false_eq_true, Nat.not_lt_zero, Nat.zero_le, Nat.reduceEqDiff, Nat.reduceLeDiff, q_whySaw_2 N hp hf, i2, j1]
  · have D0 := D1
    obtain ⟨d1, d2, d3, d4, d5, -⟩ := D1
    have j1 : -nI 10 - nI 1 = -nI 11 := by decide
    refine ⟨-nI 11, c1, mI m 0 (nI 0), x, ?_, ?_, RC_T (by omega) (cl_no gC p1 f1 D0), RM_0 gM _, hw⟩
    · unfold gX11_sawOff
      simp (disch := omega) only [n_lit, n_of, n_o1, nI_add, pk_mul, nI_ltI, nI_leI, nI_eq, ↓lift_lt, ↓k_mt, ↓k_mp, if_true, if_false, Bool.false_eq_true, Nat.not_lt_zero, Nat.zero_le, Nat.reduceEqDiff, Nat.reduceLeDiff, e1, c_pair_n hP d1 d3 hp, i1, j1]
    · simp (disch := omega) only [n_lit, n_of, n_o1, nI_add, pk_mul, nI_ltI, nI_leI, nI_eq, ↓lift_lt, ↓k_mt, ↓k_mp, if_true, if_false, Bool.false_eq_true, Nat.not_lt_zero, Nat.zero_le, Nat.reduceEqDiff, Nat.reduceLeDiff, q_whySaw_1 N hp, i1, j1]
theorem op_chalk (x1 x2 : Int32) (gC : RC T h V c x) (gM : RM m x) (hw : WF x) : OKs T h V (gX11_chalk h c x1 x2) (gX12_chalk m x1 x2) := by
  have i1 : ¬ (1 = 0) := by decide
  have hW := hw.2.2.1
  have hP := hW.1
  have hs := hw.2.2.2.1
  have p10 := pow10_le hP
  obtain ⟨a, c1, e1, D1, t1, p1, f1⟩ := cl_begin gC hw
  have N := RD_now gM hw
  have j1 : -nI 10 - nI 1 = -nI 11 := by decide
  have D0 := D1
  obtain ⟨d1, d2, d3, d4, d5, d6, d7⟩ := D1
  unfold gX11_chalk gX12_chalk gX12_chalk_26
  by_cases hp : ∃ p, p < vP (zV x) ∧ x1 = nI p
  · obtain ⟨p, hp, rfl⟩ := hp
    have hp4 : p < 4 := by omega
    rcases ix_cases x2 10 (by decide) (by decide) with ⟨d, hd, rfl⟩ | ⟨n2, n2a⟩ | ⟨n2, n2a, n2b, n2c, n2d, n2e⟩
    · obtain ⟨c2, e2, D2, g2⟩ := c_giveChalk D0 hp hd
      obtain ⟨c3, e3, R3, t3, s3, k3, C3⟩ := cl_end gC hw t1 p1 f1 D2 g2
      obtain ⟨m2, em2, Q2, b2, h2, w2, -⟩ := rf_begin gM hw
      obtain ⟨Q3, g3⟩ := RD_chalk (p := p) (d := d) Q2 hp hd
      obtain ⟨m4, em4, R4, Q4, b4⟩ := rf_end gM hw b2 h2 w2 Q3 g3
      have b0 : m4.2.1 10 (4 + p) = nI (dg (zS x).2.1 p) := by have := b4.2.1 p hp4; rw [Nat.zero_add] at this; exact this
      have hc31 : (zS x).2.1 < 2 ^ 31 := by have := hs.2.2.1; omega
      have hd9 : d ≤ 9 := by omega
      refine ⟨nI (dg (zS x).2.1 p), c3, m4, _, ?_, ?_, RC_T (by omega) R3, R4, WF_deed hw D2.2.2.2.2.2.1 (push_w hw).1 (push_w hw).2⟩
      · simp (disch := omega) only [n_lit, n_of, n_o1, nI_add, pk_mul, nI_ltI, nI_leI, nI_eq, ↓lift_lt, ↓k_mt, ↓k_mp, if_true, if_false, Bool.false_eq_true, Nat.not_lt_zero, Nat.zero_le, Nat.reduceEqDiff, Nat.reduceLeDiff, e1, e2, e3, t3.2.1, c_digit]
      · simp (disch := omega) only [n_lit, n_of, n_o1, nI_add, pk_mul, nI_ltI, nI_leI, nI_eq, ↓lift_lt, ↓k_mt, ↓k_mp, if_true, if_false, Bool.false_eq_true, Nat.not_lt_zero, Nat.zero_le, Nat.reduceEqDiff, Nat.reduceLeDiff, n_litL, q_pair_y hP N.1.2.1 hp, i1, win_y, em2, mW_1, em4, mA_10, b0]
    · have w := wi_n (u := 9) n2 (by decide) (by decide)
      refine ⟨-nI 11, c1, mI m 0 (nI 0), x, ?_, ?_, RC_T (by omega) (cl_no gC p1 f1 D0), RM_0 gM _, hw⟩
      · unfold gX11_giveChalk gX11_giveChalk_18
        simp (disch := omega) only [n_lit, n_of, n_o1, nI_add, pk_mul, nI_ltI, nI_leI, nI_eq, ↓lift_lt, ↓k_mt, ↓k_mp, if_true, if_false, Bool.false_eq_true, Nat.not_lt_zero, Nat.zero_le, Nat.reduceEqDiff, Nat.reduceLeDiff, e1, c_pair_y hP d1 d3 hp, i1, n2a, j1]
      · simp (disch := omega) only [n_lit, n_of, n_o1, nI_add, pk_mul, nI_ltI, nI_leI, nI_eq, ↓lift_lt, ↓k_mt, ↓k_mp, if_true, if_false, Bool.false_eq_true, Nat.not_lt_zero, Nat.zero_le, Nat.reduceEqDiff, Nat.reduceLeDiff, n_litL, q_pair_y hP N.1.2.1 hp, i1, w]
    · have w := wi_n (u := 9) n2 (by decide) (by decide)
      have n2f : ¬ x2 ≤ nI 9 := n2e
      refine ⟨-nI 11, c1, mI m 0 (nI 0), x, ?_, ?_, RC_T (by omega) (cl_no gC p1 f1 D0), RM_0 gM _, hw⟩
      · unfold gX11_giveChalk gX11_giveChalk_18
        simp (disch := omega) only [n_lit, n_of, n_o1, nI_add, pk_mul, nI_ltI, nI_leI, nI_eq, ↓lift_lt, ↓k_mt, ↓k_mp, if_true, if_false, Bool.false_eq_true, Nat.not_lt_zero, Nat.zero_le, Nat.reduceEqDiff, Nat.reduceLeDiff, e1, c_pair_y hP d1 d3 hp, i1, n2a, n2f, j1]
      · simp (disch := omega) only [n_lit, n_of, n_o1, nI_add, pk_mul, nI_ltI, nI_leI, nI_eq, ↓lift_lt, ↓k_mt, ↓k_mp, if_true, if_false, Bool.false_eq_true, Nat.not_lt_zero, Nat.zero_le, Nat.reduceEqDiff, Nat.reduceLeDiff, n_litL, q_pair_y hP N.1.2.1 hp, i1, w]
  · refine ⟨-nI 11, c1, mI m 0 (nI 0), x, ?_, ?_, RC_T (by omega) (cl_no gC p1 f1 D0), RM_0 gM _, hw⟩
    · unfold gX11_giveChalk gX11_giveChalk_18
      simp (disch := omega) only [n_lit, n_of, n_o1, nI_add, pk_mul, nI_ltI, nI_leI, nI_eq, ↓lift_lt, ↓k_mt, ↓k_mp, if_true, if_false, Bool.false_eq_true, Nat.not_lt_zero, Nat.zero_le, Nat.reduceEqDiff, Nat.reduceLeDiff, e1, c_pair_n hP d1 d3 hp, i1, j1]
    · simp (disch := omega) only [n_lit, n_of, n_o1, nI_add, pk_mul, nI_ltI, nI_leI, nI_eq, ↓lift_lt, ↓k_mt, ↓k_mp, if_true, if_false, Bool.false_eq_true, Nat.not_lt_zero, Nat.zero_le, Nat.reduceEqDiff, Nat.reduceLeDiff, q_pair_n hP N.1.2.1 hp]
theorem op_undo (x1 : Int32) (gC : RC T h V c x) (gM : RM m x) (hw : WF x) : OKs T h V (gX11_undo h c x1) (gX12_undo m x1) := by
  have i1 : ¬ (1 = 0) := by decide
  have hl := hw.2.2.2.2.1
  have N := RM_0 gM (nI 0)
  obtain ⟨-, -, -, -, a5, a6, -⟩ := N
  have p2 := gC.1.2.2.2.2.1.1
  unfold gX11_undo gX11_undo_16 gX12_undo gX12_undo_28
  by_cases hn : ∃ n, 1 ≤ n ∧ n ≤ (zH x).length ∧ x1 = nI n
  · obtain ⟨n, h1, h2, rfl⟩ := hn
    have z1 : ¬ n < 1 := by omega
    -- the class goes back one by one
    have L : ∃ c', gX11_undo_21 h c (nI n) (nI 0) = some (nI ((zH x).length - n), c') ∧ pastC c' ((zH x).take ((zH x).length - n)) ∧ stc c' 0 ((zH x)[(zH x).length - n]) ∧ (∀ r, ¬ r = 93 → ¬ r = 90 → c'.1 r = c.1 r) ∧ c'.2 = c.2 := by
      unfold gX11_undo_21
      have K := lpw_all (body := fun q : Int32 × Ch => gX11_undo_21b h q.2 (nI n) q.1)
        (fun k q => q.1 = nI k ∧ k ≤ n ∧ pastC q.2 ((zH x).take ((zH x).length - k)) ∧ (0 < k → ∃ hk : (zH x).length - k < (zH x).length, stc q.2 0 ((zH x)[(zH x).length - k])) ∧ (∀ r, ¬ r = 93 → ¬ r = 90 → q.2.1 r = c.1 r) ∧ q.2.2 = c.2)
        (fun r => r.1 = nI ((zH x).length - n) ∧ pastC r.2 ((zH x).take ((zH x).length - n)) ∧ stc r.2 0 ((zH x)[(zH x).length - n]) ∧ (∀ z, ¬ z = 93 → ¬ z = 90 → r.2.1 z = c.1 z) ∧ r.2.2 = c.2) n ?_ ?_ (nI 0, c) ⟨rfl, by omega, by rw [Nat.sub_zero, List.take_length]; exact gC.1.2.2.2.2.1, fun q => by omega, fun _ _ _ => rfl, rfl⟩
      · obtain ⟨r, e, e1, e2⟩ := K
        exact ⟨r.2, by rw [e]; exact congrArg some (Prod.ext e1 rfl), e2⟩
      · intro k q hk ⟨g1, g2, g3, g4, g5, g6⟩
        have hlt : ((zH x).take ((zH x).length - k)).length = (zH x).length - k := by rw [List.length_take]; omega
        obtain ⟨c1, e1, b1, b2, b3, b4⟩ := c_bringBack (h := h) g3 (by omega) (by omega)
        have kk : ¬ n ≤ k := by omega
        show ∃ s', gX11_undo_21b h q.2 (nI n) q.1 = some (.inl s') ∧ _
        rw [g1]
        unfold gX11_undo_21b
        simp (disch := omega) only [n_lit, n_of, n_o1, nI_add, pk_mul, nI_ltI, nI_leI, nI_eq, ↓lift_lt, ↓k_mt, ↓k_mp, if_true, if_false, Bool.false_eq_true, Nat.not_lt_zero, Nat.zero_le, Nat.reduceEqDiff, Nat.reduceLeDiff, kk, e1]
        refine ⟨_, rfl, rfl, by omega, ?_, fun _ => ⟨by omega, ?_⟩, fun r q1 q2 => by rw [b3 r q1 q2]; exact g5 r q1 q2, by rw [b4]; exact g6⟩
        · rw [hlt, List.take_take, show min ((zH x).length - k - 1) ((zH x).length - k) = (zH x).length - (k + 1) by omega] at b1
          exact b1
        · simp only [List.getElem_take, hlt] at b2
          exact b2
      · intro q ⟨g1, g2, g3, g4, g5, g6⟩
        obtain ⟨hk, g4'⟩ := g4 (by omega)
        have hlt : ((zH x).take ((zH x).length - n)).length = (zH x).length - n := by rw [List.length_take]; omega
        have g3' := g3.1
        rw [hlt] at g3'
        show ∃ r, gX11_undo_21b h q.2 (nI n) q.1 = some (.inr r) ∧ _
        rw [g1]
        unfold gX11_undo_21b
        simp (disch := omega) only [n_lit, n_of, n_o1, nI_add, pk_mul, nI_ltI, nI_leI, nI_eq, ↓lift_lt, ↓k_mt, ↓k_mp, if_true, if_false, Bool.false_eq_true, Nat.not_lt_zero, Nat.zero_le, Nat.reduceEqDiff, Nat.reduceLeDiff, Nat.le_refl, g3']
        exact ⟨_, rfl, rfl, g3, g4', g5, g6⟩
    obtain ⟨c', ec, q1, q2, q3, q4⟩ := L
    have hlt : ((zH x).take ((zH x).length - n)).length = (zH x).length - n := by rw [List.length_take]; omega
    -- the reference at once
    have M : ∃ m', gX12_undo_44 (mS (mI m 0 (nI 0)) 1 26 (nI ((zH x).length - n))) (nI 0) = some (nI ((zH x).length - n), m') ∧ blk (m'.2.1 1) 15 ((zH x)[(zH x).length - n]) ∧ m'.1 = (mI m 0 (nI 0)).1 ∧ m'.2.2 = m.2.2 ∧ (∀ r, ¬ r = 1 → m'.2.1 r = m.2.1 r) ∧ (∀ j, j < 15 ∨ 27 ≤ j → m'.2.1 1 j = m.2.1 1 j) ∧ m'.2.1 1 26 = nI ((zH x).length - n) := by
      unfold gX12_undo_44
      obtain ⟨k', ek'⟩ : ∃ k', k' = (zH x).length - n := ⟨_, rfl⟩
      have K := lpw_all (body := fun q : Int32 × Mu => gX12_undo_44b q.2 q.1)
        (fun k q => q.1 = nI k ∧ q.2.1 = (mI m 0 (nI 0)).1 ∧ q.2.2.2 = m.2.2 ∧ (∀ r, ¬ r = 1 → q.2.2.1 r = m.2.1 r) ∧ (∀ j, j < k → q.2.2.1 1 (15 + j) = m.2.1 1 (27 + 11 * k' + j)) ∧ (∀ j, j < 15 ∨ 27 ≤ j → q.2.2.1 1 j = m.2.1 1 j) ∧ q.2.2.1 1 26 = nI k')
        (fun r => r.1 = nI k' ∧ blk (r.2.2.1 1) 15 ((zH x)[(zH x).length - n]) ∧ r.2.1 = (mI m 0 (nI 0)).1 ∧ r.2.2.2 = m.2.2 ∧ (∀ z, ¬ z = 1 → r.2.2.1 z = m.2.1 z) ∧ (∀ j, j < 15 ∨ 27 ≤ j → r.2.2.1 1 j = m.2.1 1 j) ∧ r.2.2.1 1 26 = nI k') 11 ?_ ?_ (nI 0, mS (mI m 0 (nI 0)) 1 26 (nI k')) ⟨rfl, rfl, rfl, fun r hr => mS_ne _ _ _ hr, fun j hj => by omega, fun j hj => by rw [mS_a, if_pos rfl, if_neg (by omega)]; rfl, by rw [mS_a, if_pos rfl, if_pos rfl]⟩
      · obtain ⟨r, e, e1, e2⟩ := K
        subst ek'
        exact ⟨r.2, by rw [e]; exact congrArg some (Prod.ext e1 rfl), e2⟩
      · intro k q hk ⟨g1, g2, g3, g4, g5, g6, g7⟩
        have kk : ¬ 11 ≤ k := by omega
        have ev : q.2.2.1 1 (27 + 11 * k' + k) = m.2.1 1 (27 + 11 * k' + k) := g6 _ (by omega)
        show ∃ s', gX12_undo_44b q.2 q.1 = some (.inl s') ∧ _
        rw [g1]
        unfold gX12_undo_44b
        simp (disch := omega) only [n_lit, n_of, n_o1, nI_add, pk_mul, nI_ltI, nI_leI, nI_eq, ↓lift_lt, ↓k_mt, ↓k_mp, if_true, if_false, Bool.false_eq_true, Nat.not_lt_zero, Nat.zero_le, Nat.reduceEqDiff, Nat.reduceLeDiff, kk, mA_1, mW_1, g7, ev]
        refine ⟨_, rfl, rfl, g2, g3, fun r hr => ?_, fun j hj => ?_, fun j hj => ?_, ?_⟩
        · rw [← g4 r hr]; exact mS_ne _ _ _ hr
        · rw [mS_a, if_pos rfl]
          by_cases z : j = k
          · rw [if_pos (by rw [z]), z]
          · rw [if_neg (by omega)]; exact g5 j (by omega)
        · rw [mS_a, if_pos rfl, if_neg (by omega)]; exact g6 j hj
        · rw [mS_a, if_pos rfl, if_neg (by omega)]; exact g7
      · intro q ⟨g1, g2, g3, g4, g5, g6, g7⟩
        show ∃ r, gX12_undo_44b q.2 q.1 = some (.inr r) ∧ _
        rw [g1]
        unfold gX12_undo_44b
        simp (disch := omega) only [n_lit, n_of, n_o1, nI_add, pk_mul, nI_ltI, nI_leI, nI_eq, ↓lift_lt, ↓k_mt, ↓k_mp, if_true, if_false, Bool.false_eq_true, Nat.not_lt_zero, Nat.zero_le, Nat.reduceEqDiff, Nat.reduceLeDiff, Nat.le_refl, mA_1, g7]
        refine ⟨_, rfl, rfl, blk_eq (fun k hk => ?_) (a6 ((zH x).length - n) (by omega)), g2, g3, g4, g6, g7⟩
        rw [g5 k hk, ek']
        rfl
    obtain ⟨m', em, b1, b2, b3, b4, b5, b6⟩ := M
    obtain ⟨aa, ch, hT⟩ := gC.2.1
    refine ⟨nI ((zH x).length - n), c', m', sD x ((zH x)[(zH x).length - n]) ((zH x).take ((zH x).length - n)), ?_, ?_, RC_T (by omega) (RC_deed gC (stf_1 (fun r hr => q3 r (by omega) (by omega)) q4) q2 q1 ⟨aa, ch, CT_1 hT (by rw [q3 108 (by decide) (by decide)]) q4⟩), RM_deed gM ⟨fun r h1 _ _ _ => b4 r h1, b3, by rw [b2]; rfl, by rw [b2]; rfl, by rw [b2]; rfl, fun j hj => b5 j (by omega)⟩ b1 ⟨by rw [hlt]; exact b6, fun i hi => ?_⟩, WF_deed hw (hw.2.2.2.2.2.1 _ (List.getElem_mem _)) (by omega) (fun s hs => hw.2.2.2.2.2.1 s (List.mem_of_mem_take hs))⟩
    · simp (disch := omega) only [n_lit, n_of, n_o1, nI_add, pk_mul, nI_ltI, nI_leI, nI_eq, ↓lift_lt, ↓k_mt, ↓k_mp, if_true, if_false, Bool.false_eq_true, Nat.not_lt_zero, Nat.zero_le, Nat.reduceEqDiff, Nat.reduceLeDiff, p2, z1, h2, ec]
    · have h10 : n ≤ 10 := by omega
      simp (disch := omega) only [n_lit, n_of, n_o1, nI_add, pk_mul, nI_ltI, nI_leI, nI_eq, ↓lift_lt, ↓k_mt, ↓k_mp, if_true, if_false, Bool.false_eq_true, Nat.not_lt_zero, Nat.zero_le, Nat.reduceEqDiff, Nat.reduceLeDiff, n_litL, win_y, i1, mA_1, a5, h2, pk_sub, mW_1, em]
    · rw [hlt] at hi
      rw [List.getElem_take]
      exact blk_eq (fun k hk => b5 _ (by omega)) (a6 i (by omega))
  · refine OK_no gC gM hw (-nI 3) ?_ ?_
    · by_cases z1 : x1 < nI 1
      · simp (disch := omega) only [n_lit, n_of, n_o1, nI_add, pk_mul, nI_ltI, nI_leI, nI_eq, ↓lift_lt, ↓k_mt, ↓k_mp, if_true, if_false, Bool.false_eq_true, Nat.not_lt_zero, Nat.zero_le, Nat.reduceEqDiff, Nat.reduceLeDiff, z1]
      · have z2 : ¬ x1 ≤ nI (zH x).length := by
          intro q
          have h0 : ¬ x1 < 0 := fun r => z1 (Int32.lt_trans r (by decide))
          obtain ⟨j, hj, e⟩ := nI_of h0
          rw [e, nI_leI hj (by omega)] at q
          rw [e, nI_ltI hj (by decide)] at z1
          exact hn ⟨j, by omega, q, e⟩
        simp (disch := omega) only [n_lit, n_of, n_o1, nI_add, pk_mul, nI_ltI, nI_leI, nI_eq, ↓lift_lt, ↓k_mt, ↓k_mp, if_true, if_false, Bool.false_eq_true, Nat.not_lt_zero, Nat.zero_le, Nat.reduceEqDiff, Nat.reduceLeDiff, z1, p2, z2]
    · by_cases hx : ∃ p, 1 ≤ p ∧ p ≤ 10 ∧ x1 = nI p
      · obtain ⟨p, g1, g2, rfl⟩ := hx
        have z2 : ¬ p ≤ (zH x).length := fun q => hn ⟨p, g1, q, rfl⟩
        simp (disch := omega) only [n_lit, n_of, n_o1, nI_add, pk_mul, nI_ltI, nI_leI, nI_eq, ↓lift_lt, ↓k_mt, ↓k_mp, if_true, if_false, Bool.false_eq_true, Nat.not_lt_zero, Nat.zero_le, Nat.reduceEqDiff, Nat.reduceLeDiff, n_litL, win_y, i1, mA_1, a5, z2]
      · have w := win_n (l := 1) (u := 10) (by decide) (by decide) hx
        simp (disch := omega) only [n_lit, n_of, n_o1, nI_add, pk_mul, nI_ltI, nI_leI, nI_eq, ↓lift_lt, ↓k_mt, ↓k_mp, if_true, if_false, Bool.false_eq_true, Nat.not_lt_zero, Nat.zero_le, Nat.reduceEqDiff, Nat.reduceLeDiff, n_litL, w]
end OPS5
