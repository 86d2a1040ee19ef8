/-! told deeds on both sides -/
theorem w64 {k lo hi : Nat} (hk : k < 2 ^ 63) (h1 : lo < 2 ^ 31) (h2 : hi < 2 ^ 31) : gX12_within (lN k) (lN lo) (lN hi) = some (if lo ≤ k ∧ k ≤ hi then nI 1 else nI 0) := by
  rw [q_within]
  simp only [pk_lLE (show lo < 2 ^ 63 by omega) hk, pk_lLE hk (show hi < 2 ^ 63 by omega)]
theorem w64_n {d : Int64} {lo : Nat} (hi : Int64) (hd : d < 0) (h1 : lo < 2 ^ 31) : gX12_within d (lN lo) hi = some (nI 0) := by
  rw [q_within, if_neg]
  intro q
  have a := Int64.le_iff_toInt_le.mp q.1
  have b := Int64.lt_iff_toInt_lt.mp hd
  rw [lN_toInt h1] at a
  have : (0 : Int64).toInt = 0 := by decide
  omega
section ACT
variable {h : Hp} {V : Nat → Cv} {c : Ch} {a j : Nat} {v : Cv} {s : St} {m : Mu}
theorem act2 (d : Int64) (D : DC h V c a v j s) (Q : RD m v s) : ∃ why c', gX11_act h c j d = some (nI why, c') ∧ why < 3 ∧ dfc j c c' ∧ gX12_whyNot m d = some (nI why) ∧ ((why ≠ 0 ∧ DC h V c' a v j s) ∨ (why = 0 ∧ ∃ s' m', gX12_does m d.toInt32 = some m' ∧ dfm m m' ∧ RD m' v s' ∧ DC h V c' a v j s')) := by
  have i1 : ¬ (1 = 0) := by decide
  have hW := D.2.2.2.1
  have hP := hW.1
  have hs := D.2.2.2.2.2.1
  have r1 := Q.1.2.1
  have r2 := Q.1.2.2.1
  have d1 := D.1
  have d3 := D.2.2.1
  have d5 := D.2.2.2.2.1
  unfold gX11_act gX11_act_12 gX11_act_47 gX11_act_86 gX11_act_114 gX12_whyNot gX12_whyNot_96 gX12_whyNot_97 gX12_whyNot_66
  by_cases hd : d < 0
  · have f0 : ¬ d = lN 0 := fun q => by rw [q] at hd; exact absurd hd (by decide)
    have f1 : ¬ d = lN 1 := fun q => by rw [q] at hd; exact absurd hd (by decide)
    have f10 : d < lN 10 := Int64.lt_trans hd (by decide)
    have f100 : d < lN 100 := Int64.lt_trans hd (by decide)
    have f1000 : d < lN 1000 := Int64.lt_trans hd (by decide)
    refine ⟨1, c, ?_, by decide, dfc_rfl j c, ?_, Or.inl ⟨by decide, D⟩⟩
    · simp (disch := omega) only [n_lit, n_of, n_o1, nI_add, pk_mul, nI_ltI, nI_leI, nI_eq, ↓lift_lt, ↓k_mt, ↓k_mp, if_true, if_false, Bool.false_eq_true, Nat.not_lt_zero, Nat.zero_le, Nat.reduceEqDiff, Nat.reduceLeDiff, n_litL, lg_e', lg_l', lg_g', f0, f1, f10, f100, f1000]
    · unfold gX12_isDry
      simp (disch := omega) only [n_lit, n_of, n_o1, nI_add, pk_mul, nI_ltI, nI_leI, nI_eq, ↓lift_lt, ↓k_mt, ↓k_mp, if_true, if_false, Bool.false_eq_true, Nat.not_lt_zero, Nat.zero_le, Nat.reduceEqDiff, Nat.reduceLeDiff, n_litL, w64_n, hd, n_bl0]
  · obtain ⟨k, hk, rfl⟩ := pk_lOf hd
    rw [lN_i]
    unfold gX12_isDry
    by_cases k1 : k < 2
    · obtain ⟨c', e, D', g⟩ := c_passYear D k1
      obtain ⟨m', em, Q', gm⟩ := q_goesYear Q k1
      refine ⟨0, c', ?_, by decide, g, ?_, Or.inr ⟨rfl, _, m', ?_, gm, Q', D'⟩⟩
      · by_cases k0 : k = 0
        · subst k0
          simp (disch := omega) only [n_lit, n_of, n_o1, nI_add, pk_mul, nI_ltI, nI_leI, nI_eq, ↓lift_lt, ↓k_mt, ↓k_mp, if_true, if_false, Bool.false_eq_true, Nat.not_lt_zero, Nat.zero_le, Nat.reduceEqDiff, Nat.reduceLeDiff, n_litL, lg_e', pk_lEQ, lN_i, e]
        · have k1' : k = 1 := by omega
          subst k1'
          simp (disch := omega) only [n_lit, n_of, n_o1, nI_add, pk_mul, nI_ltI, nI_leI, nI_eq, ↓lift_lt, ↓k_mt, ↓k_mp, if_true, if_false, Bool.false_eq_true, Nat.not_lt_zero, Nat.zero_le, Nat.reduceEqDiff, Nat.reduceLeDiff, n_litL, lg_e', pk_lEQ, lN_i, e]
      · have k1' : k ≤ 1 := by omega
        simp (disch := omega) only [n_lit, n_of, n_o1, nI_add, pk_mul, nI_ltI, nI_leI, nI_eq, ↓lift_lt, ↓k_mt, ↓k_mp, if_true, if_false, Bool.false_eq_true, Nat.not_lt_zero, Nat.zero_le, Nat.reduceEqDiff, Nat.reduceLeDiff, n_litL, w64, k1', and_self, true_and, i1, n_bl1]
      · have k2 : ¬ 2 ≤ k := by omega
        unfold gX12_does gX12_does_87
        simp (disch := omega) only [n_lit, n_of, n_o1, nI_add, pk_mul, nI_ltI, nI_leI, nI_eq, ↓lift_lt, ↓k_mt, ↓k_mp, if_true, if_false, Bool.false_eq_true, Nat.not_lt_zero, Nat.zero_le, Nat.reduceEqDiff, Nat.reduceLeDiff, k2, em]
    · have k0 : ¬ k = 0 := by omega
      have k0' : ¬ k = 1 := by omega
      have k1' : ¬ k ≤ 1 := by omega
      by_cases k10 : 10 ≤ k ∧ k ≤ 19
      · have z1 : ¬ k < 10 := by omega
        have z2 : ¬ 19 < k := by omega
        obtain ⟨p, rfl⟩ : ∃ p, k = 10 + p := ⟨k - 10, by omega⟩
        have z3 : 10 + p ≤ 19 := k10.2
        have z4 : 10 ≤ 10 + p := k10.1
        have e10 : 10 + p - 10 = p := by omega
        have e11 : 11 + (10 + p) - 10 = 11 + p := by omega
        have e15 : 15 + (10 + p) - 10 = 15 + p := by omega
        have eL : lN (10 + p) - lN 10 = (nI p).toInt64 := by rw [lN_sub (by omega), e10, nI_l (by omega)]
        by_cases hp : p < vP v
        · have hp4 : p < 4 := by omega
          by_cases hf : s.1 < 10000
          · obtain ⟨c', e, D', g⟩ := c_sawOff D hp hf
            obtain ⟨Q', gm⟩ := RD_gap (p := p) (d := dg (vG v) p) Q hp (dg_lt _ _)
            have v11 : m.2.1 1 (11 + p) = nI (dg (vG v) p) := Q.1.2.2.2.2.1 p hp4
            refine ⟨0, c', ?_, by decide, g, ?_, Or.inr ⟨rfl, _, _, ?_, gm, Q', D'⟩⟩
            · simp (disch := omega) only [n_lit, n_of, n_o1, nI_add, pk_mul, nI_ltI, nI_leI, nI_eq, ↓lift_lt, ↓k_mt, ↓k_mp, if_true, if_false, Bool.false_eq_true, Nat.not_lt_zero, Nat.zero_le, Nat.reduceEqDiff, Nat.reduceLeDiff, n_litL, lg_e', lg_l', lg_g', pk_lEQ, pk_lLT, k0, k0', z1, z2, lN_i, pk_sub, e10, e]
            · simp (disch := omega) only [n_lit, n_of, n_o1, nI_add, pk_mul, nI_ltI, nI_leI, nI_eq, ↓lift_lt, ↓k_mt, ↓k_mp, if_true, if_false, Bool.false_eq_true, Nat.not_lt_zero, Nat.zero_le, Nat.reduceEqDiff, Nat.reduceLeDiff, n_litL, w64, k1', and_false, z3, z4, and_self, n_bl0, i1, eL, q_whySaw_0 Q hp hf]
            · have y2 : 2 ≤ 10 + p := by omega
              have y20 : ¬ 20 ≤ 10 + p := by omega
              unfold gX12_does gX12_does_87
              simp (disch := omega) only [n_lit, n_of, n_o1, nI_add, pk_mul, nI_ltI, nI_leI, nI_eq, ↓lift_lt, ↓k_mt, ↓k_mp, if_true, if_false, Bool.false_eq_true, Nat.not_lt_zero, Nat.zero_le, Nat.reduceEqDiff, Nat.reduceLeDiff, y2, y20, pk_sub, e11, e15, mA_1, v11, mW_1]
          · have q1 := hs.1
            refine ⟨2, c, ?_, by decide, dfc_rfl j c, ?_, Or.inl ⟨by decide, D⟩⟩
            · unfold gX11_sawOff
              simp (disch := omega) only [n_lit, n_of, n_o1, nI_add, pk_mul, nI_ltI, nI_leI, nI_eq, ↓lift_lt, ↓k_mt, ↓k_mp, if_true, if_false, Bool.false_eq_true, Nat.not_lt_zero, Nat.zero_le, Nat.reduceEqDiff, Nat.reduceLeDiff, n_litL, lg_e', lg_l', lg_g', pk_lEQ, pk_lLT, k0, k0', z1, z2, lN_i, pk_sub, e10, c_pair_y hP d1 d3 hp, i1, d5.1, hf]
            · simp (disch := omega) only [n_lit, n_of, n_o1, nI_add, pk_mul, nI_ltI, nI_leI, nI_eq, ↓lift_lt, ↓k_mt, ↓k_mp, if_true, if_false, Bool.false_eq_true, Nat.not_lt_zero, Nat.zero_le, Nat.reduceEqDiff, Nat.reduceLeDiff, n_litL, w64, k1', and_false, z3, z4, and_self, n_bl0, i1, eL, q_whySaw_2 Q hp hf]
        · have hp' : ¬ ∃ q, q < vP v ∧ nI p = nI q := fun ⟨q, q1, q2⟩ => hp (by
            have := (nI_eq (by omega) (by omega)).mp q2
            omega)
          refine ⟨1, c, ?_, by decide, dfc_rfl j c, ?_, Or.inl ⟨by decide, D⟩⟩
          · unfold gX11_sawOff
            simp (disch := omega) only [n_lit, n_of, n_o1, nI_add, pk_mul, nI_ltI, nI_leI, nI_eq, ↓lift_lt, ↓k_mt, ↓k_mp, if_true, if_false, Bool.false_eq_true, Nat.not_lt_zero, Nat.zero_le, Nat.reduceEqDiff, Nat.reduceLeDiff, n_litL, lg_e', lg_l', lg_g', pk_lEQ, pk_lLT, k0, k0', z1, z2, lN_i, pk_sub, e10, c_pair_n hP d1 d3 hp']
          · simp (disch := omega) only [n_lit, n_of, n_o1, nI_add, pk_mul, nI_ltI, nI_leI, nI_eq, ↓lift_lt, ↓k_mt, ↓k_mp, if_true, if_false, Bool.false_eq_true, Nat.not_lt_zero, Nat.zero_le, Nat.reduceEqDiff, Nat.reduceLeDiff, n_litL, w64, k1', and_false, z3, z4, and_self, n_bl0, i1, eL, q_whySaw_1 Q hp']
      · -- neither a year nor a saw
        have s1 : (if k < 10 then (0 : Nat) else if 19 < k then 0 else 1) = 0 := by
          by_cases z : k < 10
          · rw [if_pos z]
          · rw [if_neg z, if_pos (by omega)]
        have skip : ∀ (A B : Option (Int32 × Ch)), (if k < 10 then A else if 19 < k then A else B) = A := by
          intro A B
          by_cases z : k < 10
          · rw [if_pos z]
          · rw [if_neg z, if_pos (by omega)]
        by_cases k100 : 100 ≤ k ∧ k ≤ 199
        · have z1 : ¬ k < 10 := by omega
          have z2 : 19 < k := by omega
          have z3 : ¬ k < 100 := by omega
          have z4 : ¬ 199 < k := by omega
          obtain ⟨t, rfl⟩ : ∃ t, k = 100 + t := ⟨k - 100, by omega⟩
          have z5 : 100 + t ≤ 199 := k100.2
          have z6 : ¬ 100 + t ≤ 19 := by omega
          have z7 : 100 ≤ 100 + t := k100.1
          have et : 100 + t - 100 = t := by omega
          have eL : dvl (lN (100 + t) - lN 100) (lN 10) = some ((nI (t / 10)).toInt64) := by
            unfold dvl
            rw [lN_sub (by omega), et, if_neg (by decide), pk_lDiv (by omega) (by decide) (by decide), nI_l (by omega)]
          by_cases hp : t / 10 < vP v
          · have hd10 : t % 10 < 10 := Nat.mod_lt _ (by decide)
            obtain ⟨c', e, D', g⟩ := c_giveChalk D hp hd10
            obtain ⟨Q', gm⟩ := RD_chalk (p := t / 10) (d := t % 10) Q hp hd10
            refine ⟨0, c', ?_, by decide, g, ?_, Or.inr ⟨rfl, _, _, ?_, gm, Q', D'⟩⟩
            · simp (disch := omega) only [n_lit, n_of, n_o1, nI_add, pk_mul, nI_ltI, nI_leI, nI_eq, ↓lift_lt, ↓k_mt, ↓k_mp, if_true, if_false, Bool.false_eq_true, Nat.not_lt_zero, Nat.zero_le, Nat.reduceEqDiff, Nat.reduceLeDiff, n_litL, lg_e', lg_l', lg_g', pk_lEQ, pk_lLT, k0, k0', z1, z2, z3, z4, lN_i, pk_sub, et, n_dv, n_rm, e]
            · simp (disch := omega) only [n_lit, n_of, n_o1, nI_add, pk_mul, nI_ltI, nI_leI, nI_eq, ↓lift_lt, ↓k_mt, ↓k_mp, if_true, if_false, Bool.false_eq_true, Nat.not_lt_zero, Nat.zero_le, Nat.reduceEqDiff, Nat.reduceLeDiff, n_litL, w64, k1', and_false, z5, z6, z7, and_self, n_bl0, i1, eL, q_pair_y hP r1 hp]
            · have y2 : 2 ≤ 100 + t := by omega
              have y20 : 20 ≤ 100 + t := by omega
              have y200 : ¬ 200 ≤ 100 + t := by omega
              have em : (100 + t) % 10 = t % 10 := by omega
              unfold gX12_does gX12_does_87
              simp (disch := omega) only [n_lit, n_of, n_o1, nI_add, pk_mul, nI_ltI, nI_leI, nI_eq, ↓lift_lt, ↓k_mt, ↓k_mp, if_true, if_false, Bool.false_eq_true, Nat.not_lt_zero, Nat.zero_le, Nat.reduceEqDiff, Nat.reduceLeDiff, y2, y20, y200, pk_sub, et, n_dv, n_rm, em, mW_1]
          · have hp' : ¬ ∃ q, q < vP v ∧ nI (t / 10) = nI q := fun ⟨q, q1, q2⟩ => hp (by
              have := (nI_eq (by omega) (by omega)).mp q2
              omega)
            refine ⟨1, c, ?_, by decide, dfc_rfl j c, ?_, Or.inl ⟨by decide, D⟩⟩
            · unfold gX11_giveChalk gX11_giveChalk_18
              simp (disch := omega) only [n_lit, n_of, n_o1, nI_add, pk_mul, nI_ltI, nI_leI, nI_eq, ↓lift_lt, ↓k_mt, ↓k_mp, if_true, if_false, Bool.false_eq_true, Nat.not_lt_zero, Nat.zero_le, Nat.reduceEqDiff, Nat.reduceLeDiff, n_litL, lg_e', lg_l', lg_g', pk_lEQ, pk_lLT, k0, k0', z1, z2, z3, z4, lN_i, pk_sub, et, n_dv, n_rm, c_pair_n hP d1 d3 hp']
            · simp (disch := omega) only [n_lit, n_of, n_o1, nI_add, pk_mul, nI_ltI, nI_leI, nI_eq, ↓lift_lt, ↓k_mt, ↓k_mp, if_true, if_false, Bool.false_eq_true, Nat.not_lt_zero, Nat.zero_le, Nat.reduceEqDiff, Nat.reduceLeDiff, n_litL, w64, k1', and_false, z5, z6, z7, and_self, n_bl0, i1, eL, q_pair_n hP r1 hp']
        · have skip2 : ∀ (A B : Option (Int32 × Ch)), (if k < 100 then A else if 199 < k then A else B) = A := by
            intro A B
            by_cases z : k < 100
            · rw [if_pos z]
            · rw [if_neg z, if_pos (by omega)]
          by_cases k1000 : 1000 ≤ k ∧ k ≤ 1999
          · have z1 : ¬ k < 10 := by omega
            have z2 : 19 < k := by omega
            have z3 : ¬ k < 100 := by omega
            have z4 : 199 < k := by omega
            have z5 : ¬ k < 1000 := by omega
            have z6 : ¬ 1999 < k := by omega
            obtain ⟨l, rfl⟩ : ∃ l, k = 1000 + l := ⟨k - 1000, by omega⟩
            have y1 : ¬ 1000 + l ≤ 19 := by omega
            have y2 : ¬ 1000 + l ≤ 199 := by omega
            have y3 : 1000 + l ≤ 1999 := k1000.2
            have y4 : 1000 ≤ 1000 + l := k1000.1
            have el : 1000 + l - 1000 = l := by omega
            have eL : lN (1000 + l) - lN 1000 = lN l := by rw [lN_sub (by omega), el]
            by_cases hl : isL (vP v) (vD v) l
            · have l625 : l < 625 := by have := hl.1; have := pow5_le hP; omega
              obtain ⟨c', e, D', g⟩ := c_leadOtherwise D hl
              obtain ⟨Q', gm⟩ := RD_lead Q hl
              have lq := q_isLead (m := m) hP hW.2.1 r1 r2 l625
              rw [if_pos ((isLb_iff _ _ _).mpr hl)] at lq
              refine ⟨0, c', ?_, by decide, g, ?_, Or.inr ⟨rfl, _, _, ?_, gm, Q', D'⟩⟩
              · simp (disch := omega) only [n_lit, n_of, n_o1, nI_add, pk_mul, nI_ltI, nI_leI, nI_eq, ↓lift_lt, ↓k_mt, ↓k_mp, if_true, if_false, Bool.false_eq_true, Nat.not_lt_zero, Nat.zero_le, Nat.reduceEqDiff, Nat.reduceLeDiff, n_litL, lg_e', lg_l', lg_g', pk_lEQ, pk_lLT, k0, k0', z1, z2, z3, z4, z5, z6, lN_i, pk_sub, el, e]
              · simp (disch := omega) only [n_lit, n_of, n_o1, nI_add, pk_mul, nI_ltI, nI_leI, nI_eq, ↓lift_lt, ↓k_mt, ↓k_mp, if_true, if_false, Bool.false_eq_true, Nat.not_lt_zero, Nat.zero_le, Nat.reduceEqDiff, Nat.reduceLeDiff, n_litL, w64, k1', and_false, y1, y2, y3, y4, and_self, n_bl0, i1, eL, lq]
              · have w2 : 2 ≤ 1000 + l := by omega
                have w20 : 20 ≤ 1000 + l := by omega
                have w200 : 200 ≤ 1000 + l := by omega
                unfold gX12_does gX12_does_87
                simp (disch := omega) only [n_lit, n_of, n_o1, nI_add, pk_mul, nI_ltI, nI_leI, nI_eq, ↓lift_lt, ↓k_mt, ↓k_mp, if_true, if_false, Bool.false_eq_true, Nat.not_lt_zero, Nat.zero_le, Nat.reduceEqDiff, Nat.reduceLeDiff, w2, w20, w200, pk_sub, el, mW_1]
            · have lq : gX12_isLead m (lN l) = some (nI 0) := by
                by_cases l625 : l < 625
                · rw [q_isLead (m := m) hP hW.2.1 r1 r2 l625, if_neg (fun q => hl ((isLb_iff _ _ _).mp q))]
                · exact q_isLead_hi (by omega) (by omega)
              have hl' : ¬ ∃ l', isL (vP v) (vD v) l' ∧ nI l = nI l' := fun ⟨l', q1, q2⟩ => hl (by
                have := q1.1
                have := pow5_le hP
                have := (nI_eq (by omega) (by omega)).mp q2
                rw [this]; exact q1)
              refine ⟨1, c, ?_, by decide, dfc_rfl j c, ?_, Or.inl ⟨by decide, D⟩⟩
              · unfold gX11_leadOtherwise
                simp (disch := omega) only [n_lit, n_of, n_o1, nI_add, pk_mul, nI_ltI, nI_leI, nI_eq, ↓lift_lt, ↓k_mt, ↓k_mp, if_true, if_false, Bool.false_eq_true, Nat.not_lt_zero, Nat.zero_le, Nat.reduceEqDiff, Nat.reduceLeDiff, n_litL, lg_e', lg_l', lg_g', pk_lEQ, pk_lLT, k0, k0', z1, z2, z3, z4, z5, z6, lN_i, pk_sub, el, d1, cv_O d3, c_isLeading_n hW d3 hl']
              · simp (disch := omega) only [n_lit, n_of, n_o1, nI_add, pk_mul, nI_ltI, nI_leI, nI_eq, ↓lift_lt, ↓k_mt, ↓k_mp, if_true, if_false, Bool.false_eq_true, Nat.not_lt_zero, Nat.zero_le, Nat.reduceEqDiff, Nat.reduceLeDiff, n_litL, w64, k1', and_false, y1, y2, y3, y4, and_self, n_bl0, i1, eL, lq]
          · refine ⟨1, c, ?_, by decide, dfc_rfl j c, ?_, Or.inl ⟨by decide, D⟩⟩
            · have skip3 : ∀ (A B : Option (Int32 × Ch)), (if k < 1000 then A else if 1999 < k then A else B) = A := by
                intro A B
                by_cases z : k < 1000
                · rw [if_pos z]
                · rw [if_neg z, if_pos (by omega)]
              simp (disch := omega) only [n_lit, n_of, n_o1, nI_add, pk_mul, nI_ltI, nI_leI, nI_eq, ↓lift_lt, ↓k_mt, ↓k_mp, if_true, if_false, Bool.false_eq_true, Nat.not_lt_zero, Nat.zero_le, Nat.reduceEqDiff, Nat.reduceLeDiff, n_litL, lg_e', lg_l', lg_g', pk_lEQ, pk_lLT, k0, k0', skip, skip2, skip3]
            · simp (disch := omega) only [n_lit, n_of, n_o1, nI_add, pk_mul, nI_ltI, nI_leI, nI_eq, ↓lift_lt, ↓k_mt, ↓k_mp, if_true, if_false, Bool.false_eq_true, Nat.not_lt_zero, Nat.zero_le, Nat.reduceEqDiff, Nat.reduceLeDiff, n_litL, w64, k1', and_false, k10, k100, k1000, n_bl0]
end ACT
