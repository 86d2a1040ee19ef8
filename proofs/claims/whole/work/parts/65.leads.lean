/-! leadings on both sides; the tape -/
theorem lg_l' (x y : Int64) : lg_cmp x y < nI 0 ↔ x < y := lg_l x y
theorem lg_le' (x y : Int64) : lg_cmp x y ≤ nI 0 ↔ x ≤ y := lg_le x y
theorem lg_g' (x y : Int64) : nI 0 < lg_cmp x y ↔ y < x := lg_g x y
theorem lg_ge' (x y : Int64) : nI 0 ≤ lg_cmp x y ↔ y ≤ x := lg_ge x y
theorem lg_e' (x y : Int64) : lg_cmp x y = nI 0 ↔ x = y := lg_e x y
section REFLEAD
variable {m : Mu} {P D : Nat}
theorem q_isLead {l : Nat} (hP : P ≤ 4) (hD : D ≤ 4) (h1 : m.2.1 1 1 = nI P) (h2 : m.2.1 1 2 = nI D) (hl : l < 625) : gX12_isLead m (lN l) = some (if isLb P D l = true then nI 1 else nI 0) := by
  have k1 : ¬ l < 0 := by omega
  have k2 : l ≤ 624 := by omega
  unfold gX12_isLead
  simp (disch := omega) only [n_lit, n_of, n_o1, nI_add, pk_mul, nI_ltI, nI_leI, nI_eq, ↓lift_lt, ↓k_mt, ↓k_mp, if_true, if_false, Bool.false_eq_true, Nat.not_lt_zero, Nat.zero_le, Nat.reduceEqDiff, Nat.reduceLeDiff, n_litL, lg_l', lg_le', pk_lLT, pk_lLE, k1, k2, lN_i]
  unfold gX12_isLead_25
  have L := lpw_iter (body := fun q : Int32 × Int32 × Int32 => gX12_isLead_25b m q.1 q.2.1 q.2.2) (fun k => (nI (dsum k l), nI (l / 5 ^ k), nI k)) P (if isLb P D l = true then nI 1 else nI 0) ?_ ?_
  · rw [show l / 5 ^ 0 = l by simp] at L; exact L
  · intro k hk
    have h3 : ¬ P ≤ k := by omega
    have h4 : l / 5 ^ k < 2 ^ 31 := Nat.lt_of_le_of_lt (Nat.div_le_self _ _) (by omega)
    unfold gX12_isLead_25b
    simp (disch := omega) only [n_lit, n_of, n_o1, nI_add, pk_mul, nI_ltI, nI_leI, nI_eq, ↓lift_lt, ↓k_mt, ↓k_mp, if_true, if_false, Bool.false_eq_true, Nat.not_lt_zero, Nat.zero_le, Nat.reduceEqDiff, Nat.reduceLeDiff, mA_1, h1, h3, n_rm, n_dv, Nat.div_div_eq_div_mul, ← Nat.pow_succ]
    rfl
  · have h4 : l / 5 ^ P < 2 ^ 31 := Nat.lt_of_le_of_lt (Nat.div_le_self _ _) (by omega)
    have h5 : 0 < 5 ^ P := Nat.pow_pos (by decide)
    have hds : dsum P l < 2 ^ 31 := by
      have : ∀ k, dsum k l ≤ 4 * k := by
        intro k
        induction k with
        | zero => exact Nat.le_refl 0
        | succ k ih =>
          show dsum k l + d5 l k ≤ 4 * (k + 1)
          have := d5_lt l k
          omega
      have := this P
      omega
    show gX12_isLead_25b m (nI (dsum P l)) (nI (l / 5 ^ P)) (nI P) = _
    unfold gX12_isLead_25b gX12_isLead_55 gX12_isLead_79 gX12_isLead_83 gX12_isLead_84
    have hb : (isLb P D l = true) ↔ (l / 5 ^ P = 0 ∧ (P = 0 ∨ dsum P l = D)) := by
      unfold isLb
      simp only [Bool.and_eq_true, Bool.or_eq_true, decide_eq_true_eq]
      rw [Nat.div_eq_zero_iff]
      constructor
      · intro ⟨a, b⟩; exact ⟨Or.inr a, b⟩
      · intro ⟨a, b⟩; exact ⟨by omega, b⟩
    by_cases c1 : l / 5 ^ P = 0
    · by_cases c2 : P = 0
      · have hb' := hb.mpr ⟨c1, Or.inl c2⟩
        rw [if_pos hb']
        subst c2
        simp (disch := omega) only [n_lit, n_of, n_o1, nI_add, pk_mul, nI_ltI, nI_leI, nI_eq, ↓lift_lt, ↓k_mt, ↓k_mp, if_true, if_false, Bool.false_eq_true, Nat.not_lt_zero, Nat.zero_le, Nat.reduceEqDiff, Nat.reduceLeDiff, mA_1, h1, h2, Nat.le_refl, c1, n_bl1]
      · by_cases c3 : dsum P l = D
        · have hb' := hb.mpr ⟨c1, Or.inr c3⟩
          rw [if_pos hb']
          simp (disch := omega) only [n_lit, n_of, n_o1, nI_add, pk_mul, nI_ltI, nI_leI, nI_eq, ↓lift_lt, ↓k_mt, ↓k_mp, if_true, if_false, Bool.false_eq_true, Nat.not_lt_zero, Nat.zero_le, Nat.reduceEqDiff, Nat.reduceLeDiff, mA_1, h1, h2, Nat.le_refl, c1, c2, c3, n_bl1]
        · have hb' : ¬ isLb P D l = true := fun q => (hb.mp q).2.elim c2 c3
          rw [if_neg hb']
          simp (disch := omega) only [n_lit, n_of, n_o1, nI_add, pk_mul, nI_ltI, nI_leI, nI_eq, ↓lift_lt, ↓k_mt, ↓k_mp, if_true, if_false, Bool.false_eq_true, Nat.not_lt_zero, Nat.zero_le, Nat.reduceEqDiff, Nat.reduceLeDiff, mA_1, h1, h2, Nat.le_refl, c1, c2, c3, n_bl0]
    · have hb' : ¬ isLb P D l = true := fun q => c1 (hb.mp q).1
      rw [if_neg hb']
      simp (disch := omega) only [n_lit, n_of, n_o1, nI_add, pk_mul, nI_ltI, nI_leI, nI_eq, ↓lift_lt, ↓k_mt, ↓k_mp, if_true, if_false, Bool.false_eq_true, Nat.not_lt_zero, Nat.zero_le, Nat.reduceEqDiff, Nat.reduceLeDiff, mA_1, h1, h2, Nat.le_refl, c1, n_bl0]
theorem q_isLead_hi {l : Nat} (h1 : 624 < l) (h2 : l < 2 ^ 63) : gX12_isLead m (lN l) = some (nI 0) := by
  have k1 : ¬ l < 0 := by omega
  have k2 : ¬ l ≤ 624 := by omega
  unfold gX12_isLead gX12_isLead_14
  simp (disch := omega) only [n_lit, n_of, n_o1, nI_add, pk_mul, nI_ltI, nI_leI, nI_eq, ↓lift_lt, ↓k_mt, ↓k_mp, if_true, if_false, Bool.false_eq_true, Nat.not_lt_zero, Nat.zero_le, Nat.reduceEqDiff, Nat.reduceLeDiff, n_litL, lg_l', lg_le', pk_lLT, pk_lLE, k1, k2]
theorem q_isLead_n {x : Int32} (h : ¬ ∃ p, p < 625 ∧ x = nI p) : gX12_isLead m x.toInt64 = some (nI 0) := by
  by_cases h0 : x < 0
  · have h1 : x.toInt64 < lN 0 := by
      rw [Int64.lt_iff_toInt_lt, Int32.toInt_toInt64]
      rw [Int32.lt_iff_toInt_lt] at h0
      exact h0
    unfold gX12_isLead gX12_isLead_14
    simp (disch := omega) only [n_lit, n_of, n_o1, nI_add, pk_mul, nI_ltI, nI_leI, nI_eq, ↓lift_lt, ↓k_mt, ↓k_mp, if_true, if_false, Bool.false_eq_true, Nat.not_lt_zero, Nat.zero_le, Nat.reduceEqDiff, Nat.reduceLeDiff, n_litL, lg_l', h1]
  · obtain ⟨j, hj, e⟩ := nI_of h0
    rw [e, nI_l hj]
    exact q_isLead_hi (Nat.not_le.mp fun q => h ⟨j, by omega, e⟩) (by omega)
theorem q_laysLeads {v : Cv} (hW : wV v) (h1 : m.2.1 1 1 = nI (vP v)) (h2 : m.2.1 1 2 = nI (vD v)) : ∃ m', gX12_laysLeads m = some m' ∧ m'.1 21 = nI (nL v) ∧ (∀ i, i < nL v → m'.2.1 9 i = nI (ld v i)) ∧ (∀ r, ¬ r = 21 → m'.1 r = m.1 r) ∧ (∀ r, ¬ r = 9 → m'.2.1 r = m.2.1 r) ∧ m'.2.2 = m.2.2 := by
  have hP := hW.1
  have hD := hW.2.1
  obtain ⟨nL0, nL35⟩ := nL_b hW
  have sub : ∀ l, l ≤ 625 → ((List.range l).filter (isLb (vP v) (vD v))).length ≤ nL v := by
    intro l hl
    unfold nL leadL
    exact List.Sublist.length_le (List.Sublist.filter _ (List.range_sublist.mpr hl))
  unfold gX12_laysLeads
  simp (disch := omega) only [n_lit, n_of, n_o1, nI_add, pk_mul, nI_ltI, nI_leI, nI_eq, ↓lift_lt, ↓k_mt, ↓k_mp, if_true, if_false, Bool.false_eq_true, Nat.not_lt_zero, Nat.zero_le]
  unfold gX12_laysLeads_7
  have L := lpw_all (body := fun q : Int32 × Mu => gX12_laysLeads_7b q.2 q.1)
    (fun l q => q.1 = nI l ∧ q.2.1 21 = nI ((List.range l).filter (isLb (vP v) (vD v))).length ∧ (∀ i, i < ((List.range l).filter (isLb (vP v) (vD v))).length → q.2.2.1 9 i = nI (((List.range l).filter (isLb (vP v) (vD v))).getD i 0)) ∧ (∀ r, ¬ r = 21 → q.2.1 r = m.1 r) ∧ (∀ r, ¬ r = 9 → q.2.2.1 r = m.2.1 r) ∧ q.2.2.2 = m.2.2)
    (fun r => r.1 21 = nI (nL v) ∧ (∀ i, i < nL v → r.2.1 9 i = nI (ld v i)) ∧ (∀ z, ¬ z = 21 → r.1 z = m.1 z) ∧ (∀ z, ¬ z = 9 → r.2.1 z = m.2.1 z) ∧ r.2.2 = m.2.2) 625 ?_ ?_ (nI 0, mI m 21 (nI 0)) ⟨rfl, by rw [mI_f, if_pos rfl]; rfl, fun i hi => absurd hi (by simp), fun r hr => by rw [mI_f, if_neg hr], fun _ _ => rfl, rfl⟩
  · exact L
  · intro l q hl ⟨e1, e2, e3, e4, e5, e6⟩
    have k1 : ¬ 625 ≤ l := by omega
    have j1 : q.2.2.1 1 1 = nI (vP v) := by rw [e5 1 (by decide)]; exact h1
    have j2 : q.2.2.1 1 2 = nI (vD v) := by rw [e5 1 (by decide)]; exact h2
    have hL := q_isLead (m := q.2) hP hD j1 j2 hl
    have hb := sub (l + 1) (by omega)
    rw [List.range_succ, List.filter_append] at hb ⊢
    show ∃ s', gX12_laysLeads_7b q.2 q.1 = some (.inl s') ∧ _
    rw [e1]
    unfold gX12_laysLeads_7b gX12_laysLeads_46
    have i1 : ¬ (1 = 0) := by decide
    by_cases hx : isLb (vP v) (vD v) l = true
    · have hf : List.filter (isLb (vP v) (vD v)) [l] = [l] := by rw [List.filter_cons, if_pos hx]; rfl
      rw [hf] at hb ⊢
      rw [if_pos hx] at hL
      rw [List.length_append, List.length_singleton] at hb ⊢
      generalize hF : (List.range l).filter (isLb (vP v) (vD v)) = F at e2 e3 hb ⊢
      have b35 : F.length < 35 := by omega
      simp (disch := omega) only [n_lit, n_of, n_o1, nI_add, pk_mul, nI_ltI, nI_leI, nI_eq, ↓lift_lt, ↓k_mt, ↓k_mp, if_true, if_false, Bool.false_eq_true, Nat.not_lt_zero, Nat.zero_le, Nat.reduceEqDiff, Nat.reduceLeDiff, k1, nI_l, hL, i1, e2, mW_9, mS_f]
      refine ⟨_, rfl, rfl, by rw [mI_f, if_pos rfl], fun i hi => ?_, fun r hr => ?_, fun r hr => ?_, e6⟩
      · rw [mI_a, mS_a, if_pos rfl]
        by_cases z : i = F.length
        · rw [if_pos z, z, List.getD_eq_getElem?_getD, List.getElem?_append_right (Nat.le_refl _), Nat.sub_self]
          rfl
        · rw [if_neg z, List.getD_eq_getElem?_getD, List.getElem?_append_left (by omega), ← List.getD_eq_getElem?_getD]
          exact e3 i (by omega)
      · rw [mI_f, if_neg hr]; exact e4 r hr
      · rw [mI_a, ← e5 r hr]; exact mS_ne _ _ _ hr
    · have hf : List.filter (isLb (vP v) (vD v)) [l] = [] := by rw [List.filter_cons, if_neg hx]; rfl
      rw [hf] at hb ⊢
      rw [if_neg hx] at hL
      rw [List.append_nil]
      simp (disch := omega) only [n_lit, n_of, n_o1, nI_add, pk_mul, nI_ltI, nI_leI, nI_eq, ↓lift_lt, ↓k_mt, ↓k_mp, if_true, if_false, Bool.false_eq_true, Nat.not_lt_zero, Nat.zero_le, Nat.reduceEqDiff, Nat.reduceLeDiff, k1, nI_l, hL]
      exact ⟨_, rfl, rfl, e2, e3, e4, e5, e6⟩
  · intro q ⟨e1, e2, e3, e4, e5, e6⟩
    show ∃ r, gX12_laysLeads_7b q.2 q.1 = some (.inr r) ∧ _
    rw [e1]
    unfold gX12_laysLeads_7b
    simp (disch := omega) only [n_lit, n_of, n_o1, nI_add, pk_mul, nI_ltI, nI_leI, nI_eq, ↓lift_lt, ↓k_mt, ↓k_mp, if_true, if_false, Bool.false_eq_true, Nat.not_lt_zero, Nat.zero_le, Nat.reduceEqDiff, Nat.reduceLeDiff, Nat.le_refl]
    exact ⟨_, rfl, e2, e3, e4, e5, e6⟩
end REFLEAD
section OPS4
variable {T : Nat} {h : Hp} {V : Nat → Cv} {c : Ch} {m : Mu} {x : Sp}
theorem op_leadings (gC : RC T h V c x) (gM : RM m x) (hw : WF x) : OKq x (gX11_leadings h c) (gX12_leadings m) := by
  have hv := hw.2.2.1
  obtain ⟨-, -, ⟨a, c3, -, hC⟩, -⟩ := gC.1
  obtain ⟨la, l1, l2, -⟩ := cv_la hv hC
  have hM := RM_0 gM (nI 0)
  obtain ⟨m', em, e1, -, e3, e4, e5⟩ := q_laysLeads (m := mI m 0 (nI 0)) hv hM.2.2.1.2.1 hM.2.2.1.2.2.1
  refine ⟨nI (nL (zV x)), m', ?_, ?_, RM_kp hM ⟨e4 1 (by decide), e4 2 (by decide), e4 3 (by decide), e4 21 (by decide), e4 22 (by decide), by rw [e5], e3 5 (by decide), e3 13 (by decide), e3 14 (by decide)⟩⟩
  · unfold gX11_leadings
    simp (disch := omega) only [n_lit, n_of, n_o1, nI_add, pk_mul, nI_ltI, nI_leI, nI_eq, ↓lift_lt, ↓k_mt, ↓k_mp, if_true, if_false, Bool.false_eq_true, Nat.not_lt_zero, Nat.zero_le, Nat.reduceEqDiff, Nat.reduceLeDiff, c3, l1, l2]
  · unfold gX12_leadings
    simp (disch := omega) only [n_lit, n_of, n_o1, nI_add, pk_mul, nI_ltI, nI_leI, nI_eq, ↓lift_lt, ↓k_mt, ↓k_mp, if_true, if_false, Bool.false_eq_true, Nat.not_lt_zero, Nat.zero_le, Nat.reduceEqDiff, Nat.reduceLeDiff, em, e1]
/-! the tape -/
theorem i8_255 (y : Int32) : (y &&& nI 255).toInt8 = y.toInt8 := by
  apply Int8.toBitVec_inj.mp
  rw [Int32.toBitVec_toInt8, Int32.toBitVec_toInt8, Int32.toBitVec_and]
  apply BitVec.eq_of_getLsbD_eq
  intro i hi
  have key : ∀ i : Fin 8, (nI 255).toBitVec.getLsbD i.1 = true := by decide
  simp only [BitVec.getLsbD_signExtend, BitVec.getLsbD_and, BitVec.getLsbD_setWidth]
  have := key ⟨i, hi⟩
  simp only at this
  have h32 : i < 32 := by omega
  simp [this, hi, h32]
def bN (w : Int32) (k : Nat) : Nat := ((w >>> nI (24 - 8 * k)) &&& nI 255).toBitVec.toNat % 256
theorem bN_e (w : Int32) (k : Nat) : (w >>> nI (24 - 8 * k)) &&& nI 255 = nI (bN w k) ∧ bN w k < 256 := by
  refine ⟨?_, Nat.mod_lt _ (by decide)⟩
  have e := pk_and (w >>> nI (24 - 8 * k)) (m := nI 255) 8 (by decide)
  have e2 := pk_and ((w >>> nI (24 - 8 * k)) &&& nI 255) (m := nI 255) 8 (by decide)
  unfold bN
  have e3 : ((w >>> nI (24 - 8 * k)) &&& nI 255) &&& nI 255 = (w >>> nI (24 - 8 * k)) &&& nI 255 := by
    apply Int32.toBitVec_inj.mp
    rw [Int32.toBitVec_and, Int32.toBitVec_and, BitVec.and_assoc, BitVec.and_self]
  rw [e3] at e2
  exact e2
theorem bN_c (w : Int32) (k : Nat) : (w >>> nI (24 - 8 * k)).toInt8.toInt32 = sgn (bN w k) := by
  unfold sgn
  rw [← (bN_e w k).1, i8_255]
theorem sh_and : ∀ k : Nat, k < 4 → nI (24 - 8 * k) &&& nI 31 = nI (24 - 8 * k) := by decide
theorem i8_i8 (y : Int32) : y.toInt8.toInt32.toInt8.toInt32 = y.toInt8.toInt32 := by simp
/-- four bytes come behind -/
theorem c_four {c : Ch} {w : Int32} {n : Nat} (h : Hp) (h1 : c.1 80 1 = nI n) (hn : n + 4 ≤ 900) : ∃ c', gX11_tapeFour h c w = some c' ∧ c'.1 80 1 = nI (n + 4) ∧ (∀ r, ¬ r = 80 → c'.1 r = c.1 r) ∧ (∀ j, ¬ j = 1 → c'.1 80 j = c.1 80 j) ∧ c'.2.1 = c.2.1 ∧ c'.2.2.1 = c.2.2.1 ∧ (∀ r, ¬ r = 81 → c'.2.2.2.1 r = c.2.2.2.1 r) ∧ c'.2.2.2.2 = c.2.2.2.2 ∧ ∀ i, c'.2.2.2.1 81 i = if n ≤ i ∧ i < n + 4 then sgn (bN w (i - n)) else c.2.2.2.1 81 i := by
  unfold gX11_tapeFour gX11_tapeFour_3
  have L := lpw_all (body := fun q : Int32 × Ch => gX11_tapeFour_3b h q.2 w q.1)
    (fun k q => q.1 = nI 32 - nI (8 * (k + 1)) ∧ q.2.1 80 1 = nI (n + k) ∧ (∀ r, ¬ r = 80 → q.2.1 r = c.1 r) ∧ (∀ j, ¬ j = 1 → q.2.1 80 j = c.1 80 j) ∧ q.2.2.1 = c.2.1 ∧ q.2.2.2.1 = c.2.2.1 ∧ (∀ r, ¬ r = 81 → q.2.2.2.2.1 r = c.2.2.2.1 r) ∧ q.2.2.2.2.2 = c.2.2.2.2 ∧ ∀ i, q.2.2.2.2.1 81 i = if n ≤ i ∧ i < n + k then sgn (bN w (i - n)) else c.2.2.2.1 81 i)
    (fun r => r.1 80 1 = nI (n + 4) ∧ (∀ z, ¬ z = 80 → r.1 z = c.1 z) ∧ (∀ j, ¬ j = 1 → r.1 80 j = c.1 80 j) ∧ r.2.1 = c.2.1 ∧ r.2.2.1 = c.2.2.1 ∧ (∀ z, ¬ z = 81 → r.2.2.2.1 z = c.2.2.2.1 z) ∧ r.2.2.2.2 = c.2.2.2.2 ∧ ∀ i, r.2.2.2.1 81 i = if n ≤ i ∧ i < n + 4 then sgn (bN w (i - n)) else c.2.2.2.1 81 i) 4 ?_ ?_ (nI 24, c) ⟨(by decide : nI 24 = nI 32 - nI (8 * (0 + 1))), h1, fun _ _ => rfl, fun _ _ => rfl, rfl, rfl, fun _ _ => rfl, rfl, fun i => by rw [if_neg (by omega)]⟩
  · exact L
  · intro k q hk ⟨e1, e2, e3, e4, e5, e6, e7, e8, e9⟩
    have s1 : nI 32 - nI (8 * (k + 1)) = nI (24 - 8 * k) := by rw [pk_sub (by omega), show 32 - 8 * (k + 1) = 24 - 8 * k by omega]
    have s2 : nI (24 - 8 * k) + Int32.ofInt (-8) = nI 32 - nI (8 * (k + 1 + 1)) := by
      have : ∀ k : Fin 4, nI (24 - 8 * k.1) + Int32.ofInt (-8) = nI 32 - nI (8 * (k.1 + 1 + 1)) := by decide
      exact this ⟨k, hk⟩
    have s3 := sh_and k hk
    have k9 : ¬ 900 ≤ n + k := by omega
    show ∃ s', gX11_tapeFour_3b h q.2 w q.1 = some (.inl s') ∧ _
    rw [e1, s1]
    unfold gX11_tapeFour_3b
    simp (disch := omega) only [n_lit, n_of, n_o1, nI_add, pk_mul, nI_ltI, nI_leI, nI_eq, ↓lift_lt, ↓k_mt, ↓k_mp, if_true, if_false, Bool.false_eq_true, Nat.not_lt_zero, Nat.zero_le, Nat.reduceEqDiff, Nat.reduceLeDiff, e2, k9, s3, cW1_g, bN_c, s2]
    have sg : (sgn (bN w k)).toInt8.toInt32 = sgn (bN w k) := by unfold sgn; rw [i8_i8]
    rw [sg]
    refine ⟨_, rfl, rfl, ?_, fun r hr => ?_, fun j hj => ?_, e5, e6, fun r hr => ?_, e8, fun i => ?_⟩
    · rw [cI_1, if_pos rfl, if_pos rfl, cS_1, e2, nI_add]; rfl
    · rw [cI_n _ hr]; exact e3 r hr
    · rw [cI_1, if_pos rfl, if_neg hj]; exact e4 j hj
    · rw [cI_2, ← e7 r hr]; exact cS_n _ hr
    · rw [cI_2, cS_4, if_pos rfl]
      by_cases z : i = n + k
      · rw [if_pos z, if_pos (by omega), z, show n + k - n = k by omega]
      · rw [if_neg z, e9 i]
        by_cases z2 : n ≤ i ∧ i < n + k
        · rw [if_pos z2, if_pos (by omega)]
        · rw [if_neg z2, if_neg (by omega)]
  · intro q ⟨e1, e2, e3, e4, e5, e6, e7, e8, e9⟩
    have s1 : nI 32 - nI (8 * (4 + 1)) < nI 0 := by decide
    show ∃ r, gX11_tapeFour_3b h q.2 w q.1 = some (.inr r) ∧ _
    rw [e1]
    unfold gX11_tapeFour_3b gX11_tapeFour_46
    simp (disch := omega) only [n_lit, n_of, n_o1, nI_add, pk_mul, nI_ltI, nI_leI, nI_eq, ↓lift_lt, ↓k_mt, ↓k_mp, if_true, if_false, Bool.false_eq_true, Nat.not_lt_zero, Nat.zero_le, Nat.reduceEqDiff, Nat.reduceLeDiff, s1]
    exact ⟨_, rfl, e2, e3, e4, e5, e6, e7, e8, e9⟩
def wd5 (a b c d e : Int32) (k : Nat) : Int32 := if k < 4 then a else if k < 8 then b else if k < 12 then c else if k < 16 then d else e
theorem q_feed {m : Mu} {a b c d e : Int32} {n : Nat} (h1 : m.1 5 = nI n) (hn : n + 20 ≤ 900) : ∃ m', gX12_feed_24 m a b c d e (nI 0) = some (nI (n + 20), m') ∧ m'.1 5 = nI (n + 20) ∧ (∀ r, ¬ r = 5 → m'.1 r = m.1 r) ∧ (∀ r, ¬ r = 3 → m'.2.1 r = m.2.1 r) ∧ m'.2.2 = m.2.2 ∧ ∀ i, m'.2.1 3 i = if n ≤ i ∧ i < n + 20 then nI (bN (wd5 a b c d e (i - n)) ((i - n) % 4)) else m.2.1 3 i := by
  unfold gX12_feed_24
  have L := lpw_all (body := fun q : Int32 × Mu => gX12_feed_24b q.2 a b c d e q.1)
    (fun k q => q.1 = nI k ∧ q.2.1 5 = nI (n + k) ∧ (∀ r, ¬ r = 5 → q.2.1 r = m.1 r) ∧ (∀ r, ¬ r = 3 → q.2.2.1 r = m.2.1 r) ∧ q.2.2.2 = m.2.2 ∧ ∀ i, q.2.2.1 3 i = if n ≤ i ∧ i < n + k then nI (bN (wd5 a b c d e (i - n)) ((i - n) % 4)) else m.2.1 3 i)
    (fun r => r.1 = nI (n + 20) ∧ r.2.1 5 = nI (n + 20) ∧ (∀ z, ¬ z = 5 → r.2.1 z = m.1 z) ∧ (∀ z, ¬ z = 3 → r.2.2.1 z = m.2.1 z) ∧ r.2.2.2 = m.2.2 ∧ ∀ i, r.2.2.1 3 i = if n ≤ i ∧ i < n + 20 then nI (bN (wd5 a b c d e (i - n)) ((i - n) % 4)) else m.2.1 3 i) 20 ?_ ?_ (nI 0, m) ⟨rfl, h1, fun _ _ => rfl, fun _ _ => rfl, rfl, fun i => by rw [if_neg (by omega)]⟩
  · obtain ⟨r, e, e1, e2⟩ := L
    exact ⟨r.2, by rw [e]; exact congrArg some (Prod.ext e1 rfl), e2⟩
  · intro k q hk ⟨e1, e2, e3, e4, e5, e6⟩
    have k20 : ¬ 20 ≤ k := by omega
    have hk4 : k % 4 < 4 := Nat.mod_lt _ (by decide)
    have s3 := sh_and (k % 4) hk4
    have s4 : 8 * (k % 4) ≤ 24 := by omega
    have key : ∀ w : Int32, w = wd5 a b c d e k → ∃ s', gX12_feed_77 q.2 a b c d e (nI k) w = some (.inl s') ∧ s'.1 = nI (k + 1) ∧ s'.2.1 5 = nI (n + (k + 1)) ∧ (∀ r, ¬ r = 5 → s'.2.1 r = m.1 r) ∧ (∀ r, ¬ r = 3 → s'.2.2.1 r = m.2.1 r) ∧ s'.2.2.2 = m.2.2 ∧ ∀ i, s'.2.2.1 3 i = if n ≤ i ∧ i < n + (k + 1) then nI (bN (wd5 a b c d e (i - n)) ((i - n) % 4)) else m.2.1 3 i := by
      intro w hw
      unfold gX12_feed_77
      simp (disch := omega) only [n_lit, n_of, n_o1, nI_add, pk_mul, nI_ltI, nI_leI, nI_eq, ↓lift_lt, ↓k_mt, ↓k_mp, if_true, if_false, Bool.false_eq_true, Nat.not_lt_zero, Nat.zero_le, Nat.reduceEqDiff, Nat.reduceLeDiff, n_rm, pk_sub, s3, (bN_e w (k % 4)).1, e2, mW_3, mS_f]
      refine ⟨_, rfl, rfl, by rw [mI_f, if_pos rfl]; rfl, fun r hr => ?_, fun r hr => ?_, e5, fun i => ?_⟩
      · rw [mI_f, if_neg hr]; exact e3 r hr
      · rw [mI_a, ← e4 r hr]; exact mS_ne _ _ _ hr
      · rw [mI_a, mS_a, if_pos rfl]
        by_cases z : i = n + k
        · rw [if_pos z, if_pos (by omega), z, show n + k - n = k by omega, hw]
        · rw [if_neg z, e6 i]
          by_cases z2 : n ≤ i ∧ i < n + k
          · rw [if_pos z2, if_pos (by omega)]
          · rw [if_neg z2, if_neg (by omega)]
    show ∃ s', gX12_feed_24b q.2 a b c d e q.1 = some (.inl s') ∧ _
    rw [e1]
    unfold gX12_feed_24b
    unfold wd5 at key
    by_cases c4 : k < 4
    · have z1 : ¬ 4 ≤ k := by omega
      simp (disch := omega) only [n_lit, n_of, n_o1, nI_add, pk_mul, nI_ltI, nI_leI, nI_eq, ↓lift_lt, ↓k_mt, ↓k_mp, if_true, if_false, Bool.false_eq_true, Nat.not_lt_zero, Nat.zero_le, Nat.reduceEqDiff, Nat.reduceLeDiff, k20, z1]
      exact key a (by rw [if_pos c4])
    · have z1 : 4 ≤ k := by omega
      by_cases c8 : k < 8
      · have z2 : ¬ 8 ≤ k := by omega
        simp (disch := omega) only [n_lit, n_of, n_o1, nI_add, pk_mul, nI_ltI, nI_leI, nI_eq, ↓lift_lt, ↓k_mt, ↓k_mp, if_true, if_false, Bool.false_eq_true, Nat.not_lt_zero, Nat.zero_le, Nat.reduceEqDiff, Nat.reduceLeDiff, k20, z1, z2]
        exact key b (by rw [if_neg c4, if_pos c8])
      · have z2 : 8 ≤ k := by omega
        by_cases c12 : k < 12
        · have z3 : ¬ 12 ≤ k := by omega
          simp (disch := omega) only [n_lit, n_of, n_o1, nI_add, pk_mul, nI_ltI, nI_leI, nI_eq, ↓lift_lt, ↓k_mt, ↓k_mp, if_true, if_false, Bool.false_eq_true, Nat.not_lt_zero, Nat.zero_le, Nat.reduceEqDiff, Nat.reduceLeDiff, k20, z1, z2, z3]
          exact key c (by rw [if_neg c4, if_neg c8, if_pos c12])
        · have z3 : 12 ≤ k := by omega
          by_cases c16 : k < 16
          · have z4 : ¬ 16 ≤ k := by omega
            simp (disch := omega) only [n_lit, n_of, n_o1, nI_add, pk_mul, nI_ltI, nI_leI, nI_eq, ↓lift_lt, ↓k_mt, ↓k_mp, if_true, if_false, Bool.false_eq_true, Nat.not_lt_zero, Nat.zero_le, Nat.reduceEqDiff, Nat.reduceLeDiff, k20, z1, z2, z3, z4]
            exact key d (by rw [if_neg c4, if_neg c8, if_neg c12, if_pos c16])
          · have z4 : 16 ≤ k := by omega
            simp (disch := omega) only [n_lit, n_of, n_o1, nI_add, pk_mul, nI_ltI, nI_leI, nI_eq, ↓lift_lt, ↓k_mt, ↓k_mp, if_true, if_false, Bool.false_eq_true, Nat.not_lt_zero, Nat.zero_le, Nat.reduceEqDiff, Nat.reduceLeDiff, k20, z1, z2, z3, z4]
            exact key e (by rw [if_neg c4, if_neg c8, if_neg c12, if_neg c16])
  · intro q ⟨e1, e2, e3, e4, e5, e6⟩
    show ∃ r, gX12_feed_24b q.2 a b c d e q.1 = some (.inr r) ∧ _
    rw [e1]
    unfold gX12_feed_24b
    simp (disch := omega) only [n_lit, n_of, n_o1, nI_add, pk_mul, nI_ltI, nI_leI, nI_eq, ↓lift_lt, ↓k_mt, ↓k_mp, if_true, if_false, Bool.false_eq_true, Nat.not_lt_zero, Nat.zero_le, Nat.reduceEqDiff, Nat.reduceLeDiff, Nat.le_refl, e2]
    exact ⟨_, rfl, rfl, e2, e3, e4, e5, e6⟩
def sTp (x : Sp) (p : Nat × (Nat → Nat)) : Sp := (p, zV x, zS x, zH x, zI x, zR x, zF x)
theorem RC_tape {c' : Ch} {p : Nat × (Nat → Nat)} (gC : RC T h V c x) (k1 : ∀ r, ¬ r = 80 → c'.1 r = c.1 r) (k3 : c'.2.2.1 = c.2.2.1) (k4 : ∀ r, ¬ r = 81 → c'.2.2.2.1 r = c.2.2.2.1 r) (k5 : c'.2.2.2.2 = c.2.2.2.2) (h1 : c'.1 80 1 = nI p.1) (h2 : ∀ i, i < p.1 → c'.2.2.2.1 81 i = sgn (p.2 i)) : RC T h V c' (sTp x p) := by
  obtain ⟨⟨a1, a2, a3, a4, ⟨a5, nx, a5a, a5b, a5c⟩, a6, a7, a8, a9⟩, ⟨a, ch, t1, t2, t3, t4, t5, t6, t7⟩, g3⟩ := gC
  have ks : ∀ j, c'.1 (sadr j) = c.1 (sadr j) := fun j => k1 _ (by have := sadr_b j; omega)
  refine ⟨⟨h1, h2, by rw [k3]; exact a3, stc_eq (ks 0) a4, ⟨by rw [k1 93 (by omega)]; exact a5, nx, a5a, by rw [k1 93 (by omega)]; exact a5b, fun i hi => stc_eq (ks _) (a5c i hi)⟩, fun i hi => ?_, fun t ht => ?_, by rw [k1 82 (by omega)]; exact a8, by rw [k1 82 (by omega)]; exact a9⟩, ⟨a, ch, by rw [k3]; exact t1, t2, t3, by rw [k1 108 (by omega)]; exact t4, t5, by rw [k4 111 (by decide)]; exact t6, by rw [k4 112 (by decide)]; exact t7⟩, SI_eq (k1 116 (by omega)) (by rw [k3]) (k4 117 (by decide)) (k4 118 (by decide)) (k4 119 (by decide)) (k4 120 (by decide)) g3⟩
  · have b := a6 i hi
    show imC h V c' i (zI x i)
    unfold imC at *
    cases hz : zI x i with
    | none => rw [hz] at b; simp only [k5]; exact b
    | some p =>
      rw [hz] at b
      obtain ⟨a, b1, b2, b3, b4⟩ := b
      exact ⟨a, by rw [k5]; exact b1, b2, b3, stc_eq (ks _) b4⟩
  · have b := a7 t ht
    have tb := tadr_b (t := t)
    show trC c' t (zR x t)
    unfold trC at *
    rw [k1 (tadr t) (by omega), k5]
    exact b
theorem op_feed (x1 x2 x3 x4 x5 : Int32) (gC : RC T h V c x) (gM : RM m x) (hw : WF x) : OKs T h V (gX11_feed h c x1 x2 x3 x4 x5) (gX12_feed m x1 x2 x3 x4 x5) := by
  have c1 := gC.1.1
  have m1 := (RM_0 gM (nI 0)).1
  have hn := hw.1
  unfold gX11_feed gX12_feed
  by_cases hn2 : (zT x).1 + 20 ≤ 900
  · obtain ⟨n, hnn⟩ : ∃ n, n = (zT x).1 := ⟨_, rfl⟩
    rw [← hnn] at c1 m1 hn2
    obtain ⟨d1, g1, p1, q1, r1, s1, t1, u1, v1, w1⟩ := c_four (w := x1) h c1 (by omega)
    obtain ⟨d2, g2, p2, q2, r2, s2, t2, u2', v2, w2⟩ := c_four (w := x2) h p1 (by omega)
    obtain ⟨d3, g3, p3, q3, r3, s3, t3, u3, v3, w3⟩ := c_four (w := x3) h p2 (by omega)
    obtain ⟨d4, g4, p4, q4, r4, s4, t4, u4, v4, w4⟩ := c_four (w := x4) h p3 (by omega)
    obtain ⟨d5', g5, p5, q5, r5, s5, t5, u5, v5, w5⟩ := c_four (w := x5) h p4 (by omega)
    obtain ⟨m', em, f1, f2, f3, f4, f5⟩ := q_feed (m := mI m 0 (nI 0)) (a := x1) (b := x2) (c := x3) (d := x4) (e := x5) m1 hn2
    refine ⟨nI (n + 20), d5', m', sTp x (n + 20, fun i => if n ≤ i ∧ i < n + 20 then bN (wd5 x1 x2 x3 x4 x5 (i - n)) ((i - n) % 4) else (zT x).2 i), ?_, ?_, RC_T (by omega) (RC_tape gC (fun r hr => ?_) ?_ (fun r hr => ?_) ?_ p5 (fun i hi => ?_)), ?_, ?_⟩
    · simp (disch := omega) only [n_lit, n_of, n_o1, nI_add, pk_mul, nI_ltI, nI_leI, nI_eq, ↓lift_lt, ↓k_mt, ↓k_mp, if_true, if_false, Bool.false_eq_true, Nat.not_lt_zero, Nat.zero_le, Nat.reduceEqDiff, Nat.reduceLeDiff, c1, hn2, g1, g2, g3, g4, g5, p5]
    · simp (disch := omega) only [n_lit, n_of, n_o1, nI_add, pk_mul, nI_ltI, nI_leI, nI_eq, ↓lift_lt, ↓k_mt, ↓k_mp, if_true, if_false, Bool.false_eq_true, Nat.not_lt_zero, Nat.zero_le, Nat.reduceEqDiff, Nat.reduceLeDiff, m1, hn2, em]
    · rw [q5 r hr, q4 r hr, q3 r hr, q2 r hr, q1 r hr]
    · rw [t5, t4, t3, t2, t1]
    · rw [u5 r hr, u4 r hr, u3 r hr, u2' r hr, u1 r hr]
    · rw [v5, v4, v3, v2, v1]
    · rw [w5, w4, w3, w2, w1]
      show _ = sgn (if n ≤ i ∧ i < n + 20 then bN (wd5 x1 x2 x3 x4 x5 (i - n)) ((i - n) % 4) else (zT x).2 i)
      have hi : i < n + 20 := hi
      unfold wd5
      by_cases a1 : n ≤ i
      · by_cases a4 : i < n + 4
        · have e0 : (i - n) % 4 = i - n := by omega
          simp (disch := omega) only [if_pos, if_neg, e0]
        · by_cases a8 : i < n + 8
          · have e0 : (i - n) % 4 = i - (n + 4) := by omega
            simp (disch := omega) only [if_pos, if_neg, e0]
          · by_cases a12 : i < n + 12
            · have e0 : (i - n) % 4 = i - (n + 4 + 4) := by omega
              simp (disch := omega) only [if_pos, if_neg, e0]
            · by_cases a16 : i < n + 16
              · have e0 : (i - n) % 4 = i - (n + 4 + 4 + 4) := by omega
                simp (disch := omega) only [if_pos, if_neg, e0]
              · have e0 : (i - n) % 4 = i - (n + 4 + 4 + 4 + 4) := by omega
                simp (disch := omega) only [if_pos, if_neg, e0]
      · simp (disch := omega) only [if_neg]
        exact gC.1.2.1 i (by omega)
    · obtain ⟨b1, b2, b3, b4, b5, b6, b7, b8, b9, b10⟩ := gM
      refine ⟨f1, fun i hi => ?_, by rw [f3 1 (by decide)]; exact b3, by rw [f3 1 (by decide)]; exact b4, by rw [f3 1 (by decide)]; exact b5, fun i hi => by rw [f3 1 (by decide)]; exact b6 i hi, fun i hi => by rw [f3 1 (by decide), f3 2 (by decide)]; exact b7 i hi, fun t ht => by rw [f3 21 (by decide), f3 22 (by decide), f4]; exact b8 t ht, by rw [f2 13 (by decide)]; exact b9, by rw [f2 14 (by decide)]; exact b10⟩
      have hi : i < n + 20 := hi
      rw [f5]
      show _ = nI (if n ≤ i ∧ i < n + 20 then _ else _)
      by_cases a1 : n ≤ i ∧ i < n + 20
      · rw [if_pos a1, if_pos a1]
      · rw [if_neg a1, if_neg a1]
        exact b2 i (by omega)
    · obtain ⟨w1, w2, w3⟩ := hw
      refine ⟨hn2, fun i => ?_, w3⟩
      show (if n ≤ i ∧ i < n + 20 then _ else _) < 256
      split
      · exact (bN_e _ _).2
      · exact w2 i
  · refine OK_no gC gM hw (-nI 5) ?_ ?_
    · simp (disch := omega) only [n_lit, n_of, n_o1, nI_add, pk_mul, nI_ltI, nI_leI, nI_eq, ↓lift_lt, ↓k_mt, ↓k_mp, if_true, if_false, Bool.false_eq_true, Nat.not_lt_zero, Nat.zero_le, Nat.reduceEqDiff, Nat.reduceLeDiff, c1, hn2]
    · simp (disch := omega) only [n_lit, n_of, n_o1, nI_add, pk_mul, nI_ltI, nI_leI, nI_eq, ↓lift_lt, ↓k_mt, ↓k_mp, if_true, if_false, Bool.false_eq_true, Nat.not_lt_zero, Nat.zero_le, Nat.reduceEqDiff, Nat.reduceLeDiff, m1, hn2]
end OPS4
