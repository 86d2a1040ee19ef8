/-! the same once more: only the row that is spread to is written -/
def Av (w r : Nat) : Bool := (decide (109 ≤ r) && decide (r < 114)) || decide (r = wadr w)
theorem Av_12 {w r : Nat} (h : Av w r = false) : A112 r = false := by
  unfold Av at h
  unfold A112
  simp only [Bool.or_eq_false_iff, Bool.and_eq_false_iff, decide_eq_false_iff_not] at h ⊢
  omega
theorem Av_w (w : Nat) : Av w (wadr w) = true := by
  unfold Av
  rw [Bool.or_eq_true]
  exact Or.inr (decide_eq_true rfl)
theorem Av_Aw {w r : Nat} (h : Aw r = false) : Av w r = false := by
  unfold Aw at h
  unfold Av wadr
  simp only [Bool.or_eq_false_iff, Bool.and_eq_false_iff, decide_eq_false_iff_not] at h ⊢
  split <;> omega
section SPREADV
variable {h : Hp} {V : Nat → Cv} {c : Ch} {a ch : Nat}
theorem c_sp50v {c0 : Ch} {s dry p w : Nat} (H : CT h V c a ch) (hf : cfr (Av w) c0 c) (hsh : shOK (V a) ch s dry c p 0) (hs : s < 10000) (hd : dry < 2) (hp : p < vP (V a)) :
    ∃ c', gX1_spread_50 h c (nI s) (nI dry) w (nI (mets (vP (V a)) s)) (nI p) (nI (dg s p)) (nI 0) = some (.inl (nI (p + 1), c')) ∧ CT h V c' a ch ∧ cfr (Av w) c0 c' ∧ shOK (V a) ch s dry c' (p + 1) 0 := by
  have hC := H.2.1
  have hW := H.2.2.1
  have hP := hW.1
  have hD := hW.2.1
  have hm4 := mets_le (vP (V a)) s
  have hdg := dg_lt s p
  unfold gX1_spread_50
  have K := lpw_all (body := fun q : Int32 × Ch => gX1_spread_50b h q.2 (nI s) (nI dry) w (nI (mets (vP (V a)) s)) (nI p) (nI (dg s p)) q.1)
    (fun k q => q.1 = nI k ∧ CT h V q.2 a ch ∧ cfr (Av w) c0 q.2 ∧ shOK (V a) ch s dry q.2 p k)
    (fun r => ∃ c', r = .inl (nI (p + 1), c') ∧ CT h V c' a ch ∧ cfr (Av w) c0 c' ∧ shOK (V a) ch s dry c' (p + 1) 0) (vD (V a) + 1) ?_ ?_ (nI 0, c) ⟨rfl, H, hf, hsh⟩
  · obtain ⟨r, e, c', e1, h1⟩ := K
    exact ⟨c', by rw [e, e1], h1⟩
  · intro k q hk ⟨e1, hT, hfr, hS⟩
    have h2 : ¬ vD (V a) < k := by omega
    have fin : ∀ c1 : Ch, CT h V c1 a ch → cfr (Av w) c0 c1 → c1.2.2.2.1 113 = q.2.2.2.2.1 113 → CT h V (cS c1 113 (p * 5 + k) (nI (shv (V a) ch s dry p k * 10 ^ p))) a ch ∧ cfr (Av w) c0 (cS c1 113 (p * 5 + k) (nI (shv (V a) ch s dry p k * 10 ^ p))) ∧ shOK (V a) ch s dry (cS c1 113 (p * 5 + k) (nI (shv (V a) ch s dry p k * 10 ^ p))) p (k + 1) := by
      intro c1 t1 t2 t3
      refine ⟨CT_w t1 (by decide) (by decide), cfr_S t2 rfl, fun p' r hp' hr hh => ?_⟩
      rw [cS_4, if_pos rfl]
      by_cases e : p' * 5 + r = p * 5 + k
      · have : p' = p ∧ r = k := by omega
        rw [if_pos e, this.1, this.2]
      · rw [if_neg e, t3]
        refine hS p' r hp' hr ?_
        rcases hh with z | z
        · exact Or.inl z
        · refine Or.inr ⟨z.1, ?_⟩
          have : ¬ r = k := fun q => e (by rw [z.1, q])
          omega
    show ∃ s', gX1_spread_50b h q.2 (nI s) (nI dry) w (nI (mets (vP (V a)) s)) (nI p) (nI (dg s p)) q.1 = some (.inl s') ∧ _
    rw [e1]
    unfold gX1_spread_50b gX1_spread_90
    have hp4 : p < 4 := by omega
    by_cases h0 : dg s p = 0
    · have e0 : shv (V a) ch s dry p k = 0 := if_pos h0
      obtain ⟨t1, t2, t3⟩ := fin q.2 hT hfr rfl
      rw [e0] at t1 t2 t3
      simp (disch := omega) only [n_lit, n_of, n_o1, nI_add, pk_mul, nI_ltI, nI_leI, nI_eq, ↓lift_lt, ↓k_mt, ↓k_mp, if_true, if_false, Bool.false_eq_true, Nat.not_lt_zero, Nat.zero_le, Nat.reduceEqDiff, Nat.reduceLeDiff, Nat.reduceLT, hT.1, cv_D hC, h2, h0, n_tT1, cW0_g]
      exact ⟨_, rfl, rfl, t1, t2, t3⟩
    · have e0 : shv (V a) ch s dry p k = kN (nI (dg s p) - grw (vg (V a)) ch p k (dg s p) (mets (vP (V a)) s) dry) := if_neg h0
      obtain ⟨c1, ec1, hT1, fr1⟩ := c_growth (p := p) (drops := k) (gap := dg s p) (met := mets (vP (V a)) s) (dry := dry) hT hp4 (by omega) hdg (by omega) hd
      obtain ⟨t1, t2, t3⟩ := fin c1 hT1 (cfr_tr hfr (cfr_le fr1 (fun r hr => Av_12 hr))) (fr1.2.2.2.1 113 rfl)
      rw [e0] at t1 t2 t3
      simp (disch := omega) only [n_lit, n_of, n_o1, nI_add, pk_mul, nI_ltI, nI_leI, nI_eq, ↓lift_lt, ↓k_mt, ↓k_mp, if_true, if_false, Bool.false_eq_true, Nat.not_lt_zero, Nat.zero_le, Nat.reduceEqDiff, Nat.reduceLeDiff, Nat.reduceLT, hT.1, cv_D hC, h2, h0, ec1, c_kept, n_tT1, cW0_g]
      exact ⟨_, rfl, rfl, t1, t2, t3⟩
  · intro q ⟨e1, hT, hfr, hS⟩
    have h2 : vD (V a) < vD (V a) + 1 := by omega
    show ∃ r, gX1_spread_50b h q.2 (nI s) (nI dry) w (nI (mets (vP (V a)) s)) (nI p) (nI (dg s p)) q.1 = some (.inr r) ∧ _
    rw [e1]
    unfold gX1_spread_50b gX1_spread_119
    simp (disch := omega) only [n_lit, n_of, n_o1, nI_add, pk_mul, nI_ltI, nI_leI, nI_eq, ↓lift_lt, ↓k_mt, ↓k_mp, if_true, if_false, Bool.false_eq_true, Nat.not_lt_zero, Nat.zero_le, Nat.reduceEqDiff, Nat.reduceLeDiff, Nat.reduceLT, hT.1, cv_D hC, h2]
    refine ⟨_, rfl, q.2, rfl, hT, hfr, fun p' r hp' hr hh => hS p' r hp' hr ?_⟩
    rcases hh with z | z
    · by_cases e : p' = p
      · exact Or.inr ⟨e, by omega⟩
      · exact Or.inl ⟨by omega, z.2⟩
    · omega
theorem c_sp154v {c0 : Ch} {s dry w sa x6 : Nat} (H : CT h V c a ch) (hf : cfr (Av w) c0 c) (hsh : shOK (V a) ch s dry c (vP (V a)) 0) (hs : s < 10000) (hd : dry < 2)
    (hsa : ∀ c i, i < 4 * nL (V a) → aI 0 (cput h c) sa (nI i) = some (nI (i % 4 * 5 + d5 (ld (V a) (i / 4)) (i % 4)))) (hx : (x6 = 0 ∧ vf (V a) = none) ∨ x6 = 1) :
    ∃ c', gX1_spread_154 h c (nI dry) w sa (nI x6) (nI 0) = some c' ∧ CT h V c' a ch ∧ cfr (Av w) c0 c' ∧ ∀ i, i < nL (V a) → c'.2.2.2.1 (wadr w) i = nI (Yr (V a) ch s (ld (V a) i) dry) := by
  have hC := H.2.1
  have hW := H.2.2.1
  have hP := hW.1
  have hD := hW.2.1
  have hp10 := pow10_le hP
  obtain ⟨nL0, nL35⟩ := nL_b hW
  obtain ⟨la, l1, l2, l3⟩ := cv_la hW hC
  unfold gX1_spread_154
  have K := lpw_all (body := fun q : Int32 × Ch => gX1_spread_154b h q.2 (nI dry) w sa (nI x6) q.1)
    (fun k q => q.1 = nI k ∧ CT h V q.2 a ch ∧ cfr (Av w) c0 q.2 ∧ shOK (V a) ch s dry q.2 (vP (V a)) 0 ∧ ∀ i, i < k → q.2.2.2.2.1 (wadr w) i = nI (Yr (V a) ch s (ld (V a) i) dry))
    (fun c' => CT h V c' a ch ∧ cfr (Av w) c0 c' ∧ ∀ i, i < nL (V a) → c'.2.2.2.1 (wadr w) i = nI (Yr (V a) ch s (ld (V a) i) dry)) (nL (V a)) ?_ ?_ (nI 0, c) ⟨rfl, H, hf, hsh, fun i hi => by omega⟩
  · exact K
  · intro k q hk ⟨e1, hT, hfr, hS, hw⟩
    have h2 : ¬ nL (V a) ≤ k := by omega
    have hisL := (ld_isL hk).1
    have hsum : 0 < vP (V a) → dsum (vP (V a)) (ld (V a) k) = vD (V a) := hisL.2
    show ∃ s', gX1_spread_154b h q.2 (nI dry) w sa (nI x6) q.1 = some (.inl s') ∧ _
    rw [e1]
    unfold gX1_spread_154b
    simp (disch := omega) only [n_lit, n_of, n_o1, nI_add, pk_mul, nI_ltI, nI_leI, nI_eq, ↓lift_lt, ↓k_mt, ↓k_mp, if_true, if_false, Bool.false_eq_true, Nat.not_lt_zero, Nat.zero_le, Nat.reduceEqDiff, Nat.reduceLeDiff, Nat.reduceLT, hT.1, l1, l2, h2]
    obtain ⟨T, hTe⟩ : ∃ T, T = yto (grw (vg (V a)) ch) (vP (V a)) s (ld (V a) k) dry := ⟨_, rfl⟩
    have hTl : T < 10 ^ vP (V a) := by rw [hTe]; exact cod_lt _ (fun p => ygap_lt _ _ _ _ _ p) _
    -- what becomes of it
    have last : ∃ c', gX1_spread_214 h q.2 (nI dry) w sa (nI x6) (nI k) (nI T) = some (.inl (nI (k + 1), c')) ∧ CT h V c' a ch ∧ cfr (Av w) c0 c' ∧ shOK (V a) ch s dry c' (vP (V a)) 0 ∧ ∀ i, i < k + 1 → c'.2.2.2.1 (wadr w) i = nI (Yr (V a) ch s (ld (V a) i) dry) := by
      have fin : ∀ c1 : Ch, CT h V c1 a ch → cfr (Av w) c0 c1 → c1.2.2.2.1 113 = q.2.2.2.2.1 113 → c1.2.2.2.1 (wadr w) = q.2.2.2.2.1 (wadr w) → ∀ x, x = nI (Yr (V a) ch s (ld (V a) k) dry) → CT h V (cS c1 (wadr w) k x) a ch ∧ cfr (Av w) c0 (cS c1 (wadr w) k x) ∧ shOK (V a) ch s dry (cS c1 (wadr w) k x) (vP (V a)) 0 ∧ ∀ i, i < k + 1 → (cS c1 (wadr w) k x).2.2.2.1 (wadr w) i = nI (Yr (V a) ch s (ld (V a) i) dry) := by
        intro c1 t1 t2 t3 t4 x hx
        refine ⟨CT_w t1 (wadr_ne w).2.1 (wadr_ne w).2.2, cfr_S t2 (Av_w w), fun p' r hp' hr hh => ?_, fun i hi => ?_⟩
        · rw [cS_n c1 (wadr_ne w).1, t3]
          exact hS p' r hp' hr hh
        · rw [cS_4, if_pos rfl]
          by_cases e : i = k
          · rw [if_pos e, e, hx]
          · rw [if_neg e, t4]
            exact hw i (by omega)
      have hk35 : k < 35 := by omega
      unfold gX1_spread_214 gX1_spread_241 gX1_spread_243
      rcases hx with ⟨hx0, hfl⟩ | hx1
      · have hY : Yr (V a) ch s (ld (V a) k) dry = T := by
          unfold Yr yr
          rw [if_neg (by omega), ← hTe, hfl]
          exact if_neg (by intro z; cases z)
        obtain ⟨t1, t2, t3, t4⟩ := fin q.2 hT hfr rfl rfl (nI T) (by rw [hY])
        subst hx0
        simp (disch := omega) only [n_lit, n_of, n_o1, nI_add, pk_mul, nI_ltI, nI_leI, nI_eq, ↓lift_lt, ↓k_mt, ↓k_mp, if_true, if_false, Bool.false_eq_true, Nat.not_lt_zero, Nat.zero_le, Nat.reduceEqDiff, Nat.reduceLeDiff, Nat.reduceLT, cW0_g]
        exact ⟨_, rfl, t1, t2, t3, t4⟩
      · subst hx1
        obtain ⟨c1, ec1, hT1, fr1⟩ := c_collapses (s := T) (dry := dry) hT (by omega) hd
        have fr1' : cfr (Av w) c0 c1 := cfr_tr hfr (cfr_le fr1 (fun r hr => Av_12 hr))
        have b5 : ¬ ((1 : Nat) = 0) := by decide
        have w12 : A112 (wadr w) = false := by unfold wadr; split <;> rfl
        by_cases hr : roof (vf (V a)) (vP (V a)) T dry = true
        · rw [if_pos hr] at ec1
          have hY : Yr (V a) ch s (ld (V a) k) dry = T + 10000 := by
            unfold Yr yr
            rw [if_neg (by omega), ← hTe, if_pos hr]
          obtain ⟨t1, t2, t3, t4⟩ := fin c1 hT1 fr1' (fr1.2.2.2.1 113 rfl) (fr1.2.2.2.1 _ w12) (nI (T + 10000)) (by rw [hY])
          simp (disch := omega) only [n_lit, n_of, n_o1, nI_add, pk_mul, nI_ltI, nI_leI, nI_eq, ↓lift_lt, ↓k_mt, ↓k_mp, if_true, if_false, Bool.false_eq_true, Nat.not_lt_zero, Nat.zero_le, Nat.reduceEqDiff, Nat.reduceLeDiff, Nat.reduceLT, b5, ec1, cW0_g]
          exact ⟨_, rfl, t1, t2, t3, t4⟩
        · rw [if_neg hr] at ec1
          have hY : Yr (V a) ch s (ld (V a) k) dry = T := by
            unfold Yr yr
            rw [if_neg (by omega), ← hTe, if_neg hr]
          obtain ⟨t1, t2, t3, t4⟩ := fin c1 hT1 fr1' (fr1.2.2.2.1 113 rfl) (fr1.2.2.2.1 _ w12) (nI T) (by rw [hY])
          simp (disch := omega) only [n_lit, n_of, n_o1, nI_add, pk_mul, nI_ltI, nI_leI, nI_eq, ↓lift_lt, ↓k_mt, ↓k_mp, if_true, if_false, Bool.false_eq_true, Nat.not_lt_zero, Nat.zero_le, Nat.reduceEqDiff, Nat.reduceLeDiff, Nat.reduceLT, b5, ec1, cW0_g]
          exact ⟨_, rfl, t1, t2, t3, t4⟩
    obtain ⟨c', ec', r1, r2, r3, r4⟩ := last
    refine ⟨(nI (k + 1), c'), ?_, rfl, r1, r2, r3, r4⟩
    unfold gX1_spread_176
    have J := lpw_iter (body := fun z : Int32 × Int32 => gX1_spread_176b h q.2 (nI dry) w sa (nI x6) (nI k) z.1 z.2) (fun j => (nI (cod (ygap (grw (vg (V a)) ch) (vP (V a)) s (ld (V a) k) dry) j), nI (k * 4 + j))) (vP (V a)) (.inl (nI (k + 1), c')) ?_ ?_
    · exact J
    · intro j hj
      have j1 : ¬ k * 4 + vP (V a) ≤ k * 4 + j := by omega
      have j2 : (k * 4 + j) % 4 = j := by omega
      have j3 : (k * 4 + j) / 4 = k := by omega
      have j5 : d5 (ld (V a) k) j < 5 := d5_lt _ _
      have j6 : d5 (ld (V a) k) j ≤ vD (V a) := by
        rw [← hsum (by omega)]
        exact dsum_le hj
      have jv := hS j (d5 (ld (V a) k) j) (by omega) j5 (Or.inl ⟨hj, j6⟩)
      have j4 := hsa q.2 (k * 4 + j) (by omega)
      rw [j2, j3] at j4
      unfold gX1_spread_176b
      simp (disch := omega) only [n_lit, n_of, n_o1, nI_add, pk_mul, nI_ltI, nI_leI, nI_eq, ↓lift_lt, ↓k_mt, ↓k_mp, if_true, if_false, Bool.false_eq_true, Nat.not_lt_zero, Nat.zero_le, Nat.reduceEqDiff, Nat.reduceLeDiff, Nat.reduceLT, hT.1, cv_P hC, j1, j4, cA_g, jv]
      rfl
    · have hcT : cod (ygap (grw (vg (V a)) ch) (vP (V a)) s (ld (V a) k) dry) (vP (V a)) = T := hTe.symm
      show gX1_spread_176b h q.2 (nI dry) w sa (nI x6) (nI k) (nI (cod (ygap (grw (vg (V a)) ch) (vP (V a)) s (ld (V a) k) dry) (vP (V a)))) (nI (k * 4 + vP (V a))) = _
      rw [hcT]
      unfold gX1_spread_176b
      simp (disch := omega) only [n_lit, n_of, n_o1, nI_add, pk_mul, nI_ltI, nI_leI, nI_eq, ↓lift_lt, ↓k_mt, ↓k_mp, if_true, if_false, Bool.false_eq_true, Nat.not_lt_zero, Nat.zero_le, Nat.reduceEqDiff, Nat.reduceLeDiff, Nat.reduceLT, hT.1, cv_P hC, Nat.le_refl, ec']
  · intro q ⟨e1, hT, hfr, hS, hw⟩
    show ∃ r, gX1_spread_154b h q.2 (nI dry) w sa (nI x6) q.1 = some (.inr r) ∧ _
    rw [e1]
    unfold gX1_spread_154b
    simp (disch := omega) only [n_lit, n_of, n_o1, nI_add, pk_mul, nI_ltI, nI_leI, nI_eq, ↓lift_lt, ↓k_mt, ↓k_mp, if_true, if_false, Bool.false_eq_true, Nat.not_lt_zero, Nat.zero_le, Nat.reduceEqDiff, Nat.reduceLeDiff, Nat.reduceLT, hT.1, l1, l2, Nat.le_refl]
    exact ⟨_, rfl, hT, hfr, hw⟩
theorem c_spreadv {s dry w : Nat} (H : CT h V c a ch) (hs : s < 10000) (hd : dry < 2) :
    ∃ c', gX1_spread h c (nI s) (nI dry) w = some c' ∧ CT h V c' a ch ∧ cfr (Av w) c c' ∧ ∀ i, i < nL (V a) → c'.2.2.2.1 (wadr w) i = nI (Yr (V a) ch s (ld (V a) i) dry) := by
  have hC := H.2.1
  have hW := H.2.2.1
  have hP := hW.1
  obtain ⟨nL0, nL35⟩ := nL_b hW
  obtain ⟨la, l1, l2, l3⟩ := cv_la hW hC
  obtain ⟨sa, s1, s2⟩ := cv_sa hW hC
  obtain ⟨o, ho, hL⟩ := cv_f hC
  unfold gX1_spread
  simp (disch := omega) only [n_lit, n_of, n_o1, nI_add, pk_mul, nI_ltI, nI_leI, nI_eq, ↓lift_lt, ↓k_mt, ↓k_mp, if_true, if_false, Bool.false_eq_true, Nat.not_lt_zero, Nat.zero_le, Nat.reduceEqDiff, Nat.reduceLeDiff, Nat.reduceLT, H.1, l1, l2, nL35, cv_O hC, c_metCount hC hP (show s < 2 ^ 31 by omega)]
  unfold gX1_spread_27
  have K := lpw_all (body := fun q : Int32 × Ch => gX1_spread_27b h q.2 (nI s) (nI dry) w (nI (mets (vP (V a)) s)) q.1)
    (fun k q => q.1 = nI k ∧ CT h V q.2 a ch ∧ cfr (Av w) c q.2 ∧ shOK (V a) ch s dry q.2 k 0)
    (fun c' => CT h V c' a ch ∧ cfr (Av w) c c' ∧ ∀ i, i < nL (V a) → c'.2.2.2.1 (wadr w) i = nI (Yr (V a) ch s (ld (V a) i) dry)) (vP (V a)) ?_ ?_ (nI 0, c) ⟨rfl, H, cfr_rfl _ c, fun p' r hp' hr hh => by omega⟩
  · exact K
  · intro k q hk ⟨e1, hT, hfr, hS⟩
    have h2 : ¬ vP (V a) ≤ k := by omega
    obtain ⟨c1, ec1, t1, t2, t3⟩ := c_sp50v (w := w) hT hfr hS hs hd hk
    show ∃ s', gX1_spread_27b h q.2 (nI s) (nI dry) w (nI (mets (vP (V a)) s)) q.1 = some (.inl s') ∧ _
    rw [e1]
    unfold gX1_spread_27b
    simp (disch := omega) only [n_lit, n_of, n_o1, nI_add, pk_mul, nI_ltI, nI_leI, nI_eq, ↓lift_lt, ↓k_mt, ↓k_mp, if_true, if_false, Bool.false_eq_true, Nat.not_lt_zero, Nat.zero_le, Nat.reduceEqDiff, Nat.reduceLeDiff, Nat.reduceLT, hT.1, cv_P hC, h2, c_digit, ec1]
    exact ⟨_, rfl, rfl, t1, t2, t3⟩
  · intro q ⟨e1, hT, hfr, hS⟩
    show ∃ r, gX1_spread_27b h q.2 (nI s) (nI dry) w (nI (mets (vP (V a)) s)) q.1 = some (.inr r) ∧ _
    rw [e1]
    unfold gX1_spread_27b gX1_spread_125 gX1_spread_149
    simp (disch := omega) only [n_lit, n_of, n_o1, nI_add, pk_mul, nI_ltI, nI_leI, nI_eq, ↓lift_lt, ↓k_mt, ↓k_mp, if_true, if_false, Bool.false_eq_true, Nat.not_lt_zero, Nat.zero_le, Nat.reduceEqDiff, Nat.reduceLeDiff, Nat.reduceLT, hT.1, cv_P hC, Nat.le_refl, s1, ho]
    cases o with
    | none =>
      have hn : vf (V a) = none := by
        cases hg : vf (V a) with
        | none => rfl
        | some code => rw [hg] at hL; obtain ⟨_, _, _, q, -⟩ := hL; cases q
      obtain ⟨c', e', t⟩ := c_sp154v (w := w) (sa := sa) (x6 := 0) hT hfr hS hs hd s2 (Or.inl ⟨rfl, hn⟩)
      simp only [e']
      exact ⟨_, rfl, t⟩
    | some n =>
      obtain ⟨c', e', t⟩ := c_sp154v (w := w) (sa := sa) (x6 := 1) hT hfr hS hs hd s2 (Or.inr rfl)
      simp only [e']
      exact ⟨_, rfl, t⟩
end SPREADV
