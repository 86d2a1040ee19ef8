/-! when each meets, on both sides -/
/-- what is told of the pairs by the first k years -/
def MT (F : Nat → Nat) (s : Nat) (f : Nat → Int32) (p k : Nat) : Prop := (∃ n, n < k ∧ f p = nI n ∧ dg (itr F s n) p = 0 ∧ ∀ i, i < n → ¬ dg (itr F s i) p = 0) ∨ (f p = -nI 1 ∧ ∀ n, n < k → ¬ dg (itr F s n) p = 0)
theorem gsum_0 {s : Nat} : ∀ {P : Nat}, gsum P s = 0 → ∀ p, p < P → dg s p = 0
  | 0, _, p, hp => by omega
  | P + 1, h, p, hp => by
    have h : gsum P s + dg s P = 0 := h
    by_cases e : p = P
    · rw [e]; omega
    · exact gsum_0 (P := P) (by omega) p (by omega)
theorem yadr_s (j : Nat) : scr (yadr j) = true ∧ A112 (yadr j) = false := by unfold yadr; split <;> exact ⟨rfl, rfl⟩
section CMEET
variable {h : Hp} {V : Nat → Cv} {c : Ch} {a0 ch s l j : Nat}
theorem CT_y {i : Nat} {y : Int32} (H : CT h V c a0 ch) : CT h V (cS c (yadr j) i y) a0 ch := CT_w H (by unfold yadr; split <;> decide) (by unfold yadr; split <;> decide)
theorem WK_S {F : Nat → Nat} {k a e r i : Nat} {y : Int32} (W : WK F s l c k a e) : WK F s l (cS c r i y) k a e := W
theorem c_tm92 {F : Nat → Nat} {k a e i : Nat} (hF : F = fun t => Yr (V a0) ch t l 0) (hok : ∀ k, itr F s k < 20000) (hl : l < 2 ^ 31) (hT : CT h V c a0 ch) (W : WK F s l c k a e) (hM : ∀ p, p < vP (V a0) → MT F s (c.2.2.2.1 (yadr j)) p (k + 1)) :
    ∃ b c', gX10_tellMeetings_92 h c j a0 (nI i) = some (.inl (nI b, nI (i + 1), c')) ∧ CT h V c' a0 ch ∧ qfr c c' ∧ (∀ z, A112 z = false → c'.2.2.2.1 z = c.2.2.2.1 z) ∧ ((b = 1 ∧ ∃ a' e', WK F s l c' (k + 1) a' e') ∨ (b = 0 ∧ ∀ p, p < vP (V a0) → fst1 (fun n => dg (itr F s n) p = 0) (c'.2.2.2.1 (yadr j) p))) := by
  have hC := hT.2.1
  have hP := hT.2.2.1.1
  have okk := hok k
  have kb := WK_b W
  have i1 : ¬ (1 = 0) := by decide
  have gs := gsum_le (vP (V a0)) (itr F s k)
  unfold gX10_tellMeetings_92 gX10_tellMeetings_115 gX10_tellMeetings_116
  by_cases hg : gsum (vP (V a0)) (itr F s k) ≤ 0
  · have hg0 : gsum (vP (V a0)) (itr F s k) = 0 := by omega
    refine ⟨0, c, ?_, hT, qfr_rfl c, fun _ _ => rfl, Or.inr ⟨rfl, fun p hp => ?_⟩⟩
    · simp (disch := omega) only [n_lit, n_of, n_o1, nI_add, pk_mul, nI_ltI, nI_leI, nI_eq, ↓lift_lt, ↓k_mt, ↓k_mp, if_true, if_false, Bool.false_eq_true, Nat.not_lt_zero, Nat.zero_le, Nat.reduceEqDiff, Nat.reduceLeDiff, Nat.reduceLT, cv_O hC, W.2.1, c_gapSum hC hP (show itr F s k < 2 ^ 31 by omega), hg]
    · rcases hM p hp with ⟨n, h1, h2, h3, h4⟩ | ⟨h1, h2⟩
      · exact Or.inl ⟨n, by omega, h2, h3, h4⟩
      · exact absurd (gsum_0 hg0 p hp) (h2 k (by omega))
  · obtain ⟨r, c', er, T', q', z', hh⟩ := c_step hF hok hl hT W
    rcases hh with ⟨r0, gm, hak, -⟩ | ⟨r0, a', e', W'⟩
    · subst r0
      refine ⟨0, c', ?_, T', q', z', Or.inr ⟨rfl, fun p hp => ?_⟩⟩
      · simp (disch := omega) only [n_lit, n_of, n_o1, nI_add, pk_mul, nI_ltI, nI_leI, nI_eq, ↓lift_lt, ↓k_mt, ↓k_mp, if_true, if_false, Bool.false_eq_true, Nat.not_lt_zero, Nat.zero_le, Nat.reduceEqDiff, Nat.reduceLeDiff, Nat.reduceLT, cv_O hC, W.2.1, c_gapSum hC hP (show itr F s k < 2 ^ 31 by omega), hg, er]
      · rw [z' _ (yadr_s j).2]
        rcases hM p hp with ⟨n, h1, h2, h3, h4⟩ | ⟨h1, h2⟩
        · exact Or.inl ⟨n, by omega, h2, h3, h4⟩
        · exact Or.inr ⟨h1, led_all (Q := fun t => dg t p = 0) (show a < k + 1 by omega) gm.symm h2⟩
    · subst r0
      refine ⟨1, c', ?_, T', q', z', Or.inl ⟨rfl, a', e', W'⟩⟩
      simp (disch := omega) only [n_lit, n_of, n_o1, nI_add, pk_mul, nI_ltI, nI_leI, nI_eq, ↓lift_lt, ↓k_mt, ↓k_mp, if_true, if_false, Bool.false_eq_true, Nat.not_lt_zero, Nat.zero_le, Nat.reduceEqDiff, Nat.reduceLeDiff, Nat.reduceLT, cv_O hC, W.2.1, c_gapSum hC hP (show itr F s k < 2 ^ 31 by omega), hg, er, i1]
theorem c_tellMeetings {F : Nat → Nat} (hF : F = fun t => Yr (V a0) ch t l 0) (hok : ∀ k, itr F s k < 20000) (hl : l < 2 ^ 31) (hT : CT h V c a0 ch) :
    ∃ c', gX10_tellMeetings h c (nI s) (nI l) j = some c' ∧ CT h V c' a0 ch ∧ qfr c c' ∧ (∀ z, A112 z = false → ¬ z = yadr j → c'.2.2.2.1 z = c.2.2.2.1 z) ∧ ∀ p, p < vP (V a0) → fst1 (fun n => dg (itr F s n) p = 0) (c'.2.2.2.1 (yadr j) p) := by
  have hC := hT.2.1
  have hP := hT.2.2.1.1
  have i1 : ¬ (1 = 0) := by decide
  obtain ⟨cf, ecf⟩ : ∃ cf, cf = cFA c 0 (yadr j) (-nI 1) 4 := ⟨_, rfl⟩
  have fr : ∀ r, ¬ r = yadr j → cf.2.2.2.1 r = c.2.2.2.1 r := fun r hr => by rw [ecf]; exact if_neg hr
  have fy : ∀ i, i < 4 → cf.2.2.2.1 (yadr j) i = -nI 1 := fun i hi => by
    rw [ecf]
    show (if yadr j = yadr j then (fun i => if i < 4 then nar 0 (-nI 1) else c.2.2.2.1 (yadr j) i) else _) i = _
    rw [if_pos rfl]
    show (if i < 4 then nar 0 (-nI 1) else _) = _
    rw [if_pos hi]
    rfl
  have yne : ¬ 111 = yadr j ∧ ¬ 112 = yadr j := by unfold yadr; split <;> decide
  have Tf : CT h V cf a0 ch := by
    obtain ⟨t1, t2, t3, t4, t5, t6, t7⟩ := hT
    exact ⟨by rw [ecf]; exact t1, t2, t3, by rw [ecf]; exact t4, t5, by rw [fr 111 yne.1]; exact t6, by rw [fr 112 yne.2]; exact t7⟩
  have qf : qfr c cf := ⟨fun r _ _ _ => by rw [ecf]; rfl, fun r _ => by rw [ecf]; rfl, fun r hr => fr r (fun q => by rw [q, (yadr_s j).1] at hr; cases hr), by rw [ecf]; rfl⟩
  obtain ⟨c1, e1, W1, T1, q1, k1⟩ := c_start (s := s) (l := l) F Tf
  have g0 : gfill_ya c j (-nI 1) = some cf := by rw [ecf]; rfl
  unfold gX10_tellMeetings gX1_tunedTo
  simp (disch := omega) only [n_lit, n_of, n_o1, nI_add, pk_mul, nI_ltI, nI_leI, nI_eq, ↓lift_lt, ↓k_mt, ↓k_mp, if_true, if_false, Bool.false_eq_true, Nat.not_lt_zero, Nat.zero_le, Nat.reduceEqDiff, Nat.reduceLeDiff, Nat.reduceLT, g0, e1, T1.1]
  unfold gX10_tellMeetings_26
  have K := lpw_meas (body := fun q : Int32 × Int32 × Ch => gX10_tellMeetings_26b h q.2.2 j a0 q.1 q.2.1)
    (fun q => CT h V q.2.2 a0 ch ∧ qfr c q.2.2 ∧ (∀ z, A112 z = false → ¬ z = yadr j → q.2.2.2.2.2.1 z = c.2.2.2.1 z) ∧ ∃ k, k ≤ 65535 ∧ q.2.1 = nI k ∧ ((q.1 = nI 1 ∧ (∃ a e, WK F s l q.2.2 k a e) ∧ ∀ p, p < vP (V a0) → MT F s (q.2.2.2.2.2.1 (yadr j)) p k) ∨ (q.1 = nI 0 ∧ ∀ p, p < vP (V a0) → fst1 (fun n => dg (itr F s n) p = 0) (q.2.2.2.2.2.1 (yadr j) p))))
    (fun c' => CT h V c' a0 ch ∧ qfr c c' ∧ (∀ z, A112 z = false → ¬ z = yadr j → c'.2.2.2.1 z = c.2.2.2.1 z) ∧ ∀ p, p < vP (V a0) → fst1 (fun n => dg (itr F s n) p = 0) (c'.2.2.2.1 (yadr j) p)) (fun q => 100000 - q.2.1.toNatClampNeg) ?_ (nI 1, nI 0, c1) ⟨T1, qfr_tr qf q1, fun z _ hz => by show c1.2.2.2.1 z = _; rw [k1]; exact fr z hz, 0, by decide, rfl, Or.inl ⟨rfl, ⟨0, 0, W1⟩, fun p hp => Or.inr ⟨by show c1.2.2.2.1 (yadr j) p = _; rw [k1]; exact fy p (by omega), fun n hn => by omega⟩⟩⟩
  · exact K
  · rintro ⟨z1, z2, z3⟩ ⟨g1, g2, g2', k, g3, g4, g5⟩
    have g4 : z2 = nI k := g4
    subst g4
    have k9 : ¬ 99999 < k := by omega
    have g1 : CT h V z3 a0 ch := g1
    have g2 : qfr c z3 := g2
    have g2' : ∀ z, A112 z = false → ¬ z = yadr j → z3.2.2.2.1 z = c.2.2.2.1 z := g2'
    show (∃ s', gX10_tellMeetings_26b h z3 j a0 z1 (nI k) = some (.inl s') ∧ _) ∨ (∃ r, gX10_tellMeetings_26b h z3 j a0 z1 (nI k) = some (.inr r) ∧ _)
    unfold gX10_tellMeetings_26b gX10_tellMeetings_124
    rcases g5 with ⟨g5, ⟨a, e, W⟩, gM⟩ | ⟨g5, gD⟩
    · have g5 : z1 = nI 1 := g5
      subst g5
      have W : WK F s l z3 k a e := W
      have gM : ∀ p, p < vP (V a0) → MT F s (z3.2.2.2.1 (yadr j)) p k := gM
      have okk := hok k
      have kb := WK_b W
      refine Or.inl ?_
      simp (disch := omega) only [n_lit, n_of, n_o1, nI_add, pk_mul, nI_ltI, nI_leI, nI_eq, ↓lift_lt, ↓k_mt, ↓k_mp, if_true, if_false, Bool.false_eq_true, Nat.not_lt_zero, Nat.zero_le, Nat.reduceEqDiff, Nat.reduceLeDiff, Nat.reduceLT, k9, i1]
      unfold gX10_tellMeetings_41
      have J := lpw_all (body := fun q : Int32 × Ch => gX10_tellMeetings_41b h q.2 j a0 (nI k) q.1)
        (fun p q => q.1 = nI p ∧ CT h V q.2 a0 ch ∧ qfr c q.2 ∧ (∀ z, A112 z = false → ¬ z = yadr j → q.2.2.2.2.1 z = c.2.2.2.1 z) ∧ WK F s l q.2 k a e ∧ (∀ p', p' < p → MT F s (q.2.2.2.2.1 (yadr j)) p' (k + 1)) ∧ ∀ p', p ≤ p' → p' < vP (V a0) → MT F s (q.2.2.2.2.1 (yadr j)) p' k)
        (fun r => ∃ b c', r = .inl (nI b, nI (k + 1), c') ∧ CT h V c' a0 ch ∧ qfr c c' ∧ (∀ z, A112 z = false → ¬ z = yadr j → c'.2.2.2.1 z = c.2.2.2.1 z) ∧ ((b = 1 ∧ (∃ a' e', WK F s l c' (k + 1) a' e') ∧ ∀ p, p < vP (V a0) → MT F s (c'.2.2.2.1 (yadr j)) p (k + 1)) ∨ (b = 0 ∧ ∀ p, p < vP (V a0) → fst1 (fun n => dg (itr F s n) p = 0) (c'.2.2.2.1 (yadr j) p)))) (vP (V a0)) ?_ ?_ (nI 0, z3) ⟨rfl, g1, g2, g2', W, fun p' hp' => by omega, fun p' _ hp' => gM p' hp'⟩
      · obtain ⟨r, er, b, c', rr, u1, u2', u3, u4⟩ := J
        refine ⟨(nI b, nI (k + 1), c'), ?_, ⟨u1, u2', u3, k + 1, by omega, rfl, ?_⟩, ?_⟩
        · rw [← rr]; exact er
        · rcases u4 with ⟨b1, w, mm⟩ | ⟨b0, dd⟩
          · subst b1; exact Or.inl ⟨rfl, w, mm⟩
          · subst b0; exact Or.inr ⟨rfl, dd⟩
        · show 100000 - (nI (k + 1)).toNatClampNeg < 100000 - (nI k).toNatClampNeg
          rw [nI_clamp (by omega), nI_clamp (by omega)]
          omega
      · rintro p ⟨y1, y2⟩ hp ⟨x1, x2, x3, x4, x5, x6, x7⟩
        have x1 : y1 = nI p := x1
        subst x1
        have x2 : CT h V y2 a0 ch := x2
        have x3 : qfr c y2 := x3
        have x5 : WK F s l y2 k a e := x5
        have p1 : ¬ vP (V a0) ≤ p := by omega
        have p4 : ¬ 4 ≤ p := by omega
        have hp4 : p < 4 := by omega
        have hdg := dg_lt (itr F s k) p
        have mp := x7 p (Nat.le_refl p) hp
        show ∃ s', gX10_tellMeetings_41b h y2 j a0 (nI k) (nI p) = some (.inl s') ∧ _
        unfold gX10_tellMeetings_41b gX10_tellMeetings_86
        have keep : (∀ p', p' < p + 1 → p' < p ∨ p' = p) := fun p' h => by omega
        rcases mp with ⟨n, n1, n2, n3, n4⟩ | ⟨n1, n2⟩
        · have n2 : y2.2.2.2.1 (yadr j) p = nI n := n2
          have nn := nI_ne1 (n := n) (by omega)
          refine ⟨(nI (p + 1), y2), ?_, rfl, x2, x3, x4, x5, fun p' hp' => ?_, fun p' h1 h2 => x7 p' (by omega) h2⟩
          · simp (disch := omega) only [n_lit, n_of, n_o1, nI_add, pk_mul, nI_ltI, nI_leI, nI_eq, ↓lift_lt, ↓k_mt, ↓k_mp, if_true, if_false, Bool.false_eq_true, Nat.not_lt_zero, Nat.zero_le, Nat.reduceEqDiff, Nat.reduceLeDiff, Nat.reduceLT, cv_P hC, p1, p4, cA_g, n2, nn]
          · rcases keep p' hp' with q | q
            · exact x6 p' q
            · rw [q]; exact Or.inl ⟨n, by omega, n2, n3, n4⟩
        · have n1 : y2.2.2.2.1 (yadr j) p = -nI 1 := n1
          by_cases hd : dg (itr F s k) p = 0
          · refine ⟨(nI (p + 1), cS y2 (yadr j) p (nI k)), ?_, rfl, CT_y x2, qfr_S x3 (yadr_s j).1, fun z hz1 hz2 => ?_, WK_S x5, fun p' hp' => ?_, fun p' h1 h2 => ?_⟩
            · simp (disch := omega) only [n_lit, n_of, n_o1, nI_add, pk_mul, nI_ltI, nI_leI, nI_eq, ↓lift_lt, ↓k_mt, ↓k_mp, if_true, if_false, Bool.false_eq_true, Nat.not_lt_zero, Nat.zero_le, Nat.reduceEqDiff, Nat.reduceLeDiff, Nat.reduceLT, cv_P hC, p1, p4, cA_g, n1, x5.2.1, c_digit, hd, x5.2.2.1, cW0_g]
            · show (cS y2 (yadr j) p (nI k)).2.2.2.1 z = _
              rw [cS_n _ hz2]; exact x4 z hz1 hz2
            · show MT F s ((cS y2 (yadr j) p (nI k)).2.2.2.1 (yadr j)) p' (k + 1)
              unfold MT
              rw [cS_4, if_pos rfl]
              rcases keep p' hp' with q | q
              · rw [if_neg (by omega)]; exact x6 p' q
              · rw [if_pos q, q]; exact Or.inl ⟨k, by omega, rfl, hd, n2⟩
            · show MT F s ((cS y2 (yadr j) p (nI k)).2.2.2.1 (yadr j)) p' k
              unfold MT
              rw [cS_4, if_pos rfl, if_neg (by omega)]
              exact x7 p' (by omega) h2
          · refine ⟨(nI (p + 1), y2), ?_, rfl, x2, x3, x4, x5, fun p' hp' => ?_, fun p' h1 h2 => x7 p' (by omega) h2⟩
            · simp (disch := omega) only [n_lit, n_of, n_o1, nI_add, pk_mul, nI_ltI, nI_leI, nI_eq, ↓lift_lt, ↓k_mt, ↓k_mp, if_true, if_false, Bool.false_eq_true, Nat.not_lt_zero, Nat.zero_le, Nat.reduceEqDiff, Nat.reduceLeDiff, Nat.reduceLT, cv_P hC, p1, p4, cA_g, n1, x5.2.1, c_digit, hd]
            · rcases keep p' hp' with q | q
              · exact x6 p' q
              · rw [q]
                refine Or.inr ⟨n1, fun n hn => ?_⟩
                by_cases z : n = k
                · rw [z]; exact hd
                · exact n2 n (by omega)
      · rintro ⟨y1, y2⟩ ⟨x1, x2, x3, x4, x5, x6, x7⟩
        have x1 : y1 = nI (vP (V a0)) := x1
        subst x1
        obtain ⟨b, c', er, u1, u2', u3, u4⟩ := c_tm92 (j := j) (i := k) hF hok hl x2 x5 x6
        have x4 : ∀ z, A112 z = false → ¬ z = yadr j → y2.2.2.2.1 z = c.2.2.2.1 z := x4
        show ∃ r, gX10_tellMeetings_41b h y2 j a0 (nI k) (nI (vP (V a0))) = some (.inr r) ∧ _
        unfold gX10_tellMeetings_41b
        have er : gX10_tellMeetings_92 h y2 j a0 (nI k) = some (.inl (nI b, nI (k + 1), c')) := er
        simp (disch := omega) only [n_lit, n_of, n_o1, nI_add, pk_mul, nI_ltI, nI_leI, nI_eq, ↓lift_lt, ↓k_mt, ↓k_mp, if_true, if_false, Bool.false_eq_true, Nat.not_lt_zero, Nat.zero_le, Nat.reduceEqDiff, Nat.reduceLeDiff, Nat.reduceLT, cv_P hC, Nat.le_refl, er]
        refine ⟨_, rfl, b, c', rfl, u1, qfr_tr x3 u2', fun z h1 h2 => by rw [u3 z h1]; exact x4 z h1 h2, ?_⟩
        rcases u4 with ⟨b1, w⟩ | ⟨b0, dd⟩
        · exact Or.inl ⟨b1, w, fun p hp => by rw [u3 _ (yadr_s j).2]; exact x6 p hp⟩
        · exact Or.inr ⟨b0, dd⟩
    · have g5 : z1 = nI 0 := g5
      subst g5
      refine Or.inr ⟨z3, ?_, g1, g2, g2', gD⟩
      simp (disch := omega) only [n_lit, n_of, n_o1, nI_add, pk_mul, nI_ltI, nI_leI, nI_eq, ↓lift_lt, ↓k_mt, ↓k_mp, if_true, if_false, Bool.false_eq_true, Nat.not_lt_zero, Nat.zero_le, Nat.reduceEqDiff, Nat.reduceLeDiff, Nat.reduceLT, k9]
end CMEET
section OPS8
variable {T : Nat} {h : Hp} {V : Nat → Cv} {c : Ch} {m : Mu} {x : Sp}
theorem led_of (hw : WF x) : (zS x).2.2.1 < 2 ^ 31 ∧ ∀ k, itr (fun t => Yr (zV x) (zS x).2.1 t (zS x).2.2.1 0) (zS x).1 k < 20000 := by
  have hP := hw.2.2.1.1
  have hs := hw.2.2.2.1
  have p5 := pow5_le hP
  exact ⟨by have := hs.2.2.2.1; omega, fun k => (itr_ok hP hs.1 hs.2.1 _ _ k).1⟩
theorem op_falls (gC : RC T h V c x) (gM : RM m x) (hw : WF x) : OKs T h V (gX11_falls h c) (gX12_falls m) := by
  obtain ⟨hl, hok⟩ := led_of hw
  have N := RD_now gM hw
  obtain ⟨a, c1, e1, eV, T1, f1, R1, k80, s1, C1⟩ := cl_tuned gC hw
  obtain ⟨r, c', er, fr, T', q'⟩ := c_yearsTillFall (s := (zS x).1) (l := (zS x).2.2.1) (F := fun t => Yr (zV x) (zS x).2.1 t (zS x).2.2.1 0) (by rw [eV]) hok hl T1
  obtain ⟨m', em, L, fm⟩ := q_laysLed (l := (zS x).2.2.1) N hl
  obtain ⟨r', er', fr'⟩ := q_fallsAt L hok
  have m23 : (mI m 0 (nI 0)).2.1 1 23 = nI (zS x).2.2.1 := N.2.1.2.2.1
  refine ⟨r, c', m', x, ?_, ?_, RC_T (by omega) (RC_q R1 q' ⟨a, _, T'⟩), RM_kp (RM_0 gM _) (lfr_kp fm), hw⟩
  · unfold gX11_falls
    simp (disch := omega) only [n_lit, n_of, n_o1, nI_add, pk_mul, nI_ltI, nI_leI, nI_eq, ↓lift_lt, ↓k_mt, ↓k_mp, if_true, if_false, Bool.false_eq_true, Nat.not_lt_zero, Nat.zero_le, Nat.reduceEqDiff, Nat.reduceLeDiff, Nat.reduceLT, e1, s1.1, s1.2.2.1, er]
  · unfold gX12_falls
    simp (disch := omega) only [n_lit, n_of, n_o1, nI_add, pk_mul, nI_ltI, nI_leI, nI_eq, ↓lift_lt, ↓k_mt, ↓k_mp, if_true, if_false, Bool.false_eq_true, Nat.not_lt_zero, Nat.zero_le, Nat.reduceEqDiff, Nat.reduceLeDiff, Nat.reduceLT, mA_1, m23, em, er', fst1_one fr' fr]
theorem op_lies (x1 x2 : Int32) (gC : RC T h V c x) (gM : RM m x) (hw : WF x) : OKs T h V (gX11_lies h c x1 x2) (gX12_lies m x1 x2) := by
  have i1 : ¬ (1 = 0) := by decide
  have hP := hw.2.2.1.1
  obtain ⟨hl, hok⟩ := led_of hw
  have N := RD_now gM hw
  obtain ⟨-, -, ⟨a0, a3, -, a3c⟩, -⟩ := gC.1
  unfold gX11_lies gX11_lies_22 gX12_lies
  by_cases hp : ∃ p, p < vP (zV x) ∧ x1 = nI p
  · obtain ⟨p, hp, rfl⟩ := hp
    have hp4 : p < 4 := by omega
    have y1 := c_pair_y hP a3 a3c hp
    have y2 := q_pair_y hP N.1.2.1 hp
    rcases ix_cases x2 100000 (by decide) (by decide) with ⟨n, hn, rfl⟩ | ⟨n2, n2a⟩ | ⟨n2, n2a, n2b, n2c, n2d, n2e⟩
    · obtain ⟨a, c1, e1, eV, T1, f1, R1, k80, s1, C1⟩ := cl_tuned gC hw
      obtain ⟨c', er, T', q'⟩ := c_stateBehind (s := (zS x).1) (l := (zS x).2.2.1) (F := fun t => Yr (zV x) (zS x).2.1 t (zS x).2.2.1 0) (by rw [eV]) hok hl T1 hn
      obtain ⟨m', em, L, fm⟩ := q_laysLed (l := (zS x).2.2.1) N hl
      have el := q_ledAt L hn
      have m23 : (mI m 0 (nI 0)).2.1 1 23 = nI (zS x).2.2.1 := N.2.1.2.2.1
      have okn := hok n
      have n9 : n ≤ 99999 := by omega
      generalize itr (fun t => Yr (zV x) (zS x).2.1 t (zS x).2.2.1 0) (zS x).1 n = y at er el okn
      refine ⟨nI (dg y p), c', m', x, ?_, ?_, RC_T (by omega) (RC_q R1 q' ⟨a, _, T'⟩), RM_kp (RM_0 gM _) (lfr_kp fm), hw⟩
      · simp (disch := omega) only [n_lit, n_of, n_o1, nI_add, pk_mul, nI_ltI, nI_leI, nI_eq, ↓lift_lt, ↓k_mt, ↓k_mp, if_true, if_false, Bool.false_eq_true, Nat.not_lt_zero, Nat.zero_le, Nat.reduceEqDiff, Nat.reduceLeDiff, Nat.reduceLT, y1, i1, n9, e1, s1.1, s1.2.2.1, er, c_digit]
      · simp (disch := omega) only [n_lit, n_of, n_o1, nI_add, pk_mul, nI_ltI, nI_leI, nI_eq, ↓lift_lt, ↓k_mt, ↓k_mp, if_true, if_false, Bool.false_eq_true, Nat.not_lt_zero, Nat.zero_le, Nat.reduceEqDiff, Nat.reduceLeDiff, Nat.reduceLT, n_litL, y2, i1, win_y, mA_1, m23, em, el, q_gapIn]
    · have w := wi_n (u := 99999) n2 (by decide) (by decide)
      refine OK_no gC gM hw (-nI 3) ?_ ?_
      · simp (disch := omega) only [n_lit, n_of, n_o1, nI_add, pk_mul, nI_ltI, nI_leI, nI_eq, ↓lift_lt, ↓k_mt, ↓k_mp, if_true, if_false, Bool.false_eq_true, Nat.not_lt_zero, Nat.zero_le, Nat.reduceEqDiff, Nat.reduceLeDiff, Nat.reduceLT, y1, i1, n2a]
      · simp (disch := omega) only [n_lit, n_of, n_o1, nI_add, pk_mul, nI_ltI, nI_leI, nI_eq, ↓lift_lt, ↓k_mt, ↓k_mp, if_true, if_false, Bool.false_eq_true, Nat.not_lt_zero, Nat.zero_le, Nat.reduceEqDiff, Nat.reduceLeDiff, Nat.reduceLT, n_litL, y2, i1, w]
    · have w := wi_n (u := 99999) n2 (by decide) (by decide)
      have n2f : ¬ x2 ≤ nI 99999 := n2e
      refine OK_no gC gM hw (-nI 3) ?_ ?_
      · simp (disch := omega) only [n_lit, n_of, n_o1, nI_add, pk_mul, nI_ltI, nI_leI, nI_eq, ↓lift_lt, ↓k_mt, ↓k_mp, if_true, if_false, Bool.false_eq_true, Nat.not_lt_zero, Nat.zero_le, Nat.reduceEqDiff, Nat.reduceLeDiff, Nat.reduceLT, y1, i1, n2a, n2f]
      · simp (disch := omega) only [n_lit, n_of, n_o1, nI_add, pk_mul, nI_ltI, nI_leI, nI_eq, ↓lift_lt, ↓k_mt, ↓k_mp, if_true, if_false, Bool.false_eq_true, Nat.not_lt_zero, Nat.zero_le, Nat.reduceEqDiff, Nat.reduceLeDiff, Nat.reduceLT, n_litL, y2, i1, w]
  · refine OK_no gC gM hw (-nI 2) ?_ ?_
    · simp (disch := omega) only [n_lit, n_of, n_o1, nI_add, pk_mul, nI_ltI, nI_leI, nI_eq, ↓lift_lt, ↓k_mt, ↓k_mp, if_true, if_false, Bool.false_eq_true, Nat.not_lt_zero, Nat.zero_le, Nat.reduceEqDiff, Nat.reduceLeDiff, Nat.reduceLT, c_pair_n hP a3 a3c hp]
    · simp (disch := omega) only [n_lit, n_of, n_o1, nI_add, pk_mul, nI_ltI, nI_leI, nI_eq, ↓lift_lt, ↓k_mt, ↓k_mp, if_true, if_false, Bool.false_eq_true, Nat.not_lt_zero, Nat.zero_le, Nat.reduceEqDiff, Nat.reduceLeDiff, Nat.reduceLT, q_pair_n hP N.1.2.1 hp]
theorem op_meets (x1 : Int32) (gC : RC T h V c x) (gM : RM m x) (hw : WF x) : OKs T h V (gX11_meets h c x1) (gX12_meets m x1) := by
  have i1 : ¬ (1 = 0) := by decide
  have hP := hw.2.2.1.1
  obtain ⟨hl, hok⟩ := led_of hw
  have N := RD_now gM hw
  obtain ⟨-, -, ⟨a0, a3, -, a3c⟩, -⟩ := gC.1
  unfold gX11_meets gX12_meets
  by_cases hp : ∃ p, p < vP (zV x) ∧ x1 = nI p
  · obtain ⟨p, hp, rfl⟩ := hp
    have hp4 : p < 4 := by omega
    have y1 := c_pair_y hP a3 a3c hp
    have y2 := q_pair_y hP N.1.2.1 hp
    obtain ⟨a, c1, e1, eV, T1, f1, R1, k80, s1, C1⟩ := cl_tuned gC hw
    obtain ⟨c', er, T', q', -, D'⟩ := c_tellMeetings (s := (zS x).1) (l := (zS x).2.2.1) (j := 0) (F := fun t => Yr (zV x) (zS x).2.1 t (zS x).2.2.1 0) (by rw [eV]) hok hl T1
    obtain ⟨m', em, L, fm⟩ := q_laysLed (l := (zS x).2.2.1) N hl
    obtain ⟨r, er', fr⟩ := q_metAt L hok hp4
    have m23 : (mI m 0 (nI 0)).2.1 1 23 = nI (zS x).2.2.1 := N.2.1.2.2.1
    have e0 : c'.2.2.2.1 125 p = r := fst1_one (D' p (by rw [eV]; exact hp)) fr
    refine ⟨r, c', m', x, ?_, ?_, RC_T (by omega) (RC_q R1 q' ⟨a, _, T'⟩), RM_kp (RM_0 gM _) (lfr_kp fm), hw⟩
    · simp (disch := omega) only [n_lit, n_of, n_o1, nI_add, pk_mul, nI_ltI, nI_leI, nI_eq, ↓lift_lt, ↓k_mt, ↓k_mp, if_true, if_false, Bool.false_eq_true, Nat.not_lt_zero, Nat.zero_le, Nat.reduceEqDiff, Nat.reduceLeDiff, Nat.reduceLT, y1, i1, e1, s1.1, s1.2.2.1, er, cA_g, e0]
    · simp (disch := omega) only [n_lit, n_of, n_o1, nI_add, pk_mul, nI_ltI, nI_leI, nI_eq, ↓lift_lt, ↓k_mt, ↓k_mp, if_true, if_false, Bool.false_eq_true, Nat.not_lt_zero, Nat.zero_le, Nat.reduceEqDiff, Nat.reduceLeDiff, Nat.reduceLT, n_litL, y2, i1, mA_1, m23, em, er']
  · refine OK_no gC gM hw (-nI 2) ?_ ?_
    · simp (disch := omega) only [n_lit, n_of, n_o1, nI_add, pk_mul, nI_ltI, nI_leI, nI_eq, ↓lift_lt, ↓k_mt, ↓k_mp, if_true, if_false, Bool.false_eq_true, Nat.not_lt_zero, Nat.zero_le, Nat.reduceEqDiff, Nat.reduceLeDiff, Nat.reduceLT, c_pair_n hP a3 a3c hp]
    · simp (disch := omega) only [n_lit, n_of, n_o1, nI_add, pk_mul, nI_ltI, nI_leI, nI_eq, ↓lift_lt, ↓k_mt, ↓k_mp, if_true, if_false, Bool.false_eq_true, Nat.not_lt_zero, Nat.zero_le, Nat.reduceEqDiff, Nat.reduceLeDiff, Nat.reduceLT, q_pair_n hP N.1.2.1 hp]
theorem q_placeOf {p : Nat} (hp : p < 4) : gX12_placeOf (nI p) = some (nI (5 ^ p)) := by
  unfold gX12_placeOf gX12_placeOf_4
  have K := lpw_iter (body := fun q : Int32 × Int32 => gX12_placeOf_4b (nI p) q.1 q.2) (fun k => (nI (5 ^ k), nI k)) p (nI (5 ^ p)) ?_ ?_
  · exact K
  · intro k hk
    have k1 : ¬ p ≤ k := by omega
    unfold gX12_placeOf_4b
    simp (disch := omega) only [n_lit, n_of, n_o1, nI_add, pk_mul, nI_ltI, nI_leI, nI_eq, ↓lift_lt, ↓k_mt, ↓k_mp, if_true, if_false, Bool.false_eq_true, Nat.not_lt_zero, Nat.zero_le, Nat.reduceEqDiff, Nat.reduceLeDiff, Nat.reduceLT, k1, ← Nat.pow_succ]
  · unfold gX12_placeOf_4b
    simp (disch := omega) only [n_lit, n_of, n_o1, nI_add, pk_mul, nI_ltI, nI_leI, nI_eq, ↓lift_lt, ↓k_mt, ↓k_mp, if_true, if_false, Bool.false_eq_true, Nat.not_lt_zero, Nat.zero_le, Nat.reduceEqDiff, Nat.reduceLeDiff, Nat.reduceLT, Nat.le_refl]
theorem d5_le {s p : Nat} : d5 s p * 5 ^ p ≤ s := by
  unfold d5
  have h1 : s / 5 ^ p % 5 ≤ s / 5 ^ p := Nat.mod_le _ _
  have h2 := Nat.mul_le_mul_right (5 ^ p) h1
  have h3 := Nat.div_mul_le_self s (5 ^ p)
  omega
theorem op_moved (x1 x2 x3 : Int32) (gC : RC T h V c x) (gM : RM m x) (hw : WF x) : OKs T h V (gX11_moved h c x1 x2 x3) (gX12_moved m x1 x2 x3) := by
  have i1 : ¬ (1 = 0) := by decide
  have hP := hw.2.2.1.1
  have hs := hw.2.2.2.1
  obtain ⟨hl, hok⟩ := led_of hw
  have N := RD_now gM hw
  obtain ⟨-, -, ⟨a0, a3, -, a3c⟩, a4, -⟩ := gC.1
  have m23 : (mI m 0 (nI 0)).2.1 1 23 = nI (zS x).2.2.1 := N.2.1.2.2.1
  unfold gX11_moved gX11_moved_29 gX11_moved_141 gX12_moved gX12_moved_37 gX12_moved_117 gX12_moved_128
  by_cases hp : ∃ p, p < vP (zV x) ∧ x1 = nI p
  · obtain ⟨p, hp, rfl⟩ := hp
    have y1 := c_pair_y hP a3 a3c hp
    have y2 := q_pair_y hP N.1.2.1 hp
    by_cases hq : ∃ p, p < vP (zV x) ∧ x2 = nI p
    · obtain ⟨f, hf, rfl⟩ := hq
      have y3 := c_pair_y hP a3 a3c hf
      have y4 := q_pair_y hP N.1.2.1 hf
      by_cases hr : ∃ p, p < vP (zV x) ∧ x3 = nI p
      · obtain ⟨g, hg, rfl⟩ := hr
        have y5 := c_pair_y hP a3 a3c hg
        have y6 := q_pair_y hP N.1.2.1 hg
        by_cases he : f = g
        · subst he
          refine OK_no gC gM hw (-nI 99000002) ?_ ?_
          · simp (disch := omega) only [n_lit, n_of, n_o1, nI_add, pk_mul, nI_ltI, nI_leI, nI_eq, ↓lift_lt, ↓k_mt, ↓k_mp, if_true, if_false, Bool.false_eq_true, Nat.not_lt_zero, Nat.zero_le, Nat.reduceEqDiff, Nat.reduceLeDiff, Nat.reduceLT, y1, i1, y3, y5]
          · simp (disch := omega) only [n_lit, n_of, n_o1, nI_add, pk_mul, nI_ltI, nI_leI, nI_eq, ↓lift_lt, ↓k_mt, ↓k_mp, if_true, if_false, Bool.false_eq_true, Nat.not_lt_zero, Nat.zero_le, Nat.reduceEqDiff, Nat.reduceLeDiff, Nat.reduceLT, y2, i1, y4, y6]
        · have hf4 : f < 4 := by omega
          have hg4 : g < 4 := by omega
          have hp4 : p < 4 := by omega
          have hd5 := d5_lt (zS x).2.2.1 f
          by_cases h0 : d5 (zS x).2.2.1 f = 0
          · refine OK_no gC gM hw (-nI 99000005) ?_ ?_
            · simp (disch := omega) only [n_lit, n_of, n_o1, nI_add, pk_mul, nI_ltI, nI_leI, nI_eq, ↓lift_lt, ↓k_mt, ↓k_mp, if_true, if_false, Bool.false_eq_true, Nat.not_lt_zero, Nat.zero_le, Nat.reduceEqDiff, Nat.reduceLeDiff, Nat.reduceLT, y1, i1, y3, y5, he, a4.2.2.1, c_dropsOf, h0]
            · simp (disch := omega) only [n_lit, n_of, n_o1, nI_add, pk_mul, nI_ltI, nI_leI, nI_eq, ↓lift_lt, ↓k_mt, ↓k_mp, if_true, if_false, Bool.false_eq_true, Nat.not_lt_zero, Nat.zero_le, Nat.reduceEqDiff, Nat.reduceLeDiff, Nat.reduceLT, y2, i1, y4, y6, he, mA_1, m23, q_dropsIn, h0]
          · have hle : 5 ^ f ≤ (zS x).2.2.1 := by
              have h1 := d5_le (s := (zS x).2.2.1) (p := f)
              have h2 := Nat.mul_le_mul_right (5 ^ f) (show 1 ≤ d5 (zS x).2.2.1 f by omega)
              omega
            have p5 : 5 ^ g ≤ 625 := pow5_le (by omega)
            have l31 := hl
            obtain ⟨l', el'⟩ : ∃ l', l' = (zS x).2.2.1 - 5 ^ f + 5 ^ g := ⟨_, rfl⟩
            have hl' : l' < 2 ^ 31 := by
              have h5 : 0 < 5 ^ f := Nat.pow_pos (by decide)
              have := hs.2.2.2.1
              have := pow5_le hP
              omega
            have hok' : ∀ k, itr (fun t => Yr (zV x) (zS x).2.1 t l' 0) (zS x).1 k < 20000 := fun k => (itr_ok hP hs.1 hs.2.1 _ _ k).1
            obtain ⟨a, c1, e1, eV, T1, f1, R1, k80, s1, C1⟩ := cl_tuned gC hw
            obtain ⟨c2, er, T2, q2, z2, D2⟩ := c_tellMeetings (s := (zS x).1) (l := (zS x).2.2.1) (j := 0) (F := fun t => Yr (zV x) (zS x).2.1 t (zS x).2.2.1 0) (by rw [eV]) hok hl T1
            obtain ⟨c3, er3, T3, q3, z3, D3⟩ := c_tellMeetings (s := (zS x).1) (l := l') (j := 1) (F := fun t => Yr (zV x) (zS x).2.1 t l' 0) (by rw [eV]) hok' hl' T2
            obtain ⟨m2, em2, L2, fm2⟩ := q_laysLed (l := (zS x).2.2.1) N hl
            obtain ⟨r, er', fr⟩ := q_metAt L2 hok hp4
            obtain ⟨m3, em3, L3, fm3⟩ := q_laysLed (l := l') (lfr_RD fm2 N) hl'
            obtain ⟨r3, er3', fr3⟩ := q_metAt L3 hok' hp4
            have m23' : m2.2.1 1 23 = nI (zS x).2.2.1 := (lfr_RD fm2 N).2.1.2.2.1
            have b1 : c3.2.2.2.1 125 p = r := by
              rw [z3 125 rfl (by decide)]
              exact fst1_one (D2 p (by rw [eV]; exact hp)) fr
            have b2 : c3.2.2.2.1 126 p = r3 := fst1_one (D3 p (by rw [eV]; exact hp)) fr3
            have s2 : c2.1 (sadr 0) 0 = nI (zS x).1 := by rw [q2.1 _ (by decide) (by decide) (by decide)]; exact s1.1
            have R3 : RC T h V c3 x := RC_q R1 (qfr_tr q2 q3) ⟨a, _, T3⟩
            have K3 : RM m3 x := RM_kp (RM_0 gM _) (lfr_kp (lfr_tr fm2 fm3))
            have eL : nI (zS x).2.2.1 - nI (5 ^ f) + nI (5 ^ g) = nI l' := by rw [pk_sub hle, nI_add, el']
            by_cases hr1 : r = -nI 1
            · refine ⟨-nI 99000001, c3, m3, x, ?_, ?_, RC_T (by omega) R3, K3, hw⟩
              · simp (disch := omega) only [n_lit, n_of, n_o1, nI_add, pk_mul, nI_ltI, nI_leI, nI_eq, ↓lift_lt, ↓k_mt, ↓k_mp, if_true, if_false, Bool.false_eq_true, Nat.not_lt_zero, Nat.zero_le, Nat.reduceEqDiff, Nat.reduceLeDiff, Nat.reduceLT, y1, i1, y3, y5, he, a4.2.2.1, c_dropsOf, h0, e1, n_tT2, s1.1, s1.2.2.1, er, s2, pk_sub, ← el', er3, cA_g, b1, hr1]
              · simp (disch := omega) only [n_lit, n_of, n_o1, nI_add, pk_mul, nI_ltI, nI_leI, nI_eq, ↓lift_lt, ↓k_mt, ↓k_mp, if_true, if_false, Bool.false_eq_true, Nat.not_lt_zero, Nat.zero_le, Nat.reduceEqDiff, Nat.reduceLeDiff, Nat.reduceLT, y2, i1, y4, y6, he, mA_1, m23, q_dropsIn, h0, em2, er', m23', q_placeOf, pk_sub, ← el', em3, er3', hr1]
            · by_cases hr2 : r3 = -nI 1
              · refine ⟨-nI 99000001, c3, m3, x, ?_, ?_, RC_T (by omega) R3, K3, hw⟩
                · simp (disch := omega) only [n_lit, n_of, n_o1, nI_add, pk_mul, nI_ltI, nI_leI, nI_eq, ↓lift_lt, ↓k_mt, ↓k_mp, if_true, if_false, Bool.false_eq_true, Nat.not_lt_zero, Nat.zero_le, Nat.reduceEqDiff, Nat.reduceLeDiff, Nat.reduceLT, y1, i1, y3, y5, he, a4.2.2.1, c_dropsOf, h0, e1, n_tT2, s1.1, s1.2.2.1, er, s2, pk_sub, ← el', er3, cA_g, b1, b2, hr1, hr2]
                · simp (disch := omega) only [n_lit, n_of, n_o1, nI_add, pk_mul, nI_ltI, nI_leI, nI_eq, ↓lift_lt, ↓k_mt, ↓k_mp, if_true, if_false, Bool.false_eq_true, Nat.not_lt_zero, Nat.zero_le, Nat.reduceEqDiff, Nat.reduceLeDiff, Nat.reduceLT, y2, i1, y4, y6, he, mA_1, m23, q_dropsIn, h0, em2, er', m23', q_placeOf, pk_sub, ← el', em3, er3', hr1, hr2]
              · refine ⟨r3 - r, c3, m3, x, ?_, ?_, RC_T (by omega) R3, K3, hw⟩
                · simp (disch := omega) only [n_lit, n_of, n_o1, nI_add, pk_mul, nI_ltI, nI_leI, nI_eq, ↓lift_lt, ↓k_mt, ↓k_mp, if_true, if_false, Bool.false_eq_true, Nat.not_lt_zero, Nat.zero_le, Nat.reduceEqDiff, Nat.reduceLeDiff, Nat.reduceLT, y1, i1, y3, y5, he, a4.2.2.1, c_dropsOf, h0, e1, n_tT2, s1.1, s1.2.2.1, er, s2, pk_sub, ← el', er3, cA_g, b1, b2, hr1, hr2]
                · simp (disch := omega) only [n_lit, n_of, n_o1, nI_add, pk_mul, nI_ltI, nI_leI, nI_eq, ↓lift_lt, ↓k_mt, ↓k_mp, if_true, if_false, Bool.false_eq_true, Nat.not_lt_zero, Nat.zero_le, Nat.reduceEqDiff, Nat.reduceLeDiff, Nat.reduceLT, y2, i1, y4, y6, he, mA_1, m23, q_dropsIn, h0, em2, er', m23', q_placeOf, pk_sub, ← el', em3, er3', hr1, hr2]
      · refine OK_no gC gM hw (-nI 99000002) ?_ ?_
        · simp (disch := omega) only [n_lit, n_of, n_o1, nI_add, pk_mul, nI_ltI, nI_leI, nI_eq, ↓lift_lt, ↓k_mt, ↓k_mp, if_true, if_false, Bool.false_eq_true, Nat.not_lt_zero, Nat.zero_le, Nat.reduceEqDiff, Nat.reduceLeDiff, Nat.reduceLT, y1, i1, y3, c_pair_n hP a3 a3c hr]
        · simp (disch := omega) only [n_lit, n_of, n_o1, nI_add, pk_mul, nI_ltI, nI_leI, nI_eq, ↓lift_lt, ↓k_mt, ↓k_mp, if_true, if_false, Bool.false_eq_true, Nat.not_lt_zero, Nat.zero_le, Nat.reduceEqDiff, Nat.reduceLeDiff, Nat.reduceLT, y2, i1, y4, q_pair_n hP N.1.2.1 hr]
    · refine OK_no gC gM hw (-nI 99000002) ?_ ?_
      · simp (disch := omega) only [n_lit, n_of, n_o1, nI_add, pk_mul, nI_ltI, nI_leI, nI_eq, ↓lift_lt, ↓k_mt, ↓k_mp, if_true, if_false, Bool.false_eq_true, Nat.not_lt_zero, Nat.zero_le, Nat.reduceEqDiff, Nat.reduceLeDiff, Nat.reduceLT, y1, i1, c_pair_n hP a3 a3c hq]
      · simp (disch := omega) only [n_lit, n_of, n_o1, nI_add, pk_mul, nI_ltI, nI_leI, nI_eq, ↓lift_lt, ↓k_mt, ↓k_mp, if_true, if_false, Bool.false_eq_true, Nat.not_lt_zero, Nat.zero_le, Nat.reduceEqDiff, Nat.reduceLeDiff, Nat.reduceLT, y2, i1, q_pair_n hP N.1.2.1 hq]
  · refine OK_no gC gM hw (-nI 99000002) ?_ ?_
    · simp (disch := omega) only [n_lit, n_of, n_o1, nI_add, pk_mul, nI_ltI, nI_leI, nI_eq, ↓lift_lt, ↓k_mt, ↓k_mp, if_true, if_false, Bool.false_eq_true, Nat.not_lt_zero, Nat.zero_le, Nat.reduceEqDiff, Nat.reduceLeDiff, Nat.reduceLT, c_pair_n hP a3 a3c hp]
    · simp (disch := omega) only [n_lit, n_of, n_o1, nI_add, pk_mul, nI_ltI, nI_leI, nI_eq, ↓lift_lt, ↓k_mt, ↓k_mp, if_true, if_false, Bool.false_eq_true, Nat.not_lt_zero, Nat.zero_le, Nat.reduceEqDiff, Nat.reduceLeDiff, Nat.reduceLT, q_pair_n hP N.1.2.1 hp]
end OPS8
