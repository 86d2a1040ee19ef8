/-! cave -/
theorem CaveAt_lt {h : Hp} {a : Nat} {v : Cv} (ho : hok h) (H : CaveAt h a v) : a < h.1 := by
  obtain ⟨f0, og, of_, la, sa, fl, fs, e0, -⟩ := H
  by_cases z : a < h.1
  · exact z
  · rw [ho.2 a (by omega)] at e0
    cases e0
theorem CaveAt_g {h h' : Hp} {a : Nat} {v : Cv} (ho : hok h) (g : hgr h h') (H : CaveAt h a v) : CaveAt h' a v := CaveAt_fr (hgr_fr ho g) H
section CVO
variable {T : Nat} {h h' : Hp} {V V' : Nat → Cv} {c c' : Ch} {m : Mu} {x : Sp}
theorem SI_V (hV : ∀ a, a < h.1 → V' a = V a) (ho : hok h) (H : SI T h V c) : SI T h V' c := by
  obtain ⟨a, ch, st, h1, h2, h3⟩ := H
  have := CaveAt_lt ho h2
  refine ⟨a, ch, st, h1, ?_⟩
  rw [hV a this]
  exact ⟨h2, h3⟩
theorem CT_V {a ch : Nat} (hV : ∀ a, a < h.1 → V' a = V a) (ho : hok h) (H : CT h V c a ch) : CT h V' c a ch := by
  obtain ⟨h1, h2, h3⟩ := H
  have := CaveAt_lt ho h2
  unfold CT
  rw [hV a this]
  exact ⟨h1, h2, h3⟩
/-- what a cave that is told leaves as it was -/
theorem RC_cv (gC : RC T h V c x) (ho : hok h) (g : hgr h h') (hV : ∀ a, a < h.1 → V' a = V a) (k1 : ∀ r, ¬ r = 80 → ¬ r = 82 → ¬ r = 83 → ¬ r = 90 → ¬ r = 93 → c'.1 r = c.1 r) (k3 : ∀ r k, ¬ r = 80 → ¬ r = 82 → ¬ r = 83 → c'.2.2.1 r k = c.2.2.1 r k) (k4 : ∀ r, ¬ r = 85 → c'.2.2.2.1 r = c.2.2.2.1 r) (k5 : c'.2.2.2.2 = c.2.2.2.2) :
    (∀ i, i < 2 → imC h' V' c' i (zI x i)) ∧ (∀ t, t < 4 → trC c' t (zR x t)) ∧ (∃ a ch, CT h' V' c' a ch) ∧ SI T h' V' c' := by
  obtain ⟨⟨-, -, -, -, -, a6, a7, -⟩, ⟨aa, ch, t0⟩, g3⟩ := gC
  refine ⟨fun j hj => ?_, fun t ht => ?_, ⟨aa, ch, ?_⟩, ?_⟩
  · have b := a6 j hj
    unfold imC at *
    cases hz : zI x j with
    | none => rw [hz] at b; simp only [k5]; exact b
    | some p =>
      rw [hz] at b
      obtain ⟨a', b1, b2, b3, b4⟩ := b
      have sb : 136 ≤ sadr (13 + j) ∧ sadr (13 + j) < 138 := by
        unfold sadr
        rw [if_neg (by omega), if_neg (by omega), if_pos (by omega)]
        omega
      exact ⟨a', by rw [k5]; exact b1, by rw [hV a' (CaveAt_lt ho b3)]; exact b2, CaveAt_g ho g b3, stc_eq (k1 _ (by omega) (by omega) (by omega) (by omega) (by omega)) b4⟩
  · have b := a7 t ht
    have tb := tadr_b (t := t)
    unfold trC at *
    rw [k1 (tadr t) (by omega) (by omega) (by omega) (by omega) (by omega), k5]
    exact b
  · obtain ⟨t1, t2, t3, t4, t5, t6, t7⟩ := CT_h (hgr_fr ho g) (CT_V hV ho t0)
    exact ⟨by rw [k3 108 5 (by decide) (by decide) (by decide)]; exact t1, t2, t3, by rw [k1 108 (by decide) (by decide) (by decide) (by decide) (by decide)]; exact t4, t5, by rw [k4 111 (by decide)]; exact t6, by rw [k4 112 (by decide)]; exact t7⟩
  · exact SI_eq (c := c) (k1 116 (by decide) (by decide) (by decide) (by decide) (by decide)) (k3 116 1 (by decide) (by decide) (by decide)) (k4 117 (by decide)) (k4 118 (by decide)) (k4 119 (by decide)) (k4 120 (by decide)) (SI_h (hgr_fr ho g) (SI_V hV ho g3))
/-- the two parsers from the call on -/
theorem l_told {n N : Nat} (hn : n ≤ 900) (hN : N ≤ n) (tn : (zT x).1 = n) (gC : RC T h V c x) (gM : RM m x) (hw : WF x) (ho : hok h) :
    ∃ m1 c3 m4 h' c6, gX12_cave m (nI N) = gX12_cave_122 m4 ∧ hok h' ∧ hgr h h' ∧ h'.1 ≤ h.1 + N ∧ h'.2.1 ≤ h.2.1 + N ∧ m1.1 5 = nI 0 ∧ m1.1 13 = m.1 13 ∧ m1.1 14 = m.1 14 ∧ m1.2.2 = m.2.2 ∧ (∀ r, ¬ r = 4 → m1.2.1 r = m.2.1 r) ∧
      (∀ r, ¬ r = 80 → ¬ r = 82 → ¬ r = 83 → c3.1 r = c.1 r) ∧ c3.1 80 1 = nI 0 ∧ (∀ r k, ¬ r = 82 → ¬ r = 83 → c3.2.2.1 r k = c.2.2.1 r k) ∧ c3.2.2.2 = c.2.2.2 ∧
      ((fX4_read (cput h (cI c 80 1 (nI 0))) 82 81 (nI N) = fX4_read_52 (cput h' c6) 82 (nI 1) ∧ ∃ z nc, TDx N m1 c3 h' m4 c6 z nc) ∨ (fX4_read (cput h (cI c 80 1 (nI 0))) 82 81 (nI N) = fX4_read_52 (cput h' c6) 82 (nI 0) ∧ LFx m1 c3 m4 c6)) := by
  have i1 : ¬ (1 = 0) := by decide
  obtain ⟨⟨a1, a2, -⟩, -⟩ := gC
  obtain ⟨b1, b2, -⟩ := gM
  rw [tn] at a1 a2 b1 b2
  obtain ⟨mm, emm⟩ : ∃ mm, mm = mI (mI (mI (mI (mI m 0 (0 : Int32)) 8 (nI N)) 5 (0 : Int32)) 7 (0 : Int32)) 11 (0 : Int32) := ⟨_, rfl⟩
  obtain ⟨m1, p1, p2, p3, p4, p5⟩ := q_plain (m := mm)
  obtain ⟨c1, ec1⟩ : ∃ c1, c1 = cI c 80 1 (nI 0) := ⟨_, rfl⟩
  obtain ⟨c2, ec2⟩ : ∃ c2, c2 = cR (cR (cI (cI (cI (cI (cI (cI (cI (cI (cI c1 82 5 (nI 0)) 82 6 (-nI 1)) 82 7 (nI 0)) 82 8 (nI 0)) 82 9 (nI 0)) 82 10 (nI 0)) 82 11 (nI 0)) 82 12 (nI 0)) 82 13 (-nI 1)) 82 14 none) 82 15 none := ⟨_, rfl⟩
  obtain ⟨c3, ec3⟩ : ∃ c3, c3 = cI (cI (cR c2 83 0 (some 81)) 83 1 (nI N)) 83 2 (nI 0) := ⟨_, rfl⟩
  rw [← ec1]
  have fg : gX4_forget h c1 = some c2 := by rw [ec2]; rfl
  have lfg : fX4_forget (cput h c1) 82 = some (cput h c2) := by rw [lX4_forget, fg]; rfl
  have mn : imin (nI N) (nI 900) = nI N := by rw [imin_n (by omega) (by decide), show (if 900 < N then 900 else N) = N by rw [if_neg (by omega)]]
  have q3 : c3.1 83 1 = nI N := by rw [ec3]; rfl
  have q82 : ∀ k, c3.1 82 k = c2.1 82 k := fun k => by rw [ec3, cI_n _ (by decide), cI_n _ (by decide)]; rfl
  have TX : TXx (zT x).2 N m1 h c3 := by
    refine ⟨by omega, hw.2.1, by rw [p2, emm]; rfl, fun i hi => by rw [p4 3 (by decide), emm]; exact b2 i (by omega), by rw [ec3]; rfl, q3, fun i hi => by rw [ec3, ec2, ec1]; exact a2 i (by omega), by rw [q82, ec2]; rfl, by rw [q82, ec2]; rfl⟩
  obtain ⟨m2, c4, a0, b0, kd0, nm0, e1, e2, f1, f2, K, -⟩ := tk_next TX (b := 0) (by rw [p2, emm]; rfl) (by rw [ec3]; rfl) (Nat.zero_le _)
  have ec3' : cI (cI (cR c2 83 0 (some 81)) 83 1 (nI N)) 83 2 (nI 0) = c3 := ec3.symm
  have lop : fX6_open (cput h c2) 83 81 (nI N) = some (cput h c4) := by
    rw [lX6_open]
    unfold gX6_open
    simp (disch := omega) only [n_lit, n_of, n_o1, nI_add, pk_mul, nI_ltI, nI_leI, nI_eq, ↓lift_lt, ↓k_mt, ↓k_mp, if_true, if_false, Bool.false_eq_true, Nat.not_lt_zero, Nat.zero_le, Nat.reduceEqDiff, Nat.reduceLeDiff, Nat.reduceLT, mn, ec3', e2, Option.map_some]
  have T0 : TSx (zT x).2 N h m2 c4 a0 b0 kd0 nm0 := ⟨TXx_f TX f1 f2, K, by rw [f1.1 11 (by decide) (by decide) (by decide) (by decide), p2, emm]; rfl⟩
  have z4 : ∀ k, k < 1038 → m2.2.1 4 k = nI 0 := fun k hk => by rw [f1.2]; exact p5 k hk
  have R0 : Rt (m2.2.1 4) z00 0 := ⟨z4 0 (by decide), z4 1 (by decide), z4 2 (by decide), z4 3 (by decide), z4 4 (by decide), fun p hp => by rw [z4 _ (by omega)]; show nI 0 = nI (0 / 10 ^ p % 10); rw [Nat.zero_div], fun p hp => by rw [z4 _ (by omega)]; show nI 0 = nI (0 / 10 ^ p % 10); rw [Nat.zero_div], z4 23 (by decide), ⟨z4 24 (by decide), z4 25 (by decide), z4 26 (by decide)⟩, z4 5 (by decide), z4 6 (by decide), z4 137 (by decide)⟩
  have q4 : ∀ k, c4.1 82 k = c2.1 82 k := fun k => by rw [f2.1 82 (by decide), q82]
  have r4 : ∀ k, c4.2.2.1 82 k = c2.2.2.1 82 k := fun k => by rw [f2.2.2, ec3]; rfl
  have C0 : Ct h c4 z00 := ⟨by rw [q4, ec2]; rfl, by rw [q4, ec2]; rfl, by rw [q4, ec2]; rfl, by rw [q4, ec2]; rfl, by rw [q4, ec2]; rfl, by rw [q4, ec2]; rfl, by rw [q4, ec2]; rfl, by rw [r4, ec2]; rfl, by rw [r4, ec2]; rfl⟩
  obtain ⟨m3, c5, e3, D⟩ := l_head T0 R0 C0 (lfM_n (m0 := m1) (m := m1) ⟨fun _ _ _ _ _ _ _ _ => rfl, rfl, fun _ _ => rfl⟩ f1) (lfC_n (c0 := c3) (c := c3) ⟨fun _ _ _ => rfl, rfl, rfl, fun _ _ _ => rfl, fun _ _ => rfl, rfl⟩ f2)
  have m5 : (mI m 0 (0 : Int32)).1 5 = nI n := b1
  have wy : gX12_within (nI N).toInt64 (0 : Int64) ((mI m 0 (0 : Int32)).1 5).toInt64 = some (nI 1) := by
    rw [m5, nI_l (n := n) (by omega)]
    exact win_y (by omega) (Nat.zero_le _) hN
  have er : gX12_cave m (nI N) = gX12_cave_95 m3 := by
    rw [← e3]
    unfold gX12_cave
    simp only [lift_lt]
    rw [wy, k_bs, if_neg (show ¬ nI 1 = 0 by decide), ← emm, p1, k_bs, e1, k_bs]
    rfl
  have rd : ∀ b : Nat, fX4_tellCave (cput h c4) 82 = some (nI b, cput h c5) → fX4_read (cput h c1) 82 81 (nI N) = fX4_read_21 (cput h c5) 82 (nI N) (nI b) (nI 0) := fun b hb => by
    unfold fX4_read
    simp (disch := omega) only [n_lit, n_of, n_o1, nI_add, pk_mul, nI_ltI, nI_leI, nI_eq, ↓lift_lt, ↓k_mt, ↓k_mp, if_true, if_false, Bool.false_eq_true, Nat.not_lt_zero, Nat.zero_le, Nat.reduceEqDiff, Nat.reduceLeDiff, Nat.reduceLT, cgO_82, lfg, cgN_82_0, cgO_83, lop, hb]
  have fin : ∃ m4 h' c6, gX12_cave_95 m3 = gX12_cave_122 m4 ∧ hok h' ∧ hgr h h' ∧ h'.1 ≤ h.1 + N ∧ h'.2.1 ≤ h.2.1 + N ∧ ((fX4_read (cput h c1) 82 81 (nI N) = fX4_read_52 (cput h' c6) 82 (nI 1) ∧ ∃ z nc, TDx N m1 c3 h' m4 c6 z nc) ∨ (fX4_read (cput h c1) 82 81 (nI N) = fX4_read_52 (cput h' c6) 82 (nI 0) ∧ LFx m1 c3 m4 c6)) := by
    rcases D with ⟨t1, z', a', L, l1, l2⟩ | ⟨t1, F⟩
    · have aN : a' ≤ N := by
        obtain ⟨⟨b', kd', nm', T'⟩, -⟩ := L
        exact (TS_a T').1
      obtain ⟨m4, h', c6, s1, s2, s3, s4, s5, s6⟩ := l_loop (N - a') h m3 c5 z' 0 a' 0 (by omega) (Nat.zero_le _) L (by omega) ho
      refine ⟨m4, h', c6, s1, s2, s3, by omega, by omega, ?_⟩
      rw [rd 1 t1]
      exact s6
    · have pw := LFx_w F
      refine ⟨m3, h, c5, ?_, ho, hgr_rfl h, Nat.le_add_right _ _, Nat.le_add_right _ _, Or.inr ⟨?_, F⟩⟩
      · have eb : gX12_cave_95b m3 = (gX12_cave_122 m3).map (fun q => .inr q) := by
          unfold gX12_cave_95b
          simp (disch := omega) only [n_lit, n_of, n_o1, nI_add, pk_mul, nI_ltI, nI_leI, nI_eq, ↓lift_lt, ↓k_mt, ↓k_mp, if_true, if_false, Bool.false_eq_true, Nat.not_lt_zero, Nat.zero_le, Nat.reduceEqDiff, Nat.reduceLeDiff, Nat.reduceLT, pw]
        unfold gX12_cave_95
        exact lpw_m eb
      · rw [rd 0 t1]
        have eb : fX4_read_21b (cput h c5) 82 (nI N) (nI 0) (nI 0) = (fX4_read_52 (cput h c5) 82 (nI 0)).map (fun q => .inr q) := by
          unfold fX4_read_21b
          by_cases q : N ≤ 0
          · simp (disch := omega) only [n_lit, n_of, n_o1, nI_add, pk_mul, nI_ltI, nI_leI, nI_eq, ↓lift_lt, ↓k_mt, ↓k_mp, if_true, if_false, Bool.false_eq_true, Nat.not_lt_zero, Nat.zero_le, Nat.reduceEqDiff, Nat.reduceLeDiff, Nat.reduceLT, q]
          · simp (disch := omega) only [n_lit, n_of, n_o1, nI_add, pk_mul, nI_ltI, nI_leI, nI_eq, ↓lift_lt, ↓k_mt, ↓k_mp, if_true, if_false, Bool.false_eq_true, Nat.not_lt_zero, Nat.zero_le, Nat.reduceEqDiff, Nat.reduceLeDiff, Nat.reduceLT, q]
        unfold fX4_read_21
        exact lpw_m eb
  obtain ⟨m4, h', c6, s1, s2, s3, s4, s5, s6⟩ := fin
  refine ⟨m1, c3, m4, h', c6, er.trans s1, s2, s3, s4, s5, by rw [p2, emm]; rfl, by rw [p2, emm]; rfl, by rw [p2, emm]; rfl, by rw [p3, emm]; rfl, fun r hr => by rw [p4 r hr, emm]; rfl, fun r y1 y2 y3 => ?_, ?_, fun r k y1 y2 => ?_, by rw [ec3, ec2, ec1]; rfl, s6⟩
  · rw [ec3, cI_n _ y3, cI_n _ y3]
    show c2.1 r = _
    rw [ec2]
    show (cI (cI (cI (cI (cI (cI (cI (cI (cI c1 82 5 (nI 0)) 82 6 (-nI 1)) 82 7 (nI 0)) 82 8 (nI 0)) 82 9 (nI 0)) 82 10 (nI 0)) 82 11 (nI 0)) 82 12 (nI 0)) 82 13 (-nI 1)).1 r = _
    rw [cI_n _ y2, cI_n _ y2, cI_n _ y2, cI_n _ y2, cI_n _ y2, cI_n _ y2, cI_n _ y2, cI_n _ y2, cI_n _ y2, ec1, cI_n _ y1]
  · rw [ec3, ec2, ec1]
    rfl
  · rw [ec3]
    show (cR c2 83 0 (some 81)).2.2.1 r k = _
    rw [cR_3, if_neg y2, ec2, cR_3, if_neg y1, cR_3, if_neg y1, ec1]
    rfl
end CVO
