/-! cave: the call -/
section CVP
variable {T : Nat} {h : Hp} {V : Nat → Cv} {c : Ch} {m : Mu} {x : Sp}
theorem op_cave (y : Int32) (gC : RC T h V c x) (gM : RM m x) (hw : WF x) (ho : hok h) :
    ∃ r h' V' c' m' x', fX11_cave (cput h c) 80 y = some (r, cput h' c') ∧ gX12_cave m y = some (r, m') ∧ RC (T + 1) h' V' c' x' ∧ RM m' x' ∧ WF x' ∧ hok h' ∧ hgr h h' ∧ h'.1 ≤ h.1 + 904 ∧ h'.2.1 ≤ h.2.1 + 1121 := by
  have i1 : ¬ (1 = 0) := by decide
  obtain ⟨n, tn⟩ : ∃ n, (zT x).1 = n := ⟨_, rfl⟩
  have hn : n ≤ 900 := by rw [← tn]; exact hw.1
  have v1 : c.1 80 1 = nI n := by rw [← tn]; exact gC.1.1
  have m5 : (mI m 0 (nI 0)).1 5 = nI n := by rw [← tn]; exact gM.1
  have nl : (nI n).toInt64 = lN n := nI_l (by omega)
  rcases ix_cases y (n + 1) (by omega) (by omega) with ⟨N, hN, rfl⟩ | ⟨n1, n1a⟩ | ⟨n1, n1a, n1b, n1c, n1d, n1e⟩
  rotate_left
  · have w := wi_n (u := n) n1 (by omega) (by omega)
    refine ⟨-nI 3, h, V, c, mI m 0 (nI 0), x, ?_, ?_, RC_T (by omega) gC, RM_0 gM _, hw, ho, hgr_rfl h, by omega, by omega⟩
    · unfold fX11_cave fX11_cave_12
      simp (disch := omega) only [n_lit, n_of, n_o1, nI_add, pk_mul, nI_ltI, nI_leI, nI_eq, ↓lift_lt, ↓k_mt, ↓k_mp, if_true, if_false, Bool.false_eq_true, Nat.not_lt_zero, Nat.zero_le, Nat.reduceEqDiff, Nat.reduceLeDiff, Nat.reduceLT, n1a]
    · unfold gX12_cave
      simp (disch := omega) only [n_lit, n_of, n_o1, nI_add, pk_mul, nI_ltI, nI_leI, nI_eq, ↓lift_lt, ↓k_mt, ↓k_mp, if_true, if_false, Bool.false_eq_true, Nat.not_lt_zero, Nat.zero_le, Nat.reduceEqDiff, Nat.reduceLeDiff, Nat.reduceLT, n_litL, m5, nl, w]
  · have w := wi_n (u := n) n1 (by omega) (by omega)
    have n1e : ¬ y ≤ nI n := n1e
    refine ⟨-nI 3, h, V, c, mI m 0 (nI 0), x, ?_, ?_, RC_T (by omega) gC, RM_0 gM _, hw, ho, hgr_rfl h, by omega, by omega⟩
    · unfold fX11_cave fX11_cave_12
      simp (disch := omega) only [n_lit, n_of, n_o1, nI_add, pk_mul, nI_ltI, nI_leI, nI_eq, ↓lift_lt, ↓k_mt, ↓k_mp, if_true, if_false, Bool.false_eq_true, Nat.not_lt_zero, Nat.zero_le, Nat.reduceEqDiff, Nat.reduceLeDiff, Nat.reduceLT, n1a, cgI_80_1, v1, n1e]
    · unfold gX12_cave
      simp (disch := omega) only [n_lit, n_of, n_o1, nI_add, pk_mul, nI_ltI, nI_leI, nI_eq, ↓lift_lt, ↓k_mt, ↓k_mp, if_true, if_false, Bool.false_eq_true, Nat.not_lt_zero, Nat.zero_le, Nat.reduceEqDiff, Nat.reduceLeDiff, Nat.reduceLT, n_litL, m5, nl, w]
  have hN' : N ≤ n := by omega
  have hN0 : ¬ N < 0 := by omega
  obtain ⟨m1, c3, m4, h', c6, e1, o1, o2, o3, o4, k5, k13, k14, kj, ka, d1, d80, d3, d4, D⟩ := l_told hn hN' tn gC gM hw ho
  obtain ⟨c1, ec1⟩ : ∃ c1, c1 = cI c 80 1 (nI 0) := ⟨_, rfl⟩
  rw [← ec1] at D
  have s1 : sV (cput h c) 11 80 1 (.int (nI 0)) = some (cput h c1) := by rw [ec1]; exact csI_80_1 h c _
  obtain ⟨a1, a2, ⟨a, a3, a3b, a3c⟩, a4, ⟨a5, nx, a5a, a5b, a5c⟩, a6, a7, a8, a9⟩ := gC.1
  obtain ⟨b1, b2, b3, b4, b5, b6, b7, b8, b9, b10⟩ := gM
  obtain ⟨w1, w2, w3, w4, w5, w6, w7, w8⟩ := hw
  rcases D with ⟨rd, z, nc, t11, R, C, O, fM, fC, tl, tc, t5, t6⟩ | ⟨rd, k, p, f1, f2, f3, f4, f5, f6, f7, fM, fC⟩
  · -- a cave was told
    obtain ⟨m5', eM, q1, q2, q3, qv, qb, q26, qh⟩ := q_end t11 R (by omega) O
    obtain ⟨h2, eC, u1, u2, u3, u4, u5⟩ := c_cave (h := h') (c := c6) o1 C O
    have wv : wV (cvT z) := cvT_w O (by omega)
    obtain ⟨c7, ec7⟩ : ∃ c7, c7 = cR c6 80 3 (some h'.1) := ⟨_, rfl⟩
    obtain ⟨c8, ec8⟩ : ∃ c8, c8 = cI (cI (cI (cI c7 (sadr 0) 0 (nI (vG (cvT z)))) (sadr 0) 1 (nI (vC (cvT z)))) (sadr 0) 2 (nI (vL (cvT z)))) (sadr 0) 3 (nI 0) := ⟨_, rfl⟩
    obtain ⟨c9, ec9⟩ : ∃ c9, c9 = cI c8 93 2 (nI 0) := ⟨_, rfl⟩
    have y7 : sV (cput h2 c6) 11 80 3 (.ref h'.1) = some (cput h2 c7) := by rw [ec7]; exact csR_80_3 h2 c6 _
    have y8 : fX8_begin (cput h2 c7) (sadr 0) h'.1 = some (cput h2 c8) := by
      have e : gX8_begin h2 c7 0 h'.1 = some c8 := by
        unfold gX8_begin
        rw [ec8]
        simp (disch := omega) only [n_lit, n_of, n_o1, nI_add, pk_mul, nI_ltI, nI_leI, nI_eq, ↓lift_lt, ↓k_mt, ↓k_mp, if_true, if_false, Bool.false_eq_true, Nat.not_lt_zero, Nat.zero_le, Nat.reduceEqDiff, Nat.reduceLeDiff, Nat.reduceLT, cv_G u5, cv_C u5, cv_L u5]
      rw [lX8_begin, e]
      rfl
    have y9 : fX5_forget (cput h2 c8) 93 = some (cput h2 c9) := by
      have e : gX5_forget h2 c8 = some c9 := by rw [ec9]; rfl
      rw [lX5_forget, e]
      rfl
    have rd2 : fX4_read (cput h c1) 82 81 (nI N) = some (some h'.1, cput h2 c6) := by
      rw [rd]
      unfold fX4_read_52 fX4_read_68
      have cH : (cput h' c6).1 = h'.1 := rfl
      simp (disch := omega) only [n_lit, n_of, n_o1, nI_add, pk_mul, nI_ltI, nI_leI, nI_eq, ↓lift_lt, ↓k_mt, ↓k_mp, if_true, if_false, Bool.false_eq_true, Nat.not_lt_zero, Nat.zero_le, Nat.reduceEqDiff, Nat.reduceLeDiff, Nat.reduceLT, i1, cH, eC]
    have gg : hgr h h2 := hgr_tr o2 u2
    have K1 : ∀ r, ¬ r = 80 → ¬ r = 82 → ¬ r = 83 → c6.1 r = c.1 r := fun r y1 y2 y3 => by rw [fC.1 r y2 y3, d1 r y1 y2 y3]
    have S0 : sadr 0 = 90 := rfl
    have N1 : ∀ r, ¬ r = 90 → ¬ r = 93 → c9.1 r = c6.1 r := fun r y1 y2 => by
      rw [ec9, cI_n _ y2, ec8, S0, cI_n _ y1, cI_n _ y1, cI_n _ y1, cI_n _ y1, ec7]
      rfl
    have N2 : c9.2.2.1 = c7.2.2.1 := by rw [ec9, ec8]; rfl
    have N3 : ∀ r k, ¬ r = 80 → c9.2.2.1 r k = c6.2.2.1 r k := fun r k y1 => by rw [N2, ec7, cR_3, if_neg y1]
    have N4 : c9.2.2.2 = c6.2.2.2 := by rw [ec9, ec8, ec7]; rfl
    obtain ⟨X1, X2, X3, X4⟩ := RC_cv (c' := c9) (V' := fun a => if a = h'.1 then cvT z else V a) gC ho gg (fun a ha => if_neg (by have := o2.1; omega)) (fun r y1 y2 y3 y4 y5 => by rw [N1 r y4 y5, K1 r y1 y2 y3]) (fun r k y1 y2 y3 => by rw [N3 r k y1, fC.2.2.2.1 r k (by omega), d3 r k y2 y3]) (fun r y1 => by rw [N4, fC.2.2.2.2.1 r y1, d4]) (by rw [N4, fC.2.2.2.2.2, d4])
    refine ⟨nI z.2.2.2.1, h2, fun a => if a = h'.1 then cvT z else V a, c9, m5', ((0, (zT x).2), cvT z, st0 z, [], zI x, zR x, (nI 0, -nI 1)), ?_, ?_, ⟨⟨?_, fun i hi => absurd hi (Nat.not_lt_zero i), ⟨h'.1, ?_, if_pos rfl, u5⟩, ?_, ⟨?_, nx, a5a, ?_, fun i hi => absurd hi (Nat.not_lt_zero i)⟩, X1, X2, ?_, ?_⟩, X3, SI_T (by omega) X4⟩, ⟨?_, fun i hi => absurd hi (Nat.not_lt_zero i), qv, qb, q26, fun i hi => absurd hi (Nat.not_lt_zero i), fun i hi => ?_, fun t ht => ?_, ?_, ?_⟩, ⟨by show 0 ≤ 900; omega, w2, wv, ?_, Nat.zero_le _, (fun s hs => by cases hs), w7, w8⟩, u1, gg, by omega, by omega⟩
    · unfold fX11_cave
      have x9 : gI (cput h2 c9) 0 h'.1 3 = some (nI z.2.2.2.1) := cv_N u5 c9
      simp (disch := omega) only [n_lit, n_of, n_o1, nI_add, pk_mul, nI_ltI, nI_leI, nI_eq, ↓lift_lt, ↓k_mt, ↓k_mp, if_true, if_false, Bool.false_eq_true, Nat.not_lt_zero, Nat.zero_le, Nat.reduceEqDiff, Nat.reduceLeDiff, Nat.reduceLT, hN0, cgI_80_1, v1, hN', s1, cgN_80_2, cgN_80_0, cgO_82, rd2, y7, cgN_80_4, cgO_s, y8, cgN_80_7, cgO_93, y9, x9]
    · rw [e1, eM]
    · show c9.1 80 1 = nI 0
      rw [N1 80 (by decide) (by decide), fC.1 80 (by decide) (by decide)]
      exact d80
    · rw [N2, ec7, cR_3, if_pos rfl, if_pos rfl]
    · show stc c9 0 (st0 z)
      have E0 : ∀ k, c9.1 (sadr 0) k = c8.1 (sadr 0) k := fun k => by rw [ec9, cI_n _ (by decide)]
      refine ⟨?_, ?_, ?_, ?_⟩
      · rw [E0, ec8, cI_1, if_pos rfl, if_neg (by decide), cI_1, if_pos rfl, if_neg (by decide), cI_1, if_pos rfl, if_neg (by decide), cI_1, if_pos rfl, if_pos rfl]
        rfl
      · rw [E0, ec8, cI_1, if_pos rfl, if_neg (by decide), cI_1, if_pos rfl, if_neg (by decide), cI_1, if_pos rfl, if_pos rfl]
        rfl
      · rw [E0, ec8, cI_1, if_pos rfl, if_neg (by decide), cI_1, if_pos rfl, if_pos rfl]
        rfl
      · rw [E0, ec8, cI_1, if_pos rfl, if_pos rfl]
        rfl
    · show c9.1 93 2 = nI 0
      rw [ec9, cI_1, if_pos rfl, if_pos rfl]
    · show c9.1 93 1 = nI nx
      rw [ec9, cI_1, if_pos rfl, if_neg (by decide), ec8, S0, cI_n _ (by decide), cI_n _ (by decide), cI_n _ (by decide), cI_n _ (by decide), ec7]
      show c6.1 93 1 = _
      rw [K1 93 (by decide) (by decide) (by decide)]
      exact a5b
    · show c9.1 82 5 = nI 0
      rw [N1 82 (by decide) (by decide)]
      exact t5
    · show c9.1 82 6 = -nI 1
      rw [N1 82 (by decide) (by decide)]
      exact t6
    · show m5'.1 5 = nI 0
      rw [q1, mI_f, if_neg (by decide), mI_f, if_neg (by decide), fM.1 5 (by decide) (by decide) (by decide) (by decide) (by decide) (by decide) (by decide)]
      exact k5
    · exact imR_eq (fun k hk => by rw [qh _ (by omega), fM.2.2 1 (by decide), ka 1 (by decide)]) (by rw [q3 2 (by decide), fM.2.2 2 (by decide), ka 2 (by decide)]) (b7 i hi)
    · show trR (m5'.2.1 21) (m5'.2.1 22) (m5'.2.2 23) t (zR x t)
      rw [q3 21 (by decide), q3 22 (by decide), q2, fM.2.2 21 (by decide), fM.2.2 22 (by decide), fM.2.1, ka 21 (by decide), ka 22 (by decide), kj]
      exact b8 t ht
    · show m5'.1 13 = nI 0
      rw [q1, mI_f, if_neg (by decide), mI_f, if_pos rfl]
    · show m5'.1 14 = -nI 1
      rw [q1, mI_f, if_pos rfl]
    · obtain ⟨v1', v2', v3', v4', v5', v6', v7', v8', v9'⟩ := wv
      have p10 := pow10_le v1'
      refine ⟨?_, ?_, v6', v7'⟩
      · show vG (cvT z) < 20000
        omega
      · show vG (cvT z) % 10000 < 10 ^ vP (cvT z)
        rw [Nat.mod_eq_of_lt (by omega)]
        exact v5'
  · -- a fault
    have pw : ¬ m4.1 11 = nI 0 := by
      rw [f4, nI_eq (by omega) (by omega)]
      omega
    have rd2 : fX4_read (cput h c1) 82 81 (nI N) = some (none, cput h' c6) := by
      rw [rd]
      unfold fX4_read_52 fX4_read_68
      simp (disch := omega) only [n_lit, n_of, n_o1, nI_add, pk_mul, nI_ltI, nI_leI, nI_eq, ↓lift_lt, ↓k_mt, ↓k_mp, if_true, if_false, Bool.false_eq_true, Nat.not_lt_zero, Nat.zero_le, Nat.reduceEqDiff, Nat.reduceLeDiff, Nat.reduceLT, ]
    have eM := q_flt pw
    have K1 : ∀ r, ¬ r = 80 → ¬ r = 82 → ¬ r = 83 → c6.1 r = c.1 r := fun r y1 y2 y3 => by rw [fC.1 r y2 y3, d1 r y1 y2 y3]
    have K3 : ∀ r k, ¬ r = 82 → ¬ r = 83 → c6.2.2.1 r k = c.2.2.1 r k := fun r k y2 y3 => by rw [fC.2.2.2.1 r k (by omega), d3 r k y2 y3]
    obtain ⟨X1, X2, X3, X4⟩ := RC_cv (c' := c6) (V' := V) gC ho o2 (fun a ha => rfl) (fun r y1 y2 y3 y4 y5 => K1 r y1 y2 y3) (fun r k y1 y2 y3 => K3 r k y2 y3) (fun r y1 => by rw [fC.2.2.2.2.1 r y1, d4]) (by rw [fC.2.2.2.2.2, d4])
    have mS' : ∀ r, ¬ r = 4 → m4.2.1 r = m.2.1 r := fun r hr => by rw [fM.2.2 r hr, ka r hr]
    refine ⟨-nI 30 - nI k, h', V, c6, mI (mI m4 13 (nI k)) 14 (nI p), ((0, (zT x).2), zV x, zS x, zH x, zI x, zR x, (nI k, nI p)), ?_, ?_, ⟨⟨?_, fun i hi => absurd hi (Nat.not_lt_zero i), ⟨a, ?_, a3b, CaveAt_g ho o2 a3c⟩, ?_, ⟨?_, nx, a5a, ?_, fun i hi => ?_⟩, X1, X2, f6, f7⟩, X3, SI_T (by omega) X4⟩, ⟨?_, fun i hi => absurd hi (Nat.not_lt_zero i), ?_, ?_, ?_, fun i hi => ?_, fun i hi => ?_, fun t ht => ?_, ?_, ?_⟩, ⟨by show 0 ≤ 900; omega, w2, w3, w4, w5, w6, w7, w8⟩, o1, o2, by omega, by omega⟩
    · unfold fX11_cave
      simp (disch := omega) only [n_lit, n_of, n_o1, nI_add, pk_mul, nI_ltI, nI_leI, nI_eq, ↓lift_lt, ↓k_mt, ↓k_mp, if_true, if_false, Bool.false_eq_true, Nat.not_lt_zero, Nat.zero_le, Nat.reduceEqDiff, Nat.reduceLeDiff, Nat.reduceLT, hN0, cgI_80_1, v1, hN', s1, cgN_80_2, cgN_80_0, cgO_82, rd2, cgI_82_5, f6]
    · rw [e1, eM, f4, f5]
    · show c6.1 80 1 = nI 0
      rw [fC.1 80 (by decide) (by decide)]
      exact d80
    · rw [K3 80 3 (by decide) (by decide)]
      exact a3
    · exact stc_eq (K1 _ (by decide) (by decide) (by decide)) a4
    · rw [K1 93 (by decide) (by decide) (by decide)]
      exact a5
    · rw [K1 93 (by decide) (by decide) (by decide)]
      exact a5b
    · have sb := sadr_b (3 + (nx + 10 - (zH x).length + i) % 10)
      exact stc_eq (K1 (sadr (3 + (nx + 10 - (zH x).length + i) % 10)) (by omega) (by omega) (by omega)) (a5c i hi)
    · show (mI (mI m4 13 (nI k)) 14 (nI p)).1 5 = nI 0
      rw [mI_f, if_neg (by decide), mI_f, if_neg (by decide), fM.1 5 (by decide) (by decide) (by decide) (by decide) (by decide) (by decide) (by decide)]
      exact k5
    · show Rv (m4.2.1 1) (zV x)
      rw [mS' 1 (by decide)]
      exact b3
    · show blk (m4.2.1 1) 15 (zS x)
      rw [mS' 1 (by decide)]
      exact b4
    · show m4.2.1 1 26 = _
      rw [mS' 1 (by decide)]
      exact b5
    · show blk (m4.2.1 1) _ _
      rw [mS' 1 (by decide)]
      exact b6 i hi
    · show imR (m4.2.1 1) (m4.2.1 2) i (zI x i)
      rw [mS' 1 (by decide), mS' 2 (by decide)]
      exact b7 i hi
    · show trR (m4.2.1 21) (m4.2.1 22) (m4.2.2 23) t (zR x t)
      rw [mS' 21 (by decide), mS' 22 (by decide), fM.2.1, kj]
      exact b8 t ht
    · show (mI (mI m4 13 (nI k)) 14 (nI p)).1 13 = nI k
      rw [mI_f, if_neg (by decide), mI_f, if_pos rfl]
    · show (mI (mI m4 13 (nI k)) 14 (nI p)).1 14 = nI p
      rw [mI_f, if_pos rfl]
end CVP
