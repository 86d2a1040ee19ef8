/-! which way -/
section WAYR
variable {v : Cv} {s : St} {m m0 : Mu} {q D W F : Nat → Nat} {n : Nat} {G : Nat → Prop} {d w i : Nat}
theorem FAR_iff (hF : FAR G v s.2.1 q n F) {j e : Nat} (hj : j < n) (he : e < 268435456) : F j = e ↔ Dst (nxt v s.2.1) (nL v) G (q j) e := by
  rcases hF j hj with ⟨w1, w2⟩ | ⟨w1, w2⟩
  · constructor
    · intro h; omega
    · rintro ⟨⟨x, x1, x2⟩, -⟩
      exact absurd x2 (w2 _ _ x1)
  · constructor
    · intro h; rw [← h]; exact w2
    · intro h; exact Dst_one w2 h
/-- the first leading by which it is nearer -/
theorem wy_in {x2 : Nat} (B : MBx m0 v s m) (A : ALL v s m q D W n) (hV : FV m q n F) (hF : FAR G v s.2.1 q n F) (hB : Best (nxt v s.2.1) (nL v) s.1 G d w) (hd : d < 20001) {e : Nat} (he : e < d) :
    w / 35 ^ (d - e - 1) % 35 < nL v ∧ rn (nxt v s.2.1) s.1 e (w / 35 ^ (d - e)) < 20000 ∧ m.2.1 14 (35 * rn (nxt v s.2.1) s.1 e (w / 35 ^ (d - e)) + w / 35 ^ (d - e - 1) % 35) = nI (rn (nxt v s.2.1) s.1 (e + 1) (w / 35 ^ (d - (e + 1)))) ∧
    gX12_way_52 m (nI x2) (nI d) (nI (rn (nxt v s.2.1) s.1 e (w / 35 ^ (d - e)))) (nI e) (nI 0) = gX12_way_85 m (nI x2) (nI d) (nI (rn (nxt v s.2.1) s.1 e (w / 35 ^ (d - e)))) (nI e) (nI (w / 35 ^ (d - e - 1) % 35)) := by
  have hW := B.1.2.2.1
  obtain ⟨hL0, hL⟩ := nL_b hW
  have bs := Best_step hL0 hL hB he
  have hok : okd (nL v) e (w / 35 ^ (d - e)) := by
    have := hB.1
    rw [show d = e + (d - e) by omega] at this
    have h2 := okd_hi (d := e) (e := d - e) this
    exact h2
  obtain ⟨i, hi, ei⟩ : ∃ i, i < n ∧ q i = rn (nxt v s.2.1) s.1 e (w / 35 ^ (d - e)) := by
    rcases Bq_cover hL (Nat.zero_le _) (nxt_ab v s.2.1) A.1 e _ hok with ⟨j, j1, j2, -⟩ | ⟨j1, -⟩
    · exact ⟨j, j1, j2⟩
    · omega
  obtain ⟨b1, b2, b3, b4⟩ := bs
  rw [← ei] at b2 b3 b4 ⊢
  obtain ⟨J, hJ⟩ := J_of hW A hi
  generalize ej : w / 35 ^ (d - e - 1) % 35 = jj at b1 b2 b3 b4 ⊢
  obtain ⟨o1, -, -⟩ := A.2.2.2.2.1 i hi
  have n14 : ∀ kk, kk < nL v → m.2.1 14 (35 * q i + kk) = nI (q (J kk)) := fun kk hkk => by
    rw [(hJ kk hkk).2]
    exact A.2.2.2.2.2.2 i kk hi hkk (Or.inl hi)
  have sub : nI d - nI e - nI 1 = nI (d - e - 1) := by rw [pk_sub (by omega), pk_sub (by omega)]
  refine ⟨b1, o1, ?_, ?_⟩
  · rw [n14 _ b1, b3, (hJ _ b1).2]
  · have key : ∀ j, j ≤ jj → gX12_way_52 m (nI x2) (nI d) (nI (q i)) (nI e) (nI 0) = gX12_way_52 m (nI x2) (nI d) (nI (q i)) (nI e) (nI j) := by
      intro j
      induction j with
      | zero => intro _; rfl
      | succ j ih =>
        intro hj
        rw [ih (by omega)]
        have hjL : j < nL v := by omega
        obtain ⟨p1, p2⟩ := hJ j hjL
        have o2 := (A.2.2.2.2.1 _ p1).1
        obtain ⟨f1, f2⟩ := hV _ p1
        have ne : ¬ F (J j) = d - e - 1 := fun z => by
          have := (FAR_iff hF p1 (by omega)).mp z
          rw [p2] at this
          exact b4 j (by omega) this
        have eb : gX12_way_52b m (nI x2) (nI d) (nI (q i)) (nI e) (nI j) = some (.inl (nI (j + 1))) := by
          unfold gX12_way_52b
          simp (disch := omega) only [n_lit, n_of, n_o1, nI_add, pk_mul, nI_ltI, nI_leI, nI_eq, ↓lift_lt, ↓k_mt, ↓k_mp, if_true, if_false, Bool.false_eq_true, Nat.not_lt_zero, Nat.zero_le, Nat.reduceEqDiff, Nat.reduceLeDiff, Nat.reduceLT, mA_14, n14 j hjL, mA_15, f2, sub, ne]
        unfold gX12_way_52
        exact lpw_l eb
    rw [key jj (Nat.le_refl _)]
    obtain ⟨p1, p2⟩ := hJ jj b1
    have o2 := (A.2.2.2.2.1 _ p1).1
    obtain ⟨f1, f2⟩ := hV _ p1
    have e1 : F (J jj) = d - e - 1 := (FAR_iff hF p1 (by omega)).mpr (by rw [p2]; exact b2)
    have eb : gX12_way_52b m (nI x2) (nI d) (nI (q i)) (nI e) (nI jj) = (gX12_way_85 m (nI x2) (nI d) (nI (q i)) (nI e) (nI jj)).map (fun y => .inr y) := by
      unfold gX12_way_52b
      simp (disch := omega) only [n_lit, n_of, n_o1, nI_add, pk_mul, nI_ltI, nI_leI, nI_eq, ↓lift_lt, ↓k_mt, ↓k_mp, if_true, if_false, Bool.false_eq_true, Nat.not_lt_zero, Nat.zero_le, Nat.reduceEqDiff, Nat.reduceLeDiff, Nat.reduceLT, mA_14, n14 jj b1, mA_15, f2, sub, eq_true e1]
    unfold gX12_way_52
    exact lpw_m eb
theorem q_way {x2 : Nat} (B : MBx m0 v s m) (A : ALL v s m q D W n) (hV : FV m q n F) (hF : FAR G v s.2.1 q n F) (hB : Best (nxt v s.2.1) (nL v) s.1 G d w) (hd : d < 20001) (hx : x2 < d) :
    gX12_way_49 m (nI x2) (nI d) (nI s.1) (nI 0) = some (nI (ld v (w / 35 ^ (d - x2 - 1) % 35)), m) := by
  have hW := B.1.2.2.1
  obtain ⟨hL0, hL⟩ := nL_b hW
  have key : ∀ e, e ≤ x2 → gX12_way_49 m (nI x2) (nI d) (nI s.1) (nI 0) = gX12_way_49 m (nI x2) (nI d) (nI (rn (nxt v s.2.1) s.1 e (w / 35 ^ (d - e)))) (nI e) := by
    intro e
    induction e with
    | zero => intro _; rfl
    | succ e ih =>
      intro he
      rw [ih (by omega)]
      obtain ⟨w1, w2, w3, w4⟩ := wy_in (x2 := x2) B A hV hF hB hd (e := e) (by omega)
      have ne : ¬ e = x2 := by omega
      have eb : gX12_way_49b m (nI x2) (nI d) (nI (rn (nxt v s.2.1) s.1 e (w / 35 ^ (d - e)))) (nI e) = some (.inl (nI (rn (nxt v s.2.1) s.1 (e + 1) (w / 35 ^ (d - (e + 1)))), nI (e + 1))) := by
        unfold gX12_way_49b
        rw [n_lit, w4]
        unfold gX12_way_85
        simp (disch := omega) only [n_lit, n_of, n_o1, nI_add, pk_mul, nI_ltI, nI_leI, nI_eq, ↓lift_lt, ↓k_mt, ↓k_mp, if_true, if_false, Bool.false_eq_true, Nat.not_lt_zero, Nat.zero_le, Nat.reduceEqDiff, Nat.reduceLeDiff, Nat.reduceLT, ne, mA_14, w3]
      unfold gX12_way_49
      exact lpw_l eb
  rw [key x2 (Nat.le_refl _)]
  obtain ⟨w1, w2, w3, w4⟩ := wy_in (x2 := x2) B A hV hF hB hd (e := x2) hx
  have eb : gX12_way_49b m (nI x2) (nI d) (nI (rn (nxt v s.2.1) s.1 x2 (w / 35 ^ (d - x2)))) (nI x2) = some (.inr (nI (ld v (w / 35 ^ (d - x2 - 1) % 35)), m)) := by
    unfold gX12_way_49b
    rw [n_lit, w4]
    unfold gX12_way_85
    simp (disch := omega) only [n_lit, n_of, n_o1, nI_add, pk_mul, nI_ltI, nI_leI, nI_eq, ↓lift_lt, ↓k_mt, ↓k_mp, if_true, if_false, Bool.false_eq_true, Nat.not_lt_zero, Nat.zero_le, Nat.reduceEqDiff, Nat.reduceLeDiff, Nat.reduceLT, mA_9, B.2.2.2.1 _ w1]
  unfold gX12_way_49
  exact lpw_r eb
end WAYR
section WAYC
variable {h : Hp} {V : Nat → Cv} {c : Ch} {a ch s0 st : Nat} {q D W : Nat → Nat} {n hd k : Nat}
theorem la_run {x2 : Nat} (h1 : c.2.2.1 116 1 = some a) (hC : CaveAt h a (V a)) (hW : wV (V a)) (H : QB (V a) ch c s0 st q D W n hd k) : ∀ i, i < n → x2 < D i → D i < 20000 → gX7_leadingTo_25 h c (nI x2) (c.2.2.2.1 119 (q i)) (nI (D i - 1)) = some (nI (ld (V a) (W i / 35 ^ (D i - x2 - 1) % 35))) := by
  obtain ⟨hL0, hL⟩ := nL_b hW
  obtain ⟨la, la1, la2, la3⟩ := cv_la hW hC
  intro i
  induction i using Nat.strongRecOn with
  | _ i ih =>
    intro hi hx hD
    have i0 : ¬ i = 0 := fun z => by
      have d0 : D 0 = 0 := H.1.2.2.1
      rw [z, d0] at hx
      omega
    obtain ⟨j, kk, j1, j2, j3, j4, j5, j6⟩ := lk_of hW H (by omega) hi
    have e1 : (q j * 35 + kk) / 35 = q j := by omega
    have e2 : (q j * 35 + kk) % 35 = kk := by omega
    unfold gX7_leadingTo_25
    rw [j4]
    by_cases z : D i - 1 ≤ x2
    · have ez : D i - x2 - 1 = 0 := by omega
      have e3 : (W j * 35 + kk) % 35 = kk := by omega
      rw [ez, Nat.pow_zero, Nat.div_one, j6, e3]
      have k0 : ¬ kk < 0 := by omega
      have k1 : ¬ nL (V a) ≤ kk := by omega
      have la3' := la3 c kk j2
      have eb : gX7_leadingTo_25b h c (nI x2) (nI (q j * 35 + kk)) (nI (D i - 1)) = some (.inr (nI (ld (V a) kk))) := by
        unfold gX7_leadingTo_25b gX7_leadingTo_48 fX0_leadingAt fX0_leadingAt_23
        simp (disch := omega) only [n_lit, n_of, n_o1, nI_add, pk_mul, nI_ltI, nI_leI, nI_eq, ↓lift_lt, ↓k_mt, ↓k_mp, if_true, if_false, Bool.false_eq_true, Nat.not_lt_zero, Nat.zero_le, Nat.reduceEqDiff, Nat.reduceLeDiff, Nat.reduceLT, eq_true z, h1, n_rm, e2, cv_O hC, la1, la2, k1, la3', Option.map_some]
      exact lpw_r eb
    · have z2 : D i - 1 + 0 = D j := by omega
      have eb : gX7_leadingTo_25b h c (nI x2) (nI (q j * 35 + kk)) (nI (D i - 1)) = some (.inl (c.2.2.2.1 119 (q j), nI (D i - 1 - 1))) := by
        unfold gX7_leadingTo_25b
        simp (disch := omega) only [n_lit, n_of, n_o1, nI_add, pk_mul, nI_ltI, nI_leI, nI_eq, ↓lift_lt, ↓k_mt, ↓k_mp, if_true, if_false, Bool.false_eq_true, Nat.not_lt_zero, Nat.zero_le, Nat.reduceEqDiff, Nat.reduceLeDiff, Nat.reduceLT, z, n_dv, e1, c_linkOf (h := h) (c := c) (show q j < 20000 by omega), n_d1]
      have hh := ih j j1 (by omega) (by omega) (by omega)
      have e4 : D i - 1 - 1 = D j - 1 := by omega
      have e5 : W i / 35 ^ (D i - x2 - 1) = W j / 35 ^ (D j - x2 - 1) := by
        rw [j6, j5, show D j + 1 - x2 - 1 = (D j - x2 - 1) + 1 by omega, Nat.pow_succ, Nat.mul_comm (35 ^ (D j - x2 - 1)), ← Nat.div_div_eq_div_mul]
        rw [show (W j * 35 + kk) / 35 = W j by omega]
      rw [e5]
      rw [e4] at eb
      exact (lpw_l eb).trans hh
end WAYC
section OPS16
variable {T : Nat} {h : Hp} {V : Nat → Cv} {c : Ch} {m : Mu} {x : Sp}
theorem op_way (gC : RC T h V c x) (gM : RM m x) (hw : WF x) (hT : T ≤ 1000) (x1 x2 : Int32) : OKs T h V (gX11_way h c x1 x2) (gX12_way m x1 x2) := by
  have hP := hw.2.2.1.1
  obtain ⟨hL0, hL⟩ := nL_b hw.2.2.1
  have i1 : ¬ (1 = 0) := by decide
  unfold gX11_way gX11_way_12 gX12_way gX12_way_17 gX12_way_38
  rcases isSets gC gM hw x1 with ⟨b, hb, rfl, z1, z2⟩ | ⟨z1, z2⟩
  · by_cases zx : nI 0 ≤ x2
    · obtain ⟨y2, hy2, rfl⟩ : ∃ y2, y2 < 2 ^ 31 ∧ x2 = nI y2 := by
        obtain ⟨j, hj, e⟩ := nI_of (x := x2) (by
          intro w
          rw [Int32.lt_iff_toInt_lt] at w
          rw [Int32.le_iff_toInt_le] at zx
          have e0 : (nI 0).toInt = Int32.toInt 0 := rfl
          omega)
        exact ⟨j, hj, e⟩
      obtain ⟨a, c1, c2, r, e1, eV, s1, e2, R2, s116, C1, X⟩ := c_go (goal := nI b) gC hw hT (Or.inl ⟨b, hb, rfl⟩)
      obtain ⟨m', q', D', W', n', em, B, A⟩ := q_laysStands (RD_now gM hw)
      obtain ⟨m2, F, ef, B2, A2, FV2, FR⟩ := q_meetings B A hb
      have h0 := A.1.1
      have q0 : q' 0 = (zS x).1 := A.1.2.1
      have RM2 : RM m2 x := RM_kp (RM_0 gM (nI 0)) (mfs_kp B2.2.2.2.2)
      have Fz0' := FR 0 h0
      rw [q0] at Fz0'
      rcases X with ⟨r1, r2⟩ | ⟨st, q, D, W, n, hd, k, Q, n0, r1, r2⟩
      · rcases Fz0' with ⟨w1, w2⟩ | ⟨w1, w2⟩
        · rw [w1] at ef
          rw [r1] at e2
          have lm : ¬ nI y2 < -nI 1 := by
            rw [Int32.lt_iff_toInt_lt, nI_toInt hy2]
            have e : (-nI 1).toInt = -1 := by decide
            omega
          refine ⟨-nI 1, c2, m2, x, ?_, ?_, R2, RM2, hw⟩
          · unfold gX7_leadingTo
            simp (disch := omega) only [n_lit, n_of, n_o1, nI_add, pk_mul, nI_ltI, nI_leI, nI_eq, ↓lift_lt, ↓k_mt, ↓k_mp, if_true, if_false, Bool.false_eq_true, Nat.not_lt_zero, Nat.zero_le, Nat.reduceEqDiff, Nat.reduceLeDiff, Nat.reduceLT, z1, i1, e1, s1.1, e2, c_lengthTo_no, lm]
          · unfold gX12_laysMeeting
            simp (disch := omega) only [n_lit, n_of, n_o1, nI_add, pk_mul, nI_ltI, nI_leI, nI_eq, ↓lift_lt, ↓k_mt, ↓k_mp, if_true, if_false, Bool.false_eq_true, Nat.not_lt_zero, Nat.zero_le, Nat.reduceEqDiff, Nat.reduceLeDiff, Nat.reduceLT, z2, i1, em, ef]
        · obtain ⟨⟨y, y1, y2⟩, -⟩ := w2
          exact absurd y2 (r2 _ _ y1)
      · have hD := Best_Dst r2
        rcases Fz0' with ⟨w1, w2⟩ | ⟨w1, w2⟩
        · exact absurd r2.2.1 (w2 _ _ r2.1)
        · have ed := Dst_one w2 hD
          have hW' : wV (V a) := by rw [eV]; exact hw.2.2.1
          have hn1 : n - 1 < n := by omega
          have row := Bq_row (by rw [eV]; exact hL) Q.1 hn1
          have hn := Q.2.2.1
          have oq := (Q.2.2.2.2.2.1 (n - 1) hn1).1
          have lt := c_lengthTo (h := h) (i := n - 1) hW' Q hn1
          rw [r1] at e2
          rw [ed] at ef w1
          have ne : ¬ D (n - 1) = 268435456 := by omega
          by_cases zd : y2 < D (n - 1)
          · have la := la_run (h := h) (x2 := y2) s116 (by rw [eV]; exact C1) hW' Q (n - 1) hn1 zd (by omega)
            rw [eV] at la
            have qw := q_way (x2 := y2) B2 A2 FV2 FR r2 w1 zd
            have nw := q_nowD B2.1
            refine ⟨nI (ld (zV x) (W (n - 1) / 35 ^ (D (n - 1) - y2 - 1) % 35)), c2, m2, x, ?_, ?_, R2, RM2, hw⟩
            · unfold gX7_leadingTo
              simp (disch := omega) only [n_lit, n_of, n_o1, nI_add, pk_mul, nI_ltI, nI_leI, nI_eq, ↓lift_lt, ↓k_mt, ↓k_mp, if_true, if_false, Bool.false_eq_true, Nat.not_lt_zero, Nat.zero_le, Nat.reduceEqDiff, Nat.reduceLeDiff, Nat.reduceLT, z1, i1, e1, s1.1, e2, lt, zd, c_linkOf (h := h) (c := c2) oq, pk_sub, la]
            · unfold gX12_laysMeeting
              simp (disch := omega) only [n_lit, n_of, n_o1, nI_add, pk_mul, nI_ltI, nI_leI, nI_eq, ↓lift_lt, ↓k_mt, ↓k_mp, if_true, if_false, Bool.false_eq_true, Nat.not_lt_zero, Nat.zero_le, Nat.reduceEqDiff, Nat.reduceLeDiff, Nat.reduceLT, z2, i1, em, ef, ne, zd, nw, qw]
          · refine ⟨-nI 1, c2, m2, x, ?_, ?_, R2, RM2, hw⟩
            · unfold gX7_leadingTo
              simp (disch := omega) only [n_lit, n_of, n_o1, nI_add, pk_mul, nI_ltI, nI_leI, nI_eq, ↓lift_lt, ↓k_mt, ↓k_mp, if_true, if_false, Bool.false_eq_true, Nat.not_lt_zero, Nat.zero_le, Nat.reduceEqDiff, Nat.reduceLeDiff, Nat.reduceLT, z1, i1, e1, s1.1, e2, lt, zd]
            · unfold gX12_laysMeeting
              simp (disch := omega) only [n_lit, n_of, n_o1, nI_add, pk_mul, nI_ltI, nI_leI, nI_eq, ↓lift_lt, ↓k_mt, ↓k_mp, if_true, if_false, Bool.false_eq_true, Nat.not_lt_zero, Nat.zero_le, Nat.reduceEqDiff, Nat.reduceLeDiff, Nat.reduceLT, z2, i1, em, ef, ne, zd]
    · refine ⟨-nI 3, c, mI m 0 (nI 0), x, ?_, ?_, RC_T (by omega) gC, RM_0 gM _, hw⟩
      · simp (disch := omega) only [n_lit, n_of, n_o1, nI_add, pk_mul, nI_ltI, nI_leI, nI_eq, ↓lift_lt, ↓k_mt, ↓k_mp, if_true, if_false, Bool.false_eq_true, Nat.not_lt_zero, Nat.zero_le, Nat.reduceEqDiff, Nat.reduceLeDiff, Nat.reduceLT, z1, i1, zx]
      · simp (disch := omega) only [n_lit, n_of, n_o1, nI_add, pk_mul, nI_ltI, nI_leI, nI_eq, ↓lift_lt, ↓k_mt, ↓k_mp, if_true, if_false, Bool.false_eq_true, Nat.not_lt_zero, Nat.zero_le, Nat.reduceEqDiff, Nat.reduceLeDiff, Nat.reduceLT, z2, i1, zx]
  · refine ⟨-nI 3, c, mI m 0 (nI 0), x, ?_, ?_, RC_T (by omega) gC, RM_0 gM _, hw⟩
    · simp (disch := omega) only [n_lit, n_of, n_o1, nI_add, pk_mul, nI_ltI, nI_leI, nI_eq, ↓lift_lt, ↓k_mt, ↓k_mp, if_true, if_false, Bool.false_eq_true, Nat.not_lt_zero, Nat.zero_le, Nat.reduceEqDiff, Nat.reduceLeDiff, Nat.reduceLT, z1]
    · simp (disch := omega) only [n_lit, n_of, n_o1, nI_add, pk_mul, nI_ltI, nI_leI, nI_eq, ↓lift_lt, ↓k_mt, ↓k_mp, if_true, if_false, Bool.false_eq_true, Nat.not_lt_zero, Nat.zero_le, Nat.reduceEqDiff, Nat.reduceLeDiff, Nat.reduceLT, z2]
end OPS16
