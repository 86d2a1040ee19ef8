/-! ages by draws -/
def nx1 (X : Int32) : Int32 := nI 1103515245 * X + nI 12345
def dvN (X : Int32) : Nat := (nx1 X).toBitVec.toNat / 2 ^ 16
theorem dvN_e (X : Int32) : ((nI 1103515245 * X + nI 12345).toUInt32 >>> ((nI 16).toUInt32 &&& Int32.toUInt32 (nI 31))).toInt32 = nI (dvN X) ∧ dvN X < 65536 := by
  have h1 : (nx1 X).toBitVec.toNat < 2 ^ 32 := (nx1 X).toBitVec.isLt
  have h2 : dvN X < 65536 := by unfold dvN; omega
  refine ⟨?_, h2⟩
  apply Int32.toBitVec_inj.mp
  apply BitVec.eq_of_toNat_eq
  have e := pk_ushr (nI 1103515245 * X + nI 12345) (nI 16) 16 (by decide)
  have e2 : (nI (dvN X)).toBitVec.toNat = dvN X := pk_tn (by omega)
  rw [e2]
  exact e
def ddv (X : Int32) : Nat := if dvN X % 6 < 3 then (if dvN (nx1 X) % 3 = 0 then 1 else 0) else if dvN X % 6 = 3 then 10 + dvN (nx1 X) % 4 else if dvN X % 6 = 4 then 100 + 10 * (dvN (nx1 X) % 4) + dvN (nx1 (nx1 X)) % 10 else 1000 + dvN (nx1 X) % 625
def ddx (X : Int32) : Int32 := if dvN X % 6 = 4 then nx1 (nx1 (nx1 X)) else nx1 (nx1 X)
theorem ddv_b (X : Int32) : ddv X < 2000 := by
  unfold ddv
  split
  · split <;> omega
  · split
    · omega
    · split <;> omega
theorem c_draw {h : Hp} {c : Ch} {X : Int32} (hX : c.1 80 18 = X) : gX11_draw h c = some (nI (dvN X), cI c 80 18 (nx1 X)) := by
  have e := (dvN_e X).1
  have k : (cI c 80 18 (nx1 X)).1 80 18 = nx1 X := by rw [cI_1, if_pos rfl, if_pos rfl]
  unfold gX11_draw
  simp only [lift_lt, n_lit, hX]
  show some ((((cI c 80 18 (nx1 X)).1 80 18).toUInt32 >>> ((nI 16).toUInt32 &&& Int32.toUInt32 (nI 31))).toInt32, cI c 80 18 (nx1 X)) = _
  rw [k]
  unfold nx1
  rw [e]
theorem cI_cI (c : Ch) (r k : Nat) (x y : Int32) : (cI (cI c r k x) r k y).1 r k = y := by rw [cI_1, if_pos rfl, if_pos rfl]
def c18 (c c' : Ch) : Prop := (∀ r, ¬ r = 80 → c'.1 r = c.1 r) ∧ (∀ k, ¬ k = 18 → c'.1 80 k = c.1 80 k) ∧ c'.2 = c.2
theorem c18_I {c0 c : Ch} {x : Int32} (h : c18 c0 c) : c18 c0 (cI c 80 18 x) := ⟨fun r hr => by rw [cI_n _ hr]; exact h.1 r hr, fun k hk => by rw [cI_1, if_pos rfl, if_neg hk]; exact h.2.1 k hk, h.2.2⟩
theorem c18_rfl (c : Ch) : c18 c c := ⟨fun _ _ => rfl, fun _ _ => rfl, rfl⟩
theorem c_drawDeed {h : Hp} {c : Ch} {X : Int32} (hX : c.1 80 18 = X) : ∃ c', gX11_drawDeed h c = some (nI (ddv X), c') ∧ c'.1 80 18 = ddx X ∧ c18 c c' := by
  have b0 := (dvN_e X).2
  have b1 := (dvN_e (nx1 X)).2
  have b2 := (dvN_e (nx1 (nx1 X))).2
  have k1 : (cI c 80 18 (nx1 X)).1 80 18 = nx1 X := by rw [cI_1, if_pos rfl, if_pos rfl]
  have k2 : (cI (cI c 80 18 (nx1 X)) 80 18 (nx1 (nx1 X))).1 80 18 = nx1 (nx1 X) := by rw [cI_1, if_pos rfl, if_pos rfl]
  have d0 := c_draw (h := h) hX
  have d1 := c_draw (h := h) k1
  have d2 := c_draw (h := h) k2
  have f2 : c18 c (cI (cI c 80 18 (nx1 X)) 80 18 (nx1 (nx1 X))) := c18_I (c18_I (c18_rfl c))
  have hm : dvN X % 6 < 6 := Nat.mod_lt _ (by decide)
  unfold gX11_drawDeed gX11_drawDeed_27 ddv ddx
  by_cases z1 : dvN X % 6 < 3
  · have z2 : ¬ 2 < dvN X % 6 := by omega
    have z3 : ¬ dvN X % 6 = 4 := by omega
    by_cases z4 : dvN (nx1 X) % 3 = 0
    · refine ⟨cI (cI c 80 18 (nx1 X)) 80 18 (nx1 (nx1 X)), ?_, ?_, f2⟩
      · simp (disch := omega) only [n_lit, n_of, n_o1, nI_add, pk_mul, nI_ltI, nI_leI, nI_eq, ↓lift_lt, ↓k_mt, ↓k_mp, if_true, if_false, Bool.false_eq_true, Nat.not_lt_zero, Nat.zero_le, Nat.reduceEqDiff, Nat.reduceLeDiff, Nat.reduceLT, d0, n_rm, z2, d1, z4, z1]
      · rw [k2, if_neg z3]
    · refine ⟨cI (cI c 80 18 (nx1 X)) 80 18 (nx1 (nx1 X)), ?_, ?_, f2⟩
      · simp (disch := omega) only [n_lit, n_of, n_o1, nI_add, pk_mul, nI_ltI, nI_leI, nI_eq, ↓lift_lt, ↓k_mt, ↓k_mp, if_true, if_false, Bool.false_eq_true, Nat.not_lt_zero, Nat.zero_le, Nat.reduceEqDiff, Nat.reduceLeDiff, Nat.reduceLT, d0, n_rm, z2, d1, z4, z1]
      · rw [k2, if_neg z3]
  · have z2 : 2 < dvN X % 6 := by omega
    by_cases z3 : dvN X % 6 = 3
    · refine ⟨cI (cI c 80 18 (nx1 X)) 80 18 (nx1 (nx1 X)), ?_, ?_, f2⟩
      · simp (disch := omega) only [n_lit, n_of, n_o1, nI_add, pk_mul, nI_ltI, nI_leI, nI_eq, ↓lift_lt, ↓k_mt, ↓k_mp, if_true, if_false, Bool.false_eq_true, Nat.not_lt_zero, Nat.zero_le, Nat.reduceEqDiff, Nat.reduceLeDiff, Nat.reduceLT, d0, n_rm, z2, d1, z3, z1]
      · rw [k2, if_neg (by omega)]
    · by_cases z4 : dvN X % 6 = 4
      · refine ⟨cI (cI (cI c 80 18 (nx1 X)) 80 18 (nx1 (nx1 X))) 80 18 (nx1 (nx1 (nx1 X))), ?_, ?_, c18_I f2⟩
        · simp (disch := omega) only [n_lit, n_of, n_o1, nI_add, pk_mul, nI_ltI, nI_leI, nI_eq, ↓lift_lt, ↓k_mt, ↓k_mp, if_true, if_false, Bool.false_eq_true, Nat.not_lt_zero, Nat.zero_le, Nat.reduceEqDiff, Nat.reduceLeDiff, Nat.reduceLT, d0, n_rm, z2, d1, d2, z3, z4, z1]
        · rw [cI_cI, if_pos z4]
      · refine ⟨cI (cI c 80 18 (nx1 X)) 80 18 (nx1 (nx1 X)), ?_, ?_, f2⟩
        · simp (disch := omega) only [n_lit, n_of, n_o1, nI_add, pk_mul, nI_ltI, nI_leI, nI_eq, ↓lift_lt, ↓k_mt, ↓k_mp, if_true, if_false, Bool.false_eq_true, Nat.not_lt_zero, Nat.zero_le, Nat.reduceEqDiff, Nat.reduceLeDiff, Nat.reduceLT, d0, n_rm, z2, d1, z3, z4, z1]
        · rw [k2, if_neg z4]
theorem q_draw {m : Mu} {X : Int32} {b : Nat} (hX : m.1 24 = X) (hb : 0 < b) (hb2 : b < 2 ^ 31) : gX12_draw m (nI b) = some (nI (dvN X % b), mI m 24 (nx1 X)) := by
  have e := (dvN_e X).1
  have b0 := (dvN_e X).2
  have k : (mI m 24 (nx1 X)).1 24 = nx1 X := by rw [mI_f, if_pos rfl]
  unfold gX12_draw
  simp only [lift_lt, n_lit, hX]
  show (rm (((mI m 24 (nx1 X)).1 24).toUInt32 >>> ((nI 16).toUInt32 &&& Int32.toUInt32 (nI 31))).toInt32 (nI b)).bind _ = _
  rw [k]
  unfold nx1
  rw [e, n_rm (by omega) hb hb2]
  rfl
theorem q_drawn {m : Mu} {X : Int32} (hX : m.1 24 = X) : ∃ m', gX12_drawn m = some (nI (ddv X), m') ∧ m'.1 24 = ddx X ∧ (∀ r, ¬ r = 24 → m'.1 r = m.1 r) ∧ m'.2 = m.2 := by
  have b0 := (dvN_e X).2
  have b1 := (dvN_e (nx1 X)).2
  have b2 := (dvN_e (nx1 (nx1 X))).2
  have k1 : (mI m 24 (nx1 X)).1 24 = nx1 X := by rw [mI_f, if_pos rfl]
  have k2 : (mI (mI m 24 (nx1 X)) 24 (nx1 (nx1 X))).1 24 = nx1 (nx1 X) := by rw [mI_f, if_pos rfl]
  have d0 := fun b (h1 : 0 < b) (h2 : b < 2 ^ 31) => q_draw (m := m) (b := b) hX h1 h2
  have d1 := fun b (h1 : 0 < b) (h2 : b < 2 ^ 31) => q_draw (b := b) k1 h1 h2
  have d2 := fun b (h1 : 0 < b) (h2 : b < 2 ^ 31) => q_draw (b := b) k2 h1 h2
  have hm : dvN X % 6 < 6 := Nat.mod_lt _ (by decide)
  have fin : ∀ y z : Int32, ∀ r, ¬ r = 24 → (mI (mI m 24 y) 24 z).1 r = m.1 r := fun y z r hr => by rw [mI_f, if_neg hr, mI_f, if_neg hr]
  unfold gX12_drawn gX12_drawn_75 gX12_drawn_25 ddv ddx
  by_cases z1 : dvN X % 6 < 3
  · have z2 : ¬ 3 ≤ dvN X % 6 := by omega
    have z3 : ¬ dvN X % 6 = 4 := by omega
    by_cases z4 : dvN (nx1 X) % 3 = 0
    · refine ⟨mI (mI m 24 (nx1 X)) 24 (nx1 (nx1 X)), ?_, ?_, fin _ _, rfl⟩
      · simp (disch := omega) only [n_lit, n_of, n_o1, nI_add, pk_mul, nI_ltI, nI_leI, nI_eq, ↓lift_lt, ↓k_mt, ↓k_mp, if_true, if_false, Bool.false_eq_true, Nat.not_lt_zero, Nat.zero_le, Nat.reduceEqDiff, Nat.reduceLeDiff, Nat.reduceLT, d0, d1, z2, z4, z1]
      · rw [k2, if_neg z3]
    · refine ⟨mI (mI m 24 (nx1 X)) 24 (nx1 (nx1 X)), ?_, ?_, fin _ _, rfl⟩
      · simp (disch := omega) only [n_lit, n_of, n_o1, nI_add, pk_mul, nI_ltI, nI_leI, nI_eq, ↓lift_lt, ↓k_mt, ↓k_mp, if_true, if_false, Bool.false_eq_true, Nat.not_lt_zero, Nat.zero_le, Nat.reduceEqDiff, Nat.reduceLeDiff, Nat.reduceLT, d0, d1, z2, z4, z1]
      · rw [k2, if_neg z3]
  · have z2 : 3 ≤ dvN X % 6 := by omega
    by_cases z3 : dvN X % 6 = 3
    · refine ⟨mI (mI m 24 (nx1 X)) 24 (nx1 (nx1 X)), ?_, ?_, fin _ _, rfl⟩
      · simp (disch := omega) only [n_lit, n_of, n_o1, nI_add, pk_mul, nI_ltI, nI_leI, nI_eq, ↓lift_lt, ↓k_mt, ↓k_mp, if_true, if_false, Bool.false_eq_true, Nat.not_lt_zero, Nat.zero_le, Nat.reduceEqDiff, Nat.reduceLeDiff, Nat.reduceLT, d0, d1, z2, z3, z1]
      · rw [k2, if_neg (by omega)]
    · by_cases z4 : dvN X % 6 = 4
      · refine ⟨mI (mI (mI m 24 (nx1 X)) 24 (nx1 (nx1 X))) 24 (nx1 (nx1 (nx1 X))), ?_, ?_, fun r hr => by rw [mI_f, if_neg hr]; exact fin _ _ r hr, rfl⟩
        · simp (disch := omega) only [n_lit, n_of, n_o1, nI_add, pk_mul, nI_ltI, nI_leI, nI_eq, ↓lift_lt, ↓k_mt, ↓k_mp, if_true, if_false, Bool.false_eq_true, Nat.not_lt_zero, Nat.zero_le, Nat.reduceEqDiff, Nat.reduceLeDiff, Nat.reduceLT, d0, d1, d2, z2, z3, z4, z1]
        · rw [mI_f, if_pos rfl, if_pos z4]
      · have z5 : dvN X % 6 = 5 := by omega
        refine ⟨mI (mI m 24 (nx1 X)) 24 (nx1 (nx1 X)), ?_, ?_, fin _ _, rfl⟩
        · simp (disch := omega) only [n_lit, n_of, n_o1, nI_add, pk_mul, nI_ltI, nI_leI, nI_eq, ↓lift_lt, ↓k_mt, ↓k_mp, if_true, if_false, Bool.false_eq_true, Nat.not_lt_zero, Nat.zero_le, Nat.reduceEqDiff, Nat.reduceLeDiff, Nat.reduceLT, d0, d1, z5]
        · rw [k2, if_neg z4]
/-! frames that let a draw be -/
def dfg (c c' : Ch) : Prop := (∀ r, ¬ r = 90 → ¬ r = 108 → ¬ r = 80 → c'.1 r = c.1 r) ∧ c'.1 80 1 = c.1 80 1 ∧ c'.2.1 = c.2.1 ∧ (∀ r, ¬ r = 108 → c'.2.2.1 r = c.2.2.1 r) ∧ (∀ r, A112 r = false → c'.2.2.2.1 r = c.2.2.2.1 r) ∧ c'.2.2.2.2 = c.2.2.2.2
theorem dfg_rfl (c : Ch) : dfg c c := ⟨fun _ _ _ _ => rfl, rfl, rfl, fun _ _ => rfl, fun _ _ => rfl, rfl⟩
theorem dfg_tr {c c' c'' : Ch} (h : dfg c c') (h' : dfg c' c'') : dfg c c'' := ⟨fun r a b d => (h'.1 r a b d).trans (h.1 r a b d), h'.2.1.trans h.2.1, h'.2.2.1.trans h.2.2.1, fun r a => (h'.2.2.2.1 r a).trans (h.2.2.2.1 r a), fun r a => (h'.2.2.2.2.1 r a).trans (h.2.2.2.2.1 r a), h'.2.2.2.2.2.trans h.2.2.2.2.2⟩
theorem dfg_d {c c' : Ch} (h : dfc 0 c c') : dfg c c' := ⟨fun r a b _ => h.1 r a b, by rw [h.1 80 (by decide) (by decide)], h.2.1, h.2.2.1, h.2.2.2.1, h.2.2.2.2⟩
theorem dfg_18 {c c' : Ch} (h : c18 c c') : dfg c c' := ⟨fun r _ _ d => h.1 r d, h.2.1 1 (by decide), by rw [h.2.2], fun r _ => by rw [h.2.2], fun r _ => by rw [h.2.2], by rw [h.2.2]⟩
theorem DC_18 {h : Hp} {V : Nat → Cv} {c c' : Ch} {a : Nat} {v : Cv} {s : St} (D : DC h V c a v 0 s) (f : c18 c c') : DC h V c' a v 0 s := by
  obtain ⟨d1, d2, d3, d4, d5, d6, a', ch', dT⟩ := D
  exact ⟨by rw [f.2.2]; exact d1, d2, d3, d4, stc_eq (f.1 _ (by decide)) d5, d6, a', ch', CT_1 dT (by rw [f.1 108 (by decide)]) f.2.2⟩
section AGE
variable {h : Hp} {V : Nat → Cv} {a : Nat} {v : Cv}
theorem age_run {n : Nat} (hn : n ≤ 40) : ∀ (r k : Nat), k + r = n → ∀ (c : Ch) (m : Mu) (s : St) (dn : Nat), dn ≤ k → DC h V c a v 0 s → RD m v s → c.1 80 18 = m.1 24 →
    ∃ n' s' c' m', gX11_age_35 h c (nI n) (nI dn) (nI k) = gX11_age_66 h c' (nI n') ∧ gX12_age_34 m (nI n) (nI dn) (nI k) = gX12_age_74 m' (nI n') ∧ dn ≤ n' ∧ n' ≤ 40 ∧ (n' = dn → s' = s) ∧ RD m' v s' ∧ DC h V c' a v 0 s' ∧ dfg c c' ∧ tfm m m' := by
  intro r
  induction r with
  | zero =>
    intro k hk c m s dn hdn D Q hX
    have kn : k = n := by omega
    subst kn
    refine ⟨dn, s, c, m, ?_, ?_, Nat.le_refl dn, by omega, fun _ => rfl, Q, D, dfg_rfl c, tfm_rfl m⟩
    · unfold gX11_age_35
      have eb : gX11_age_35b h c (nI k) (nI dn) (nI k) = (gX11_age_66 h c (nI dn)).map (fun q => .inr q) := by
        unfold gX11_age_35b
        simp (disch := omega) only [nI_leI, Nat.le_refl, if_true]
      exact lpw_m eb
    · unfold gX12_age_34
      have eb : gX12_age_34b m (nI k) (nI dn) (nI k) = (gX12_age_74 m (nI dn)).map (fun q => .inr q) := by
        unfold gX12_age_34b
        simp (disch := omega) only [nI_leI, Nat.le_refl, if_true]
      exact lpw_m eb
  | succ r ih =>
    intro k hk c m s dn hdn D Q hX
    have kn : ¬ n ≤ k := by omega
    obtain ⟨c1, e1, x1, f1⟩ := c_drawDeed (h := h) (c := c) rfl
    obtain ⟨m1, em1, y1, y2, y3⟩ := q_drawn (m := m) rfl
    rw [hX] at e1 x1
    have Q1 : RD m1 v s := by unfold RD; rw [y3]; exact Q
    have t1 : tfm m m1 := ⟨fun r _ b => y2 r b, by rw [y3], fun r _ _ _ => by rw [y3], fun j _ => by rw [y3]⟩
    have db := ddv_b (m.1 24)
    obtain ⟨why, c2, e2, hwy, g2, ew, hh⟩ := act2 (j := 0) (m := m1) (lN (ddv (m.1 24))) (DC_18 D f1) Q1
    rw [lN_i] at hh
    have nl : (nI (ddv (m.1 24))).toInt64 = lN (ddv (m.1 24)) := nI_l (by omega)
    have g80 : c2.1 80 18 = ddx (m.1 24) := by rw [g2.1 80 (by decide) (by decide)]; exact x1
    rcases hh with ⟨hw0, D2⟩ | ⟨hw0, s', m', em, gm, Q', D2⟩
    · obtain ⟨n', s2, c3, m3, a1, a2, a3, a4, a5, a6, a7, a8, a9⟩ := ih (k + 1) (by omega) c2 m1 s dn (by omega) D2 Q1 (by rw [g80, y1])
      refine ⟨n', s2, c3, m3, ?_, ?_, a3, a4, a5, a6, a7, dfg_tr (dfg_18 f1) (dfg_tr (dfg_d g2) a8), tfm_tr t1 a9⟩
      · rw [← a1]
        unfold gX11_age_35
        have eb : gX11_age_35b h c (nI n) (nI dn) (nI k) = some (.inl (nI dn, nI (k + 1), c2)) := by
          unfold gX11_age_35b gX11_age_60
          simp (disch := omega) only [n_lit, n_of, n_o1, nI_add, pk_mul, nI_ltI, nI_leI, nI_eq, ↓lift_lt, ↓k_mt, ↓k_mp, if_true, if_false, Bool.false_eq_true, Nat.not_lt_zero, Nat.zero_le, Nat.reduceEqDiff, Nat.reduceLeDiff, Nat.reduceLT, kn, e1, nl, e2, hw0]
        exact lpw_l eb
      · rw [← a2]
        unfold gX12_age_34
        have eb : gX12_age_34b m (nI n) (nI dn) (nI k) = some (.inl (nI dn, nI (k + 1), m1)) := by
          unfold gX12_age_34b gX12_age_68
          simp (disch := omega) only [n_lit, n_of, n_o1, nI_add, pk_mul, nI_ltI, nI_leI, nI_eq, ↓lift_lt, ↓k_mt, ↓k_mp, if_true, if_false, Bool.false_eq_true, Nat.not_lt_zero, Nat.zero_le, Nat.reduceEqDiff, Nat.reduceLeDiff, Nat.reduceLT, kn, em1, nl, ew, hw0]
        exact lpw_l eb
    · subst hw0
      obtain ⟨n', s2, c3, m3, a1, a2, a3, a4, a5, a6, a7, a8, a9⟩ := ih (k + 1) (by omega) c2 m' s' (dn + 1) (by omega) D2 Q' (by rw [g80, gm.1, y1])
      refine ⟨n', s2, c3, m3, ?_, ?_, by omega, a4, fun q => by omega, a6, a7, dfg_tr (dfg_18 f1) (dfg_tr (dfg_d g2) a8), tfm_tr t1 (tfm_tr (tfm_d gm) a9)⟩
      · rw [← a1]
        unfold gX11_age_35
        have eb : gX11_age_35b h c (nI n) (nI dn) (nI k) = some (.inl (nI (dn + 1), nI (k + 1), c2)) := by
          unfold gX11_age_35b gX11_age_60
          simp (disch := omega) only [n_lit, n_of, n_o1, nI_add, pk_mul, nI_ltI, nI_leI, nI_eq, ↓lift_lt, ↓k_mt, ↓k_mp, if_true, if_false, Bool.false_eq_true, Nat.not_lt_zero, Nat.zero_le, Nat.reduceEqDiff, Nat.reduceLeDiff, Nat.reduceLT, kn, e1, nl, e2]
        exact lpw_l eb
      · rw [← a2]
        unfold gX12_age_34
        have eb : gX12_age_34b m (nI n) (nI dn) (nI k) = some (.inl (nI (dn + 1), nI (k + 1), m')) := by
          unfold gX12_age_34b gX12_age_68
          simp (disch := omega) only [n_lit, n_of, n_o1, nI_add, pk_mul, nI_ltI, nI_leI, nI_eq, ↓lift_lt, ↓k_mt, ↓k_mp, if_true, if_false, Bool.false_eq_true, Nat.not_lt_zero, Nat.zero_le, Nat.reduceEqDiff, Nat.reduceLeDiff, Nat.reduceLT, kn, em1, nl, ew, em]
        exact lpw_l eb
end AGE
section OPS7
variable {T : Nat} {h : Hp} {V : Nat → Cv} {c : Ch} {m : Mu} {x : Sp}
theorem RC_deed2 {c' : Ch} {s : St} {H : List St} (gC : RC T h V c x) (k1 : ∀ r, ¬ (90 ≤ r ∧ r < 105) → ¬ r = 108 → ¬ r = 80 → c'.1 r = c.1 r) (k0 : c'.1 80 1 = c.1 80 1) (k3 : ∀ r, ¬ r = 108 → c'.2.2.1 r = c.2.2.1 r) (k4 : ∀ r, A112 r = false → c'.2.2.2.1 r = c.2.2.2.1 r) (k5 : c'.2.2.2.2 = c.2.2.2.2) (hs : stc c' 0 s) (hp : pastC c' H) (hT : ∃ a ch, CT h V c' a ch) : RC T h V c' (sD x s H) := by
  obtain ⟨⟨a1, a2, a3, a4, a5, a6, a7, a8, a9⟩, -, g3⟩ := gC
  refine ⟨⟨by rw [k0]; exact a1, by rw [k4 81 rfl]; exact a2, by rw [k3 80 (by decide)]; exact a3, hs, hp, fun i hi => ?_, fun t ht => ?_, by rw [k1 82 (by omega) (by omega) (by omega)]; exact a8, by rw [k1 82 (by omega) (by omega) (by omega)]; exact a9⟩, hT, SI_eq (k1 116 (by omega) (by omega) (by omega)) (by rw [k3 116 (by decide)]) (k4 117 rfl) (k4 118 rfl) (k4 119 rfl) (k4 120 rfl) g3⟩
  · have b := a6 i hi
    show imC h V c' i (zI x i)
    unfold imC at *
    cases hz : zI x i with
    | none => rw [hz] at b; simp only [k5]; exact b
    | some p =>
      rw [hz] at b
      obtain ⟨a, b1, b2, b3, b4⟩ := b
      have sb : 136 ≤ sadr (13 + i) := by
        unfold sadr
        rw [if_neg (by omega), if_neg (by omega), if_pos (by omega)]
        omega
      exact ⟨a, by rw [k5]; exact b1, b2, b3, stc_eq (k1 _ (by omega) (by omega) (by omega)) b4⟩
  · have b := a7 t ht
    have tb := tadr_b (t := t)
    show trC c' t (zR x t)
    unfold trC at *
    rw [k1 (tadr t) (by omega) (by omega) (by omega), k5]
    exact b
theorem op_age (x1 x2 : Int32) (gC : RC T h V c x) (gM : RM m x) (hw : WF x) : OKs T h V (gX11_age h c x1 x2) (gX12_age m x1 x2) := by
  have i1 : ¬ (1 = 0) := by decide
  unfold gX11_age gX11_age_11 gX12_age
  by_cases hn : ∃ p, 1 ≤ p ∧ p ≤ 40 ∧ x2 = nI p
  · obtain ⟨n, n1, n2, rfl⟩ := hn
    have z1 : ¬ n < 1 := by omega
    obtain ⟨a, c1, e1, D1, t1, p1, f1⟩ := cl_begin gC hw
    obtain ⟨m2, em2, Q2, b2, h2, w2, -⟩ := rf_begin gM hw
    have f18 : c18 c1 (cI c1 80 18 x1) := c18_I (c18_rfl c1)
    obtain ⟨n', s', c', m', a1, a2, -, a4, a5, a6, a7, a8, a9⟩ := age_run (h := h) (V := V) (a := a) (v := zV x) n2 n 0 (by omega) (cI c1 80 18 x1) (mI m2 24 x1) (zS x) 0 (by omega) (DC_18 D1 f18) (RD_I Q2) (by rw [cI_1, if_pos rfl, if_pos rfl, mI_f, if_pos rfl])
    have a9' : tfm m2 m' := tfm_tr (tfm_I x1 (by omega)) a9
    have a8' : dfg c1 c' := dfg_tr (dfg_18 f18) a8
    have kj : ∀ j, j < 15 → ¬ j = 0 → c'.1 (sadr j) = c1.1 (sadr j) := fun j q1 q2 => a8'.1 _ (fun q => sadr_inj (j := j) (j' := 0) q1 (by decide) q2 q) (fun q => sadr_108 j q.symm) (fun q => by have := sadr_b j; omega)
    have p' : pastC c' (zH x) := pastC_eq (a8'.1 93 (by decide) (by decide) (by decide)) (fun j q1 q2 => kj j (by omega) (by omega)) p1
    unfold gX11_age_66 gX11_age_81 at a1
    unfold gX12_age_74 gX12_age_82 at a2
    by_cases n0 : n' = 0
    · subst n0
      have es := a5 rfl
      subst es
      have R0 : RC T h V c' (sD x (zS x) (zH x)) := RC_deed2 gC (fun r q1 q2 q3 => by rw [a8'.1 r (by omega) q2 q3]; exact f1.1 r q1 q2) (by rw [a8'.2.1, f1.1 80 (by omega) (by omega)]) (fun r q => by rw [a8'.2.2.2.1 r q]; exact f1.2.2.1 r q) (fun r q => by rw [a8'.2.2.2.2.1 r q]; exact f1.2.2.2.1 r q) (by rw [a8'.2.2.2.2.2]; exact f1.2.2.2.2) a7.2.2.2.2.1 p' a7.2.2.2.2.2.2
      refine ⟨nI 0, c', m', x, ?_, ?_, RC_T (by omega) R0, rf_no gM h2 w2 a6 a9', hw⟩
      · simp (disch := omega) only [n_lit, n_of, n_o1, nI_add, pk_mul, nI_ltI, nI_leI, nI_eq, ↓lift_lt, ↓k_mt, ↓k_mp, if_true, if_false, Bool.false_eq_true, Nat.not_lt_zero, Nat.zero_le, Nat.reduceEqDiff, Nat.reduceLeDiff, Nat.reduceLT, z1, n2, e1, a1]
      · simp (disch := omega) only [n_lit, n_of, n_o1, nI_add, pk_mul, nI_ltI, nI_leI, nI_eq, ↓lift_lt, ↓k_mt, ↓k_mp, if_true, if_false, Bool.false_eq_true, Nat.not_lt_zero, Nat.zero_le, Nat.reduceEqDiff, Nat.reduceLeDiff, Nat.reduceLT, n_litL, win_y, i1, em2, a2]
    · have z0 : ¬ n' ≤ 0 := by omega
      obtain ⟨c3, e3, p3, k3, k4⟩ := c_remember (h := h) (c := c') (s := zS x) (H := zH x) p' hw.2.2.2.2.1 (stc_eq (kj 1 (by decide) (by decide)) t1)
      obtain ⟨d1, d2, d3, d4, d5, d6, a', ch', dT⟩ := a7
      obtain ⟨m4, e4, R4⟩ := rf_end2 gM hw b2 h2 w2 a6 a9'
      have R3 : RC T h V c3 (sD x s' (push (zH x) (zS x))) := RC_deed2 gC (fun r q1 q2 q3 => by rw [k3 r (by omega) (by omega), a8'.1 r (by omega) q2 q3]; exact f1.1 r q1 q2) (by rw [k3 80 (by decide) (by decide), a8'.2.1, f1.1 80 (by omega) (by omega)]) (fun r q => by rw [k4, a8'.2.2.2.1 r q]; exact f1.2.2.1 r q) (fun r q => by rw [k4, a8'.2.2.2.2.1 r q]; exact f1.2.2.2.1 r q) (by rw [k4, a8'.2.2.2.2.2]; exact f1.2.2.2.2) (stc_eq (k3 _ (by decide) (by decide)) d5) p3 ⟨a', ch', CT_1 dT (by rw [k3 108 (by decide) (by decide)]) k4⟩
      refine ⟨nI n', c3, m4, _, ?_, ?_, RC_T (by omega) R3, R4, WF_deed hw d6 (push_w hw).1 (push_w hw).2⟩
      · simp (disch := omega) only [n_lit, n_of, n_o1, nI_add, pk_mul, nI_ltI, nI_leI, nI_eq, ↓lift_lt, ↓k_mt, ↓k_mp, if_true, if_false, Bool.false_eq_true, Nat.not_lt_zero, Nat.zero_le, Nat.reduceEqDiff, Nat.reduceLeDiff, Nat.reduceLT, z1, n2, e1, a1, z0, e3]
      · simp (disch := omega) only [n_lit, n_of, n_o1, nI_add, pk_mul, nI_ltI, nI_leI, nI_eq, ↓lift_lt, ↓k_mt, ↓k_mp, if_true, if_false, Bool.false_eq_true, Nat.not_lt_zero, Nat.zero_le, Nat.reduceEqDiff, Nat.reduceLeDiff, Nat.reduceLT, n_litL, win_y, i1, em2, a2, z0, e4]
  · have w := win_n (l := 1) (u := 40) (by decide) (by decide) hn
    refine OK_no gC gM hw (-nI 3) ?_ ?_
    · by_cases z1 : x2 < nI 1
      · simp (disch := omega) only [n_lit, n_of, n_o1, nI_add, pk_mul, nI_ltI, nI_leI, nI_eq, ↓lift_lt, ↓k_mt, ↓k_mp, if_true, if_false, Bool.false_eq_true, Nat.not_lt_zero, Nat.zero_le, Nat.reduceEqDiff, Nat.reduceLeDiff, Nat.reduceLT, z1]
      · have z2 : ¬ x2 ≤ nI 40 := by
          intro q
          have h0 : ¬ x2 < 0 := fun r => z1 (Int32.lt_trans r (by decide))
          obtain ⟨j, hj, e⟩ := nI_of h0
          rw [e, nI_leI hj (by decide)] at q
          rw [e, nI_ltI hj (by decide)] at z1
          exact hn ⟨j, by omega, q, e⟩
        simp (disch := omega) only [n_lit, n_of, n_o1, nI_add, pk_mul, nI_ltI, nI_leI, nI_eq, ↓lift_lt, ↓k_mt, ↓k_mp, if_true, if_false, Bool.false_eq_true, Nat.not_lt_zero, Nat.zero_le, Nat.reduceEqDiff, Nat.reduceLeDiff, Nat.reduceLT, z1, z2]
    · simp (disch := omega) only [n_lit, n_of, n_o1, nI_add, pk_mul, nI_ltI, nI_leI, nI_eq, ↓lift_lt, ↓k_mt, ↓k_mp, if_true, if_false, Bool.false_eq_true, Nat.not_lt_zero, Nat.zero_le, Nat.reduceEqDiff, Nat.reduceLeDiff, Nat.reduceLT, n_litL, w]
end OPS7
