/-! the class's search: what it may change, what it is tuned to, goals -/
def scs (r : Nat) : Bool := scr r || (decide (117 ≤ r) && decide (r < 121))
def sfr (c c' : Ch) : Prop := (∀ r, ¬ r = 108 → ¬ r = 116 → c'.1 r = c.1 r) ∧ (∀ r, ¬ r = 108 → ¬ r = 116 → c'.2.2.1 r = c.2.2.1 r) ∧ (∀ r, scs r = false → c'.2.2.2.1 r = c.2.2.2.1 r) ∧ (∀ r, ¬ r = 121 → c'.2.2.2.2.1 r = c.2.2.2.2.1 r) ∧ c'.2.2.2.2.2 = c.2.2.2.2.2
theorem sfr_rfl (c : Ch) : sfr c c := ⟨fun _ _ _ => rfl, fun _ _ _ => rfl, fun _ _ => rfl, fun _ _ => rfl, rfl⟩
theorem sfr_tr {c c' c'' : Ch} (h : sfr c c') (h' : sfr c' c'') : sfr c c'' := ⟨fun r a b => (h'.1 r a b).trans (h.1 r a b), fun r a b => (h'.2.1 r a b).trans (h.2.1 r a b), fun r a => (h'.2.2.1 r a).trans (h.2.2.1 r a), fun r a => (h'.2.2.2.1 r a).trans (h.2.2.2.1 r a), h'.2.2.2.2.trans h.2.2.2.2⟩
theorem scs_f {r : Nat} (h : scs r = false) : scr r = false ∧ ¬ (117 ≤ r ∧ r < 121) := by
  unfold scs at h
  simp only [Bool.or_eq_false_iff, Bool.and_eq_false_iff, decide_eq_false_iff_not] at h
  exact ⟨h.1, by omega⟩
theorem sfr_w {c c' : Ch} (h : cfr Aw c c') : sfr c c' := ⟨fun r _ _ => by rw [h.1], fun r _ _ => by rw [h.2.2.1], fun r hr => h.2.2.2.1 r (scr_w (scs_f hr).1), fun r _ => by rw [h.2.2.2.2], by rw [h.2.2.2.2]⟩
theorem sfr_I {c c' : Ch} {k : Nat} {y : Int32} (h : sfr c c') : sfr c (cI c' 116 k y) := ⟨fun z a b => by rw [cI_n _ b]; exact h.1 z a b, h.2.1, h.2.2.1, h.2.2.2.1, h.2.2.2.2⟩
theorem sfr_S {c c' : Ch} {r i : Nat} {y : Int32} (h : sfr c c') (hr : 117 ≤ r ∧ r < 121) : sfr c (cS c' r i y) := ⟨h.1, h.2.1, fun z hz => by rw [cS_n c' (fun e => by rw [e] at hz; exact (scs_f hz).2 hr)]; exact h.2.2.1 z hz, h.2.2.2.1, h.2.2.2.2⟩
theorem sfr_R {c c' : Ch} {k : Nat} {y : Option Nat} (h : sfr c c') : sfr c (cR c' 116 k y) := ⟨h.1, fun z a b => by
  funext j
  rw [cR_3, if_neg b]
  exact congrFun (h.2.1 z a b) j, h.2.2.1, h.2.2.2.1, h.2.2.2.2⟩
theorem CT_116 {h : Hp} {V : Nat → Cv} {c : Ch} {a ch k : Nat} {y : Int32} (H : CT h V c a ch) : CT h V (cI c 116 k y) a ch := by
  obtain ⟨e1, e2, e3, e4, e5, e6, e7⟩ := H
  exact ⟨e1, e2, e3, by rw [cI_n _ (by decide)]; exact e4, e5, e6, e7⟩
theorem CT_R {h : Hp} {V : Nat → Cv} {c : Ch} {a ch k : Nat} {y : Option Nat} (H : CT h V c a ch) : CT h V (cR c 116 k y) a ch := by
  obtain ⟨e1, e2, e3, e4, e5, e6, e7⟩ := H
  exact ⟨by rw [cR_3, if_neg (by decide)]; exact e1, e2, e3, e4, e5, e6, e7⟩
theorem EXP_eq {v : Cv} {ch : Nat} {c c' : Ch} (h1 : ∀ k, ¬ k = 1 → ¬ k = 2 → ¬ k = 13 → c'.1 116 k = c.1 116 k) (h2 : ∀ r, 117 ≤ r → r < 121 → c'.2.2.2.1 r = c.2.2.2.1 r) (H : EXP v ch c) : EXP v ch c' := by
  unfold EXP QB ENT at *
  rw [h1 14 (by decide) (by decide) (by decide), h1 15 (by decide) (by decide) (by decide), h1 16 (by decide) (by decide) (by decide), h1 12 (by decide) (by decide) (by decide), h1 4 (by decide) (by decide) (by decide), h2 117 (by decide) (by decide), h2 118 (by decide) (by decide), h2 119 (by decide) (by decide), h2 120 (by decide) (by decide)]
  exact H
/-- the search, tuned -/
def SE (B : Nat) (h : Hp) (V : Nat → Cv) (c : Ch) (a ch : Nat) : Prop := c.2.2.1 116 1 = some a ∧ c.1 116 2 = nI ch ∧ CT h V c a ch ∧ ∃ st, c.1 116 4 = nI st ∧ st ≤ B ∧ (∀ i, i < 20000 → ∃ z, z ≤ st ∧ c.2.2.2.1 117 i = nI z) ∧ (c.1 116 13 = nI 0 ∨ (c.1 116 13 = nI 1 ∧ EXP (V a) ch c))
section SRC
variable {T : Nat} {h : Hp} {V : Nat → Cv} {c : Ch} {m : Mu} {x : Sp}
theorem RC_s {c' : Ch} {a ch : Nat} (gC : RC T h V c x) (hf : sfr c c') (hS : SE (10 * (T + 1)) h V c' a ch) : RC (T + 1) h V c' x := by
  obtain ⟨k1, k2, k3, k4, k5⟩ := hf
  obtain ⟨s1, s2, s3, st, s4, s5, s6, s7⟩ := hS
  have tb : ∀ t, ¬ tadr t + 1 = 121 := fun t => by have := tadr_b (t := t); omega
  refine ⟨RS_kp gC.1 ⟨fun r hr => k1 r (fun q => by subst q; cases hr) (fun q => by subst q; cases hr), by rw [k1 80 (by decide) (by decide)], by rw [k2 80 (by decide) (by decide)], k3 81 rfl, fun t => k4 _ (tb t), k5⟩, ⟨a, ch, s3⟩, a, ch, st, s1, s3.2.1, s3.2.2.1, s2, s3.2.2.2.2.1, s4, s5, s6, s7⟩
theorem c_searching (gC : RC T h V c x) (hw : WF x) : ∃ a c1, gX11_searching h c = some c1 ∧ V a = zV x ∧ sfr c c1 ∧ SE (10 * T) h V c1 a (zS x).2.1 ∧ c1.2.2.1 80 3 = some a ∧ stc c1 0 (zS x) ∧ CaveAt h a (zV x) := by
  obtain ⟨-, -, ⟨a, a3, a3b, a3c⟩, a4, -⟩ := gC.1
  obtain ⟨aa, ch, hT⟩ := gC.2.1
  obtain ⟨a0, ch0, st, i1, i2, i3, i4, i5, i6, i7, i8, i9⟩ := gC.2.2
  have p10 := pow10_le hw.2.2.1.1
  have hch := hw.2.2.2.1.2.2.1
  obtain ⟨c1, e1, T1, k1, k2, k3, k4, k5⟩ := c_tune hT (a' := a) (ch' := (zS x).2.1) (by rw [a3b]; exact a3c) (by rw [a3b]; exact hw.2.2.1) (by omega)
  have f1 : sfr c c1 := ⟨fun r q _ => k1 r q, fun r q _ => k3 r q, fun r hr => k4 r (scr_12 (scs_f hr).1), fun r _ => by rw [k5], by rw [k5]⟩
  have hi : ∀ b, fre b → hiB (some b) = true := fun b hb => by
    show decide (80 ≤ b) = true
    rcases hb with hb | hb
    · exact decide_eq_true (by omega)
    · exact decide_eq_true (by omega)
  have r1 : c1.1 116 = c.1 116 := k1 116 (by decide)
  have r3 : c1.2.2.1 116 = c.2.2.1 116 := k3 116 (by decide)
  have r4 : ∀ r, 117 ≤ r → r < 121 → c1.2.2.2.1 r = c.2.2.2.1 r := fun r q1 q2 => k4 r (by
    unfold A112
    simp only [Bool.and_eq_false_iff, decide_eq_false_iff_not]
    omega)
  -- whatever is kept of what was explored
  have fin : ∀ y : Nat, (y = 0 ∨ (y = 1 ∧ EXP (V a) (zS x).2.1 c)) → ∃ c2, gX7_tune_38 h c1 a (nI (zS x).2.1) (nI y) = some c2 ∧ sfr c c2 ∧ SE (10 * T) h V c2 a (zS x).2.1 := by
    intro y hy
    refine ⟨cI (cR (cI c1 116 13 (nI y)) 116 1 (some a)) 116 2 (nI (zS x).2.1), ?_, sfr_I (sfr_R (sfr_I f1)), ?_⟩
    · unfold gX7_tune_38
      rcases hy with hy | ⟨hy, -⟩
      · subst hy
        simp (disch := omega) only [n_lit, n_of, n_o1, nI_add, pk_mul, nI_ltI, nI_leI, nI_eq, ↓lift_lt, ↓k_mt, ↓k_mp, if_true, if_false, Bool.false_eq_true, Nat.not_lt_zero, Nat.zero_le, Nat.reduceEqDiff, Nat.reduceLeDiff, Nat.reduceLT, n_bl0]
      · subst hy
        simp (disch := omega) only [n_lit, n_of, n_o1, nI_add, pk_mul, nI_ltI, nI_leI, nI_eq, ↓lift_lt, ↓k_mt, ↓k_mp, if_true, if_false, Bool.false_eq_true, Nat.not_lt_zero, Nat.zero_le, Nat.reduceEqDiff, Nat.reduceLeDiff, Nat.reduceLT, n_bl1]
    · refine ⟨by rw [cI_2, cR_3, if_pos rfl, if_pos rfl], by rw [cI_1, if_pos rfl, if_pos rfl], CT_116 (CT_R (CT_116 T1)), st, ?_, i7, fun i hi => ?_, ?_⟩
      · rw [cI_1, if_pos rfl, if_neg (by decide), cR_1, cI_1, if_pos rfl, if_neg (by decide), r1]; exact i6
      · obtain ⟨z, z1, z2⟩ := i8 i hi
        exact ⟨z, z1, by rw [← z2, ← r4 117 (by decide) (by decide)]; rfl⟩
      · have e13 : (cI (cR (cI c1 116 13 (nI y)) 116 1 (some a)) 116 2 (nI (zS x).2.1)).1 116 13 = nI y := by
          rw [cI_1, if_pos rfl, if_neg (by decide), cR_1, cI_1, if_pos rfl, if_pos rfl]
        rw [e13]
        rcases hy with hy | ⟨hy, hE⟩
        · exact Or.inl (by rw [hy])
        · refine Or.inr ⟨by rw [hy], EXP_eq (fun k q1 q2 q3 => ?_) (fun r q1 q2 => ?_) hE⟩
          · rw [cI_1, if_pos rfl, if_neg q2, cR_1, cI_1, if_pos rfl, if_neg q3, r1]
          · rw [← r4 r q1 q2]; rfl
  have fin' : ∃ y c2, gX7_tune h c a (nI (zS x).2.1) = some c2 ∧ sfr c c2 ∧ SE (10 * T) h V c2 a (zS x).2.1 ∧ y = 0 := by
    obtain ⟨c2, x2, y2, z2⟩ := fin 0 (Or.inl rfl)
    unfold gX7_tune gX7_tune_37
    rcases i9 with i9 | ⟨i9, i10⟩
    · have t13 : c1.1 116 13 = nI 0 := by rw [r1]; exact i9
      refine ⟨0, c2, ?_, y2, z2, rfl⟩
      simp (disch := omega) only [n_lit, n_of, n_o1, nI_add, pk_mul, nI_ltI, nI_leI, nI_eq, ↓lift_lt, ↓k_mt, ↓k_mp, if_true, if_false, Bool.false_eq_true, Nat.not_lt_zero, Nat.zero_le, Nat.reduceEqDiff, Nat.reduceLeDiff, Nat.reduceLT, e1, t13, x2]
    · have t13 : c1.1 116 13 = nI 1 := by rw [r1]; exact i9
      have t1 : c1.2.2.1 116 1 = some a0 := by rw [r3]; exact i1
      have t2 : c1.1 116 2 = nI ch0 := by rw [r1]; exact i4
      have o1 : ¬ (1 = 0) := by decide
      have g2 : ∀ e : Option Ch, gH2 (some a0) (some a) e = e := fun e => if_pos ⟨hi _ i2.1, hi _ a3c.1⟩
      by_cases ea : a0 = a
      · subst ea
        by_cases ec : ch0 = (zS x).2.1
        · obtain ⟨c3, x3, y3, z3⟩ := fin 1 (Or.inr ⟨rfl, by rw [← ec]; exact i10⟩)
          refine ⟨0, c3, ?_, y3, z3, rfl⟩
          rw [← ec] at x3 e1
          rw [← ec]
          simp (disch := omega) only [n_lit, n_of, n_o1, nI_add, pk_mul, nI_ltI, nI_leI, nI_eq, ↓lift_lt, ↓k_mt, ↓k_mp, if_true, if_false, Bool.false_eq_true, Nat.not_lt_zero, Nat.zero_le, Nat.reduceEqDiff, Nat.reduceLeDiff, Nat.reduceLT, e1, t13, o1, t1, g2, t2, x3]
        · refine ⟨0, c2, ?_, y2, z2, rfl⟩
          simp (disch := omega) only [n_lit, n_of, n_o1, nI_add, pk_mul, nI_ltI, nI_leI, nI_eq, ↓lift_lt, ↓k_mt, ↓k_mp, if_true, if_false, Bool.false_eq_true, Nat.not_lt_zero, Nat.zero_le, Nat.reduceEqDiff, Nat.reduceLeDiff, Nat.reduceLT, e1, t13, o1, t1, g2, t2, ec, x2]
      · have ea' : ¬ some a0 = some a := fun q => ea (Option.some.inj q)
        refine ⟨0, c2, ?_, y2, z2, rfl⟩
        simp (disch := omega) only [n_lit, n_of, n_o1, nI_add, pk_mul, nI_ltI, nI_leI, nI_eq, ↓lift_lt, ↓k_mt, ↓k_mp, if_true, if_false, Bool.false_eq_true, Nat.not_lt_zero, Nat.zero_le, Nat.reduceEqDiff, Nat.reduceLeDiff, Nat.reduceLT, e1, t13, o1, t1, g2, ea', x2]
  obtain ⟨-, c2, x2, y2, z2, -⟩ := fin'
  refine ⟨a, c2, ?_, a3b, y2, z2, by rw [y2.2.1 80 (by decide) (by decide)]; exact a3, stc_eq (y2.1 _ (by decide) (by decide)) a4, a3c⟩
  unfold gX11_searching
  simp (disch := omega) only [n_lit, n_of, n_o1, nI_add, pk_mul, nI_ltI, nI_leI, nI_eq, ↓lift_lt, ↓k_mt, ↓k_mp, if_true, if_false, Bool.false_eq_true, Nat.not_lt_zero, Nat.zero_le, Nat.reduceEqDiff, Nat.reduceLeDiff, Nat.reduceLT, a3, a4.2.1, x2]
end SRC
def okg (P : Nat) (goal : Int32) : Prop := (∃ b, b < 2 ^ P ∧ goal = nI b) ∨ goal = -nI 1 ∨ goal = -nI 2
section GOAL
variable {h : Hp} {V : Nat → Cv} {c : Ch} {a : Nat} {goal : Int32} {s : Nat}
theorem c_isGoal (h1 : c.2.2.1 116 1 = some a) (hC : CaveAt h a (V a)) (hP : vP (V a) ≤ 4) (hg : okg (vP (V a)) goal) (hs : s < 20000) : gX7_isGoal h c (nI s) goal = some (nI (ib (Gp (vP (V a)) goal s))) := by
  have p16 := pow2_le hP
  unfold gX7_isGoal gX7_isGoal_40 gX7_isGoal_41 gX7_isGoal_23
  rcases hg with ⟨b, hb, rfl⟩ | rfl | rfl
  · have b0 : ¬ b < 0 := by omega
    have ml := metb_lt (vP (V a)) s
    have le : metb (vP (V a)) s &&& b ≤ b := Nat.and_le_right
    by_cases z : metb (vP (V a)) s &&& b = b
    · have y : Gp (vP (V a)) (nI b) s := Or.inl ⟨b, hb, rfl, z⟩
      rw [ib_t y]
      simp (disch := omega) only [n_lit, n_of, n_o1, nI_add, pk_mul, nI_ltI, nI_leI, nI_eq, ↓lift_lt, ↓k_mt, ↓k_mp, if_true, if_false, Bool.false_eq_true, Nat.not_lt_zero, Nat.zero_le, Nat.reduceEqDiff, Nat.reduceLeDiff, Nat.reduceLT, b0, h1, cv_O hC, c_metBits hC hP (show s < 2 ^ 31 by omega), n_and, eq_true z, n_bl1]
    · have y : ¬ Gp (vP (V a)) (nI b) s := by
        rintro (⟨b', q1, q2, q3⟩ | ⟨q1, -⟩)
        · have e := (nI_eq (by omega) (by omega)).mp q2
          rw [← e] at q3
          exact z q3
        · exact nI_ne1 (n := b) (by omega) q1
      rw [ib_f y]
      simp (disch := omega) only [n_lit, n_of, n_o1, nI_add, pk_mul, nI_ltI, nI_leI, nI_eq, ↓lift_lt, ↓k_mt, ↓k_mp, if_true, if_false, Bool.false_eq_true, Nat.not_lt_zero, Nat.zero_le, Nat.reduceEqDiff, Nat.reduceLeDiff, Nat.reduceLT, b0, h1, cv_O hC, c_metBits hC hP (show s < 2 ^ 31 by omega), n_and, z, n_bl0]
  · have l0 : -nI 1 < nI 0 := by decide
    by_cases z : s < 10000
    · have y : ¬ Gp (vP (V a)) (-nI 1) s := by
        rintro (⟨b', q1, q2, q3⟩ | ⟨-, q1⟩)
        · exact nI_ne1 (n := b') (by omega) q2.symm
        · omega
      rw [ib_f y]
      simp (disch := omega) only [n_lit, n_of, n_o1, nI_add, pk_mul, nI_ltI, nI_leI, nI_eq, ↓lift_lt, ↓k_mt, ↓k_mp, if_true, if_false, Bool.false_eq_true, Nat.not_lt_zero, Nat.zero_le, Nat.reduceEqDiff, Nat.reduceLeDiff, Nat.reduceLT, l0, z, n_bl0]
    · have y : Gp (vP (V a)) (-nI 1) s := Or.inr ⟨rfl, by omega⟩
      rw [ib_t y]
      simp (disch := omega) only [n_lit, n_of, n_o1, nI_add, pk_mul, nI_ltI, nI_leI, nI_eq, ↓lift_lt, ↓k_mt, ↓k_mp, if_true, if_false, Bool.false_eq_true, Nat.not_lt_zero, Nat.zero_le, Nat.reduceEqDiff, Nat.reduceLeDiff, Nat.reduceLT, l0, z, n_bl1]
  · have l0 : -nI 2 < nI 0 := by decide
    have l1 : ¬ (-nI 2 = -nI 1) := by decide
    have y : ¬ Gp (vP (V a)) (-nI 2) s := by
      rintro (⟨b', q1, q2, q3⟩ | ⟨q1, -⟩)
      · have : (-nI 2).toInt = (nI b').toInt := by rw [q2]
        rw [nI_toInt (by omega)] at this
        have e : (-nI 2).toInt = -2 := by decide
        omega
      · exact l1 q1
    rw [ib_f y]
    simp (disch := omega) only [n_lit, n_of, n_o1, nI_add, pk_mul, nI_ltI, nI_leI, nI_eq, ↓lift_lt, ↓k_mt, ↓k_mp, if_true, if_false, Bool.false_eq_true, Nat.not_lt_zero, Nat.zero_le, Nat.reduceEqDiff, Nat.reduceLeDiff, Nat.reduceLT, l0, l1, n_bl0]
theorem c_isState (hs : s < 20000) : gX7_isState (nI s) = some (nI 1) := by
  have s1 : ¬ 20000 ≤ s := by omega
  unfold gX7_isState gX7_isState_16
  simp (disch := omega) only [n_lit, n_of, n_o1, nI_add, pk_mul, nI_ltI, nI_leI, nI_eq, ↓lift_lt, ↓k_mt, ↓k_mp, if_true, if_false, Bool.false_eq_true, Nat.not_lt_zero, Nat.zero_le, Nat.reduceEqDiff, Nat.reduceLeDiff, Nat.reduceLT, s1, n_bl1]
theorem c_reach {n : Nat} {link : Int32} (hs : s < 20000) (h12 : c.1 116 12 = nI n) (hn : n < 20000) : gX7_reach h c (nI s) link = some (cI (cS (cS (cS (cS c 117 s (c.1 116 4)) 119 s link) 120 s (nI 0)) 118 n (nI s)) 116 12 (nI (n + 1))) := by
  have i1 : ¬ (1 = 0) := by decide
  have n1 : ¬ 20000 ≤ n := by omega
  unfold gX7_reach gX7_reach_61
  simp (disch := omega) only [n_lit, n_of, n_o1, nI_add, pk_mul, nI_ltI, nI_leI, nI_eq, ↓lift_lt, ↓k_mt, ↓k_mp, if_true, if_false, Bool.false_eq_true, Nat.not_lt_zero, Nat.zero_le, Nat.reduceEqDiff, Nat.reduceLeDiff, Nat.reduceLT, c_isState hs, i1, h12, n1, cW0_g, cS_1]
end GOAL
