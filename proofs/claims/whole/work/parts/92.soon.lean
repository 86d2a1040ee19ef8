/-! soonest, felling, way -/
theorem Gp_b {P b s : Nat} (hP : P ≤ 4) (hb : b < 2 ^ P) : Gp P (nI b) s ↔ metb P s &&& b = b := by
  have p16 := pow2_le hP
  constructor
  · rintro (⟨b', q1, q2, q3⟩ | ⟨q1, -⟩)
    · have e := (nI_eq (by omega) (by omega)).mp q2
      rw [← e] at q3
      exact q3
    · exact absurd q1 (nI_ne1 (n := b) (by omega))
  · intro z
    exact Or.inl ⟨b, hb, rfl, z⟩
theorem Gp_1 {P s : Nat} (hP : P ≤ 4) : Gp P (-nI 1) s ↔ 10000 ≤ s := by
  have p16 := pow2_le hP
  constructor
  · rintro (⟨b', q1, q2, q3⟩ | ⟨-, q1⟩)
    · exact absurd q2.symm (nI_ne1 (n := b') (by omega))
    · exact q1
  · intro z
    exact Or.inr ⟨rfl, z⟩
theorem Best_Dst {nx : Nat → Nat → Nat} {L s : Nat} {G : Nat → Prop} {d w : Nat} (h : Best nx L s G d w) : Dst nx L G s d := by
  refine ⟨⟨w, h.1, h.2.1⟩, fun e x he hx hG => ?_⟩
  have := h.2.2 e x hx hG
  unfold lex at this
  omega
noncomputable def Fz0 (G : Nat → Prop) (q : Nat → Nat) (i : Nat) : Nat := if ib (G (q i)) = 1 then 0 else 268435456
theorem Fz0_t {G : Nat → Prop} {q : Nat → Nat} {i : Nat} (h : G (q i)) : Fz0 G q i = 0 := if_pos (ib_t h)
theorem Fz0_f {G : Nat → Prop} {q : Nat → Nat} {i : Nat} (h : ¬ G (q i)) : Fz0 G q i = 268435456 := if_neg (by rw [ib_f h]; decide)
theorem Fz0_b (G : Nat → Prop) (q : Nat → Nat) (i : Nat) : Fz0 G q i ≤ 268435456 := by
  unfold Fz0
  split <;> omega
theorem Fz0_I (G : Nat → Prop) (nx : Nat → Nat → Nat) (L : Nat) (q : Nat → Nat) (n : Nat) : FI G nx L q n (Fz0 G q) := by
  refine ⟨fun i _ => ?_, fun i _ h => Fz0_t h⟩
  by_cases z : G (q i)
  · rw [Fz0_t z]
    exact Or.inr ⟨Nat.zero_le _, 0, rfl, z⟩
  · exact Or.inl (Fz0_f z)
section SOON
variable {v : Cv} {s : St} {m m0 : Mu} {q D W F : Nat → Nat} {n : Nat}
theorem FV_one {G : Nat → Prop} {k : Nat} (A : ALL v s m q D W n) (hk : k < n) (H : ∀ i, i < k → m.2.1 15 (q i) = nI (Fz0 G q i)) : ∀ i, i < k + 1 → (mS m 15 (q k) (nI (Fz0 G q k))).2.1 15 (q i) = nI (Fz0 G q i) := by
  intro i hi
  rw [mS_a, if_pos rfl]
  by_cases z : i = k
  · rw [if_pos (by rw [z]), z]
  · rw [if_neg (fun w => A.1.2.2.2.2.2.2.2 i k (by omega) hk w)]
    exact H i (by omega)
/-- how far it is to where they have met -/
theorem q_meetings {b : Nat} (B : MBx m0 v s m) (A : ALL v s m q D W n) (hb : b < 2 ^ vP v) :
    ∃ m' F', gX12_laysMeeting_7 m (nI b) (nI 0) = some (nI (F' 0), m') ∧ MBx m0 v s m' ∧ ALL v s m' q D W n ∧ FV m' q n F' ∧ FAR (Gp (vP v) (nI b)) v s.2.1 q n F' := by
  have hP := B.1.2.2.1.1
  have p16 := pow2_le hP
  have hn := A.2.2.1
  have key : ∀ k, k ≤ n → ∃ m3, MBx m0 v s m3 ∧ ALL v s m3 q D W n ∧ (∀ i, i < k → m3.2.1 15 (q i) = nI (Fz0 (Gp (vP v) (nI b)) q i)) ∧ gX12_laysMeeting_7 m (nI b) (nI 0) = gX12_laysMeeting_7 m3 (nI b) (nI k) := by
    intro k
    induction k with
    | zero => intro _; exact ⟨m, B, A, fun i hi => by omega, rfl⟩
    | succ k ih =>
      intro hk
      obtain ⟨m3, g1, g2, g3, g4⟩ := ih (by omega)
      have hk' : k < n := by omega
      obtain ⟨o1, -, o3⟩ := g2.2.2.2.2.1 k hk'
      have x33 := g2.2.2.2.1
      have k1 : ¬ n ≤ k := by omega
      have ml := metb_lt (vP v) (q k)
      have le : metb (vP v) (q k) &&& b ≤ b := Nat.and_le_right
      refine ⟨mS m3 15 (q k) (nI (Fz0 (Gp (vP v) (nI b)) q k)), MBx_S g1 (by omega), ALL_15 g2, FV_one g2 hk' g3, ?_⟩
      rw [g4]
      have mi := q_metIn hP g1.1.1.2.1 (show q k < 2 ^ 31 by omega)
      have eb : gX12_laysMeeting_7b m3 (nI b) (nI k) = some (.inl (nI (k + 1), mS m3 15 (q k) (nI (Fz0 (Gp (vP v) (nI b)) q k)))) := by
        unfold gX12_laysMeeting_7b gX12_laysMeeting_48
        by_cases z : metb (vP v) (q k) &&& b = b
        · rw [Fz0_t ((Gp_b hP hb).mpr z)]
          simp (disch := omega) only [n_lit, n_of, n_o1, nI_add, pk_mul, nI_ltI, nI_leI, nI_eq, ↓lift_lt, ↓k_mt, ↓k_mp, if_true, if_false, Bool.false_eq_true, Nat.not_lt_zero, Nat.zero_le, Nat.reduceEqDiff, Nat.reduceLeDiff, Nat.reduceLT, x33, k1, mA_13, o3, mi, n_and, eq_true z, mW_15]
        · rw [Fz0_f (fun w => z ((Gp_b hP hb).mp w))]
          simp (disch := omega) only [n_lit, n_of, n_o1, nI_add, pk_mul, nI_ltI, nI_leI, nI_eq, ↓lift_lt, ↓k_mt, ↓k_mp, if_true, if_false, Bool.false_eq_true, Nat.not_lt_zero, Nat.zero_le, Nat.reduceEqDiff, Nat.reduceLeDiff, Nat.reduceLT, x33, k1, mA_13, o3, mi, n_and, z, mW_15]
      unfold gX12_laysMeeting_7
      exact lpw_l eb
  obtain ⟨m3, g1, g2, g3, g4⟩ := key n (Nat.le_refl _)
  obtain ⟨m', F', e, r⟩ := q_laysFar (F := Fz0 (Gp (vP v) (nI b)) q) g1 g2 (fun i hi => ⟨Fz0_b _ _ _, g3 i hi⟩) (Fz0_I (Gp (vP v) (nI b)) _ _ q n)
  refine ⟨m', F', ?_, r⟩
  rw [g4]
  have x33 := g2.2.2.2.1
  have eb : gX12_laysMeeting_7b m3 (nI b) (nI n) = some (.inr (nI (F' 0), m')) := by
    unfold gX12_laysMeeting_7b
    simp (disch := omega) only [n_lit, n_of, n_o1, nI_add, pk_mul, nI_ltI, nI_leI, nI_eq, ↓lift_lt, ↓k_mt, ↓k_mp, if_true, if_false, Bool.false_eq_true, Nat.not_lt_zero, Nat.zero_le, Nat.reduceEqDiff, Nat.reduceLeDiff, Nat.reduceLT, x33, Nat.le_refl, e]
  unfold gX12_laysMeeting_7
  exact lpw_r eb
/-- how far it is to where the roof has fallen -/
theorem q_fellings (B : MBx m0 v s m) (A : ALL v s m q D W n) :
    ∃ m' F', gX12_felling_26 m (nI 0) = (gX12_toldFar (nI (F' 0))).map (fun y => (y, m')) ∧ MBx m0 v s m' ∧ ALL v s m' q D W n ∧ FV m' q n F' ∧ FAR (Gp (vP v) (-nI 1)) v s.2.1 q n F' := by
  have hP := B.1.2.2.1.1
  have hn := A.2.2.1
  have key : ∀ k, k ≤ n → ∃ m3, MBx m0 v s m3 ∧ ALL v s m3 q D W n ∧ (∀ i, i < k → m3.2.1 15 (q i) = nI (Fz0 (Gp (vP v) (-nI 1)) q i)) ∧ gX12_felling_26 m (nI 0) = gX12_felling_26 m3 (nI k) := by
    intro k
    induction k with
    | zero => intro _; exact ⟨m, B, A, fun i hi => by omega, rfl⟩
    | succ k ih =>
      intro hk
      obtain ⟨m3, g1, g2, g3, g4⟩ := ih (by omega)
      have hk' : k < n := by omega
      obtain ⟨o1, -, o3⟩ := g2.2.2.2.2.1 k hk'
      have x33 := g2.2.2.2.1
      have k1 : ¬ n ≤ k := by omega
      have i1 : ¬ (1 = 0) := by decide
      refine ⟨mS m3 15 (q k) (nI (Fz0 (Gp (vP v) (-nI 1)) q k)), MBx_S g1 (by omega), ALL_15 g2, FV_one g2 hk' g3, ?_⟩
      rw [g4]
      have hf := q_hasFallen (show q k < 2 ^ 31 by omega)
      have eb : gX12_felling_26b m3 (nI k) = some (.inl (nI (k + 1), mS m3 15 (q k) (nI (Fz0 (Gp (vP v) (-nI 1)) q k)))) := by
        unfold gX12_felling_26b gX12_felling_63
        by_cases z : 10000 ≤ q k
        · rw [Fz0_t ((Gp_1 hP).mpr z)]
          rw [if_pos z] at hf
          simp (disch := omega) only [n_lit, n_of, n_o1, nI_add, pk_mul, nI_ltI, nI_leI, nI_eq, ↓lift_lt, ↓k_mt, ↓k_mp, if_true, if_false, Bool.false_eq_true, Nat.not_lt_zero, Nat.zero_le, Nat.reduceEqDiff, Nat.reduceLeDiff, Nat.reduceLT, x33, k1, mA_13, o3, hf, i1, mW_15]
        · rw [Fz0_f (fun w => z ((Gp_1 hP).mp w))]
          rw [if_neg z] at hf
          simp (disch := omega) only [n_lit, n_of, n_o1, nI_add, pk_mul, nI_ltI, nI_leI, nI_eq, ↓lift_lt, ↓k_mt, ↓k_mp, if_true, if_false, Bool.false_eq_true, Nat.not_lt_zero, Nat.zero_le, Nat.reduceEqDiff, Nat.reduceLeDiff, Nat.reduceLT, x33, k1, mA_13, o3, hf, mW_15]
      unfold gX12_felling_26
      exact lpw_l eb
  obtain ⟨m3, g1, g2, g3, g4⟩ := key n (Nat.le_refl _)
  obtain ⟨m', F', e, r⟩ := q_laysFar (F := Fz0 (Gp (vP v) (-nI 1)) q) g1 g2 (fun i hi => ⟨Fz0_b _ _ _, g3 i hi⟩) (Fz0_I (Gp (vP v) (-nI 1)) _ _ q n)
  refine ⟨m', F', ?_, r⟩
  rw [g4]
  have x33 := g2.2.2.2.1
  obtain ⟨y, ey⟩ : ∃ y, gX12_toldFar (nI (F' 0)) = some y := by
    unfold gX12_toldFar gX12_toldFar_12
    split <;> exact ⟨_, rfl⟩
  rw [ey]
  have eb : gX12_felling_26b m3 (nI n) = some (.inr (y, m')) := by
    unfold gX12_felling_26b
    simp (disch := omega) only [n_lit, n_of, n_o1, nI_add, pk_mul, nI_ltI, nI_leI, nI_eq, ↓lift_lt, ↓k_mt, ↓k_mp, if_true, if_false, Bool.false_eq_true, Nat.not_lt_zero, Nat.zero_le, Nat.reduceEqDiff, Nat.reduceLeDiff, Nat.reduceLT, x33, Nat.le_refl, e, ey]
  unfold gX12_felling_26
  exact lpw_r eb
theorem q_told {e : Nat} (h : e < 268435456) : gX12_toldFar (nI e) = some (nI e) := by
  have e1 : ¬ e = 268435456 := by omega
  unfold gX12_toldFar gX12_toldFar_12
  simp (disch := omega) only [n_lit, n_of, n_o1, nI_add, pk_mul, nI_ltI, nI_leI, nI_eq, ↓lift_lt, ↓k_mt, ↓k_mp, if_true, if_false, Bool.false_eq_true, Nat.not_lt_zero, Nat.zero_le, Nat.reduceEqDiff, Nat.reduceLeDiff, Nat.reduceLT, e1]
theorem q_told_no : gX12_toldFar (nI 268435456) = some (-nI 1) := by
  unfold gX12_toldFar gX12_toldFar_12
  simp (disch := omega) only [n_lit, n_of, n_o1, nI_add, pk_mul, nI_ltI, nI_leI, nI_eq, ↓lift_lt, ↓k_mt, ↓k_mp, if_true, if_false, Bool.false_eq_true, Nat.not_lt_zero, Nat.zero_le]
end SOON
/-- without a law it never falls -/
theorem no_fall {v : Cv} (hP : vP v ≤ 4) (hf : vf v = none) {ch k s : Nat} (hs : s < 10000) : nxt v ch k s < 10000 := by
  unfold nxt Yr yr
  have h1 : yto (grw (vg v) ch) (vP v) s (ld v k) 0 < 10 ^ vP v := cod_lt _ (fun p => ygap_lt _ _ _ _ _ p) _
  have h2 := pow10_le hP
  rw [if_neg (by omega), hf]
  show (if false = true then _ else _) < 10000
  rw [if_neg (by decide)]
  omega
theorem no_falls {v : Cv} (hP : vP v ≤ 4) (hf : vf v = none) {ch s : Nat} (hs : s < 10000) : ∀ e x, rn (nxt v ch) s e x < 10000
  | 0, _ => hs
  | e + 1, x => no_fall hP hf (no_falls hP hf hs e (x / 35))
section OPS15
variable {T : Nat} {h : Hp} {V : Nat → Cv} {c : Ch} {m : Mu} {x : Sp}
theorem isSets (gC : RC T h V c x) (gM : RM m x) (hw : WF x) (x1 : Int32) : (∃ b, b < 2 ^ vP (zV x) ∧ x1 = nI b ∧ gX11_isSet h c x1 = some (nI 1) ∧ gX12_isSet (mI m 0 (nI 0)) x1 = some (nI 1)) ∨ (gX11_isSet h c x1 = some (nI 0) ∧ gX12_isSet (mI m 0 (nI 0)) x1 = some (nI 0)) := by
  have hP := hw.2.2.1.1
  have p16 := pow2_le hP
  have p0 : 0 < 2 ^ vP (zV x) := Nat.pow_pos (by decide)
  obtain ⟨-, -, ⟨a, e1, -, hC⟩, -⟩ := gC.1
  have r1 : (mI m 0 (nI 0)).2.1 1 1 = nI (vP (zV x)) := by rw [mI_a]; exact gM.2.2.1.2.1
  have sh := n_shl (a := 1) (p := vP (zV x)) (by omega) (by omega)
  rw [Nat.one_mul] at sh
  unfold gX11_isSet gX11_isSet_21 gX11_isSet_22 gX12_isSet gX12_isSet_20 gX12_isSet_21
  rcases ix_cases x1 (2 ^ vP (zV x)) (by omega) p0 with ⟨b, b1, rfl⟩ | ⟨-, w⟩ | ⟨-, w1, w2, -⟩
  · have b2 : ¬ 2 ^ vP (zV x) ≤ b := by omega
    refine Or.inl ⟨b, b1, rfl, ?_, ?_⟩
    · simp (disch := omega) only [n_lit, n_of, n_o1, nI_add, pk_mul, nI_ltI, nI_leI, nI_eq, ↓lift_lt, ↓k_mt, ↓k_mp, if_true, if_false, Bool.false_eq_true, Nat.not_lt_zero, Nat.zero_le, Nat.reduceEqDiff, Nat.reduceLeDiff, Nat.reduceLT, e1, cv_P hC, sh, b2, n_bl1]
    · simp (disch := omega) only [n_lit, n_of, n_o1, nI_add, pk_mul, nI_ltI, nI_leI, nI_eq, ↓lift_lt, ↓k_mt, ↓k_mp, if_true, if_false, Bool.false_eq_true, Nat.not_lt_zero, Nat.zero_le, Nat.reduceEqDiff, Nat.reduceLeDiff, Nat.reduceLT, mA_1, r1, sh, b2, n_bl1]
  · refine Or.inr ⟨?_, ?_⟩
    · simp (disch := omega) only [n_lit, n_of, n_o1, nI_add, pk_mul, nI_ltI, nI_leI, nI_eq, ↓lift_lt, ↓k_mt, ↓k_mp, if_true, if_false, Bool.false_eq_true, Nat.not_lt_zero, Nat.zero_le, Nat.reduceEqDiff, Nat.reduceLeDiff, Nat.reduceLT, w, n_bl0]
    · simp (disch := omega) only [n_lit, n_of, n_o1, nI_add, pk_mul, nI_ltI, nI_leI, nI_eq, ↓lift_lt, ↓k_mt, ↓k_mp, if_true, if_false, Bool.false_eq_true, Nat.not_lt_zero, Nat.zero_le, Nat.reduceEqDiff, Nat.reduceLeDiff, Nat.reduceLT, w, n_bl0]
  · refine Or.inr ⟨?_, ?_⟩
    · simp (disch := omega) only [n_lit, n_of, n_o1, nI_add, pk_mul, nI_ltI, nI_leI, nI_eq, ↓lift_lt, ↓k_mt, ↓k_mp, if_true, if_false, Bool.false_eq_true, Nat.not_lt_zero, Nat.zero_le, Nat.reduceEqDiff, Nat.reduceLeDiff, Nat.reduceLT, w1, e1, cv_P hC, sh, w2, n_bl0]
    · simp (disch := omega) only [n_lit, n_of, n_o1, nI_add, pk_mul, nI_ltI, nI_leI, nI_eq, ↓lift_lt, ↓k_mt, ↓k_mp, if_true, if_false, Bool.false_eq_true, Nat.not_lt_zero, Nat.zero_le, Nat.reduceEqDiff, Nat.reduceLeDiff, Nat.reduceLT, w1, mA_1, r1, sh, w2, n_bl0]
/-- the class looks for a goal -/
theorem c_go {goal : Int32} (gC : RC T h V c x) (hw : WF x) (hT : T ≤ 1000) (hg : okg (vP (zV x)) goal) :
    ∃ a c1 c2 r, gX11_searching h c = some c1 ∧ V a = zV x ∧ stc c1 0 (zS x) ∧ gX7_explore h c1 (nI (zS x).1) goal = some (r, c2) ∧ RC (T + 1) h V c2 x ∧ c2.2.2.1 116 1 = some a ∧ CaveAt h a (zV x) ∧
      ((r = -nI 1 ∧ ∀ e w, okd (nL (zV x)) e w → ¬ Gp (vP (zV x)) goal (rn (nxt (zV x) (zS x).2.1) (zS x).1 e w)) ∨
        ∃ st q D W n hd k, QB (V a) (zS x).2.1 c2 (zS x).1 st q D W n hd k ∧ 0 < n ∧ r = nI (q (n - 1)) ∧ Best (nxt (zV x) (zS x).2.1) (nL (zV x)) (zS x).1 (Gp (vP (zV x)) goal) (D (n - 1)) (W (n - 1))) := by
  obtain ⟨hL0, hL⟩ := nL_b hw.2.2.1
  obtain ⟨a, c1, e1, eV, f1, S1, k80, s1, C1⟩ := c_searching gC hw
  have hs := hw.2.2.2.1
  obtain ⟨r, c2, e2, f2, S2, st, q, D, W, n, hd, k, Q, R⟩ := c_explore (goal := goal) S1 (by omega) hs.1 (by rw [eV]; exact hs.2.1) (by rw [eV]; exact hg)
  refine ⟨a, c1, c2, r, e1, eV, s1, e2, RC_s gC (sfr_tr f1 f2) (SE_B (by omega) S2), S2.1, C1, ?_⟩
  rcases R with ⟨r0, r1, r2, r3, -⟩ | ⟨r0, r1⟩
  · refine Or.inl ⟨r0, fun e w hx hG => ?_⟩
    subst r1 r2
    have QB1 := Q.1
    rw [eV] at QB1 r3
    rcases Bq_cover hL (Nat.zero_le _) (nxt_ab (zV x) (zS x).2.1) QB1 e w hx with ⟨j, j1, j2, -⟩ | ⟨j1, -⟩
    · rw [← j2] at hG
      exact r3 j j1 hG
    · omega
  · refine Or.inr ⟨st, q, D, W, n, hd, k, Q, Q.1.1, r0, ?_⟩
    rw [← eV]
    exact r1
theorem op_soonest (gC : RC T h V c x) (gM : RM m x) (hw : WF x) (hT : T ≤ 1000) (x1 : Int32) : OKs T h V (gX11_soonest h c x1) (gX12_soonest m x1) := by
  have hP := hw.2.2.1.1
  have i1 : ¬ (1 = 0) := by decide
  unfold gX11_soonest gX12_soonest gX12_soonest_26
  rcases isSets gC gM hw x1 with ⟨b, hb, rfl, z1, z2⟩ | ⟨z1, z2⟩
  · obtain ⟨a, c1, c2, r, e1, eV, s1, e2, R2, -, -, X⟩ := c_go (goal := nI b) gC hw hT (Or.inl ⟨b, hb, rfl⟩)
    obtain ⟨m', q', D', W', n', em, B, A⟩ := q_laysStands (RD_now gM hw)
    obtain ⟨m2, F, ef, B2, A2, FV2, FR⟩ := q_meetings B A hb
    have h0 := A.1.1
    have q0 : q' 0 = (zS x).1 := A.1.2.1
    have RM2 : RM m2 x := RM_kp (RM_0 gM (nI 0)) (mfs_kp B2.2.2.2.2)
    have Fz0' := FR 0 h0
    rw [q0] at Fz0'
    rcases X with ⟨r1, r2⟩ | ⟨st, q, D, W, n, hd, k, Q, n0, r1, r2⟩
    · rcases Fz0' with ⟨w1, w2⟩ | ⟨w1, w2⟩
      · rw [w1] at ef
        rw [r1] at e2
        refine ⟨-nI 1, c2, m2, x, ?_, ?_, R2, RM2, hw⟩
        · simp (disch := omega) only [n_lit, n_of, n_o1, nI_add, pk_mul, nI_ltI, nI_leI, nI_eq, ↓lift_lt, ↓k_mt, ↓k_mp, if_true, if_false, Bool.false_eq_true, Nat.not_lt_zero, Nat.zero_le, Nat.reduceEqDiff, Nat.reduceLeDiff, Nat.reduceLT, z1, i1, e1, s1.1, e2, c_lengthTo_no]
        · unfold gX12_laysMeeting
          simp (disch := omega) only [n_lit, n_of, n_o1, nI_add, pk_mul, nI_ltI, nI_leI, nI_eq, ↓lift_lt, ↓k_mt, ↓k_mp, if_true, if_false, Bool.false_eq_true, Nat.not_lt_zero, Nat.zero_le, Nat.reduceEqDiff, Nat.reduceLeDiff, Nat.reduceLT, z2, i1, em, ef, q_told_no]
      · obtain ⟨⟨y, y1, y2⟩, -⟩ := w2
        exact absurd y2 (r2 _ _ y1)
    · have hD := Best_Dst r2
      rcases Fz0' with ⟨w1, w2⟩ | ⟨w1, w2⟩
      · exact absurd r2.2.1 (w2 _ _ r2.1)
      · have ed := Dst_one w2 hD
        have lt := c_lengthTo (h := h) (i := n - 1) (by rw [eV]; exact hw.2.2.1) Q (by omega)
        rw [r1] at e2
        rw [ed] at ef w1
        refine ⟨nI (D (n - 1)), c2, m2, x, ?_, ?_, R2, RM2, hw⟩
        · simp (disch := omega) only [n_lit, n_of, n_o1, nI_add, pk_mul, nI_ltI, nI_leI, nI_eq, ↓lift_lt, ↓k_mt, ↓k_mp, if_true, if_false, Bool.false_eq_true, Nat.not_lt_zero, Nat.zero_le, Nat.reduceEqDiff, Nat.reduceLeDiff, Nat.reduceLT, z1, i1, e1, s1.1, e2, lt]
        · unfold gX12_laysMeeting
          simp (disch := omega) only [n_lit, n_of, n_o1, nI_add, pk_mul, nI_ltI, nI_leI, nI_eq, ↓lift_lt, ↓k_mt, ↓k_mp, if_true, if_false, Bool.false_eq_true, Nat.not_lt_zero, Nat.zero_le, Nat.reduceEqDiff, Nat.reduceLeDiff, Nat.reduceLT, z2, i1, em, ef, q_told]
  · refine ⟨-nI 3, c, mI m 0 (nI 0), x, ?_, ?_, RC_T (by omega) gC, RM_0 gM _, hw⟩
    · simp (disch := omega) only [n_lit, n_of, n_o1, nI_add, pk_mul, nI_ltI, nI_leI, nI_eq, ↓lift_lt, ↓k_mt, ↓k_mp, if_true, if_false, Bool.false_eq_true, Nat.not_lt_zero, Nat.zero_le, Nat.reduceEqDiff, Nat.reduceLeDiff, Nat.reduceLT, z1]
    · simp (disch := omega) only [n_lit, n_of, n_o1, nI_add, pk_mul, nI_ltI, nI_leI, nI_eq, ↓lift_lt, ↓k_mt, ↓k_mp, if_true, if_false, Bool.false_eq_true, Nat.not_lt_zero, Nat.zero_le, Nat.reduceEqDiff, Nat.reduceLeDiff, Nat.reduceLT, z2]
theorem op_felling (gC : RC T h V c x) (gM : RM m x) (hw : WF x) (hT : T ≤ 1000) : OKs T h V (gX11_felling h c) (gX12_felling m) := by
  have hP := hw.2.2.1.1
  have hs := hw.2.2.2.1
  have i1 : ¬ (1 = 0) := by decide
  have i0 : ¬ (0 = 1) := by decide
  have RD0 := RD_now gM hw
  have x24 : (mI m 0 (nI 0)).2.1 1 24 = nI ((zS x).1 / 10000) := RD0.2.1.2.2.2.1
  obtain ⟨-, -, ⟨a0, a3, a3b, hC⟩, a4, -⟩ := gC.1
  have s0 : c.1 (sadr 0) 0 = nI (zS x).1 := a4.1
  unfold gX11_felling gX12_felling
  by_cases zf : (zS x).1 < 10000
  · have d0 : (zS x).1 / 10000 = 0 := by omega
    rw [d0] at x24
    obtain ⟨m', q', D', W', n', em, B, A⟩ := q_laysStands RD0
    obtain ⟨m2, F, ef, B2, A2, FV2, FR⟩ := q_fellings B A
    have h0 := A.1.1
    have q0 : q' 0 = (zS x).1 := A.1.2.1
    have RM2 : RM m2 x := RM_kp (RM_0 gM (nI 0)) (mfs_kp B2.2.2.2.2)
    have Fz0' := FR 0 h0
    rw [q0] at Fz0'
    obtain ⟨o, o1, o2⟩ := cv_f hC
    cases hv : vf (zV x) with
    | none =>
      rw [hv] at o2
      have o2 : o = none := o2
      subst o2
      rcases Fz0' with ⟨w1, w2⟩ | ⟨w1, w2⟩
      · rw [w1, q_told_no] at ef
        refine ⟨-nI 1, c, m2, x, ?_, ?_, RC_T (by omega) gC, RM2, hw⟩
        · simp (disch := omega) only [n_lit, n_of, n_o1, nI_add, pk_mul, nI_ltI, nI_leI, nI_eq, ↓lift_lt, ↓k_mt, ↓k_mp, if_true, if_false, Bool.false_eq_true, Nat.not_lt_zero, Nat.zero_le, Nat.reduceEqDiff, Nat.reduceLeDiff, Nat.reduceLT, s0, zf, a3, o1]
        · simp (disch := omega) only [n_lit, n_of, n_o1, nI_add, pk_mul, nI_ltI, nI_leI, nI_eq, ↓lift_lt, ↓k_mt, ↓k_mp, if_true, if_false, Bool.false_eq_true, Nat.not_lt_zero, Nat.zero_le, Nat.reduceEqDiff, Nat.reduceLeDiff, Nat.reduceLT, mA_1, x24, i0, em, ef, Option.map_some]
      · obtain ⟨⟨y, y1, y2⟩, -⟩ := w2
        have := no_falls hP hv (ch := (zS x).2.1) zf (F 0) y
        have := (Gp_1 hP).mp y2
        omega
    | some code =>
      rw [hv] at o2
      obtain ⟨nn, -, -, o3, -⟩ := o2
      subst o3
      obtain ⟨a, c1, c2, r, e1, eV, s1, e2, R2, -, -, X⟩ := c_go (goal := -nI 1) gC hw hT (Or.inr (Or.inl rfl))
      rcases X with ⟨r1, r2⟩ | ⟨st, q, D, W, n, hd, k, Q, n0, r1, r2⟩
      · rcases Fz0' with ⟨w1, w2⟩ | ⟨w1, w2⟩
        · rw [w1, q_told_no] at ef
          rw [r1] at e2
          refine ⟨-nI 1, c2, m2, x, ?_, ?_, R2, RM2, hw⟩
          · simp (disch := omega) only [n_lit, n_of, n_o1, nI_add, pk_mul, nI_ltI, nI_leI, nI_eq, ↓lift_lt, ↓k_mt, ↓k_mp, if_true, if_false, Bool.false_eq_true, Nat.not_lt_zero, Nat.zero_le, Nat.reduceEqDiff, Nat.reduceLeDiff, Nat.reduceLT, s0, zf, a3, o1, e1, s1.1, e2, c_lengthTo_no]
          · simp (disch := omega) only [n_lit, n_of, n_o1, nI_add, pk_mul, nI_ltI, nI_leI, nI_eq, ↓lift_lt, ↓k_mt, ↓k_mp, if_true, if_false, Bool.false_eq_true, Nat.not_lt_zero, Nat.zero_le, Nat.reduceEqDiff, Nat.reduceLeDiff, Nat.reduceLT, mA_1, x24, i0, em, ef, Option.map_some]
        · obtain ⟨⟨y, y1, y2⟩, -⟩ := w2
          exact absurd y2 (r2 _ _ y1)
      · have hD := Best_Dst r2
        rcases Fz0' with ⟨w1, w2⟩ | ⟨w1, w2⟩
        · exact absurd r2.2.1 (w2 _ _ r2.1)
        · have ed := Dst_one w2 hD
          have lt := c_lengthTo (h := h) (i := n - 1) (by rw [eV]; exact hw.2.2.1) Q (by omega)
          rw [r1] at e2
          rw [q_told (by omega), ed] at ef
          refine ⟨nI (D (n - 1)), c2, m2, x, ?_, ?_, R2, RM2, hw⟩
          · simp (disch := omega) only [n_lit, n_of, n_o1, nI_add, pk_mul, nI_ltI, nI_leI, nI_eq, ↓lift_lt, ↓k_mt, ↓k_mp, if_true, if_false, Bool.false_eq_true, Nat.not_lt_zero, Nat.zero_le, Nat.reduceEqDiff, Nat.reduceLeDiff, Nat.reduceLT, s0, zf, a3, o1, e1, s1.1, e2, lt]
          · simp (disch := omega) only [n_lit, n_of, n_o1, nI_add, pk_mul, nI_ltI, nI_leI, nI_eq, ↓lift_lt, ↓k_mt, ↓k_mp, if_true, if_false, Bool.false_eq_true, Nat.not_lt_zero, Nat.zero_le, Nat.reduceEqDiff, Nat.reduceLeDiff, Nat.reduceLT, mA_1, x24, i0, em, ef, Option.map_some]
  · have d1 : (zS x).1 / 10000 = 1 := by have := hs.1; omega
    rw [d1] at x24
    have hs1 := hs.1
    refine ⟨-nI 5, c, mI m 0 (nI 0), x, ?_, ?_, RC_T (by omega) gC, RM_0 gM _, hw⟩
    · simp (disch := omega) only [n_lit, n_of, n_o1, nI_add, pk_mul, nI_ltI, nI_leI, nI_eq, ↓lift_lt, ↓k_mt, ↓k_mp, if_true, if_false, Bool.false_eq_true, Nat.not_lt_zero, Nat.zero_le, Nat.reduceEqDiff, Nat.reduceLeDiff, Nat.reduceLT, s0, zf]
    · simp (disch := omega) only [n_lit, n_of, n_o1, nI_add, pk_mul, nI_ltI, nI_leI, nI_eq, ↓lift_lt, ↓k_mt, ↓k_mp, if_true, if_false, Bool.false_eq_true, Nat.not_lt_zero, Nat.zero_le, Nat.reduceEqDiff, Nat.reduceLeDiff, Nat.reduceLT, mA_1, x24]
end OPS15
