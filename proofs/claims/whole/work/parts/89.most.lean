/-! stands, most -/
theorem SE_B {B B' : Nat} {h : Hp} {V : Nat → Cv} {c : Ch} {a ch : Nat} (hB : B ≤ B') (H : SE B h V c a ch) : SE B' h V c a ch := by
  obtain ⟨h1, h2, h3, st, h4, h5, h6, h7⟩ := H
  exact ⟨h1, h2, h3, st, h4, by omega, h6, h7⟩
theorem inj_cover {f g : Nat → Nat} {n n' : Nat} (hi : ∀ i j, i < j → j < n → f i ≠ f j) (hc : ∀ i, i < n → ∃ j, j < n' ∧ g j = f i) : n ≤ n' := by
  have hch : ∀ i, ∃ j, i < n → (j < n' ∧ g j = f i) := fun i => by
    by_cases z : i < n
    · obtain ⟨j, hj⟩ := hc i z
      exact ⟨j, fun _ => hj⟩
    · exact ⟨0, fun q => absurd q z⟩
  obtain ⟨e, he⟩ := Classical.axiomOfChoice hch
  refine inj_le (f := e) (fun i j hij hj q => hi i j hij hj ?_) (fun i hi => (he i hi).1)
  have a1 := (he i (by omega)).2
  have a2 := (he j hj).2
  have q : e i = e j := q
  rw [← a1, ← a2, q]
/-- both sides have found all -/
theorem Bq_same {nx : Nat → Nat → Nat} {L s0 : Nat} {q D W q' D' W' : Nat → Nat} {n n' hd k : Nat} (hL : L ≤ 35) (hab : ∀ i s, 10000 ≤ s → nx i s = s) (H : Bq nx L s0 q D W n hd k) (H' : Bq nx L s0 q' D' W' n' n' 0) : ∀ i, i < n → ∃ j, j < n' ∧ q' j = q i := by
  intro i hi
  obtain ⟨r1, r2, -⟩ := Bq_row hL H hi
  rcases Bq_cover hL (Nat.zero_le _) hab H' _ _ r1 with ⟨j, j1, j2, -⟩ | ⟨j1, -⟩
  · exact ⟨j, j1, by rw [j2, r2]⟩
  · omega
theorem Bq_n {nx : Nat → Nat → Nat} {L s0 : Nat} {q D W q' D' W' : Nat → Nat} {n n' : Nat} (hL : L ≤ 35) (hab : ∀ i s, 10000 ≤ s → nx i s = s) (H : Bq nx L s0 q D W n n 0) (H' : Bq nx L s0 q' D' W' n' n' 0) : n = n' :=
  Nat.le_antisymm (inj_cover (fun i j hij hj => H.2.2.2.2.2.2.2 i j hij hj) (Bq_same hL hab H H')) (inj_cover (fun i j hij hj => H'.2.2.2.2.2.2.2 i j hij hj) (Bq_same hL hab H' H))
def mxf (f : Nat → Nat) : Nat → Nat
  | 0 => 0
  | n + 1 => if mxf f n < f n then f n else mxf f n
theorem mxf_le {f : Nat → Nat} {b : Nat} : ∀ {n : Nat}, (∀ i, i < n → f i ≤ b) → mxf f n ≤ b
  | 0, _ => Nat.zero_le _
  | n + 1, h => by
    have h1 := mxf_le (n := n) (fun i hi => h i (by omega))
    have h2 := h n (by omega)
    show (if mxf f n < f n then f n else mxf f n) ≤ b
    split
    · exact h2
    · exact h1
theorem mxf_ge {f : Nat → Nat} : ∀ {n i : Nat}, i < n → f i ≤ mxf f n
  | n + 1, i, hi => by
    show f i ≤ (if mxf f n < f n then f n else mxf f n)
    by_cases e : i = n
    · subst e
      split
      · exact Nat.le_refl _
      · omega
    · have := mxf_ge (f := f) (n := n) (i := i) (by omega)
      split
      · omega
      · exact this
theorem mxf_same {f g : Nat → Nat} {n n' : Nat} (h : ∀ i, i < n → ∃ j, j < n' ∧ g j = f i) (h' : ∀ i, i < n' → ∃ j, j < n ∧ f j = g i) : mxf f n = mxf g n' :=
  Nat.le_antisymm (mxf_le (fun i hi => by obtain ⟨j, j1, j2⟩ := h i hi; rw [← j2]; exact mxf_ge j1)) (mxf_le (fun i hi => by obtain ⟨j, j1, j2⟩ := h' i hi; rw [← j2]; exact mxf_ge j1))
theorem Gp_2 (P s : Nat) (hP : P ≤ 4) : ¬ Gp P (-nI 2) s := by
  have p16 := pow2_le hP
  rintro (⟨b', q1, q2, q3⟩ | ⟨q1, -⟩)
  · have : (-nI 2).toInt = (nI b').toInt := by rw [q2]
    rw [nI_toInt (by omega)] at this
    have e : (-nI 2).toInt = -2 := by decide
    omega
  · exact absurd q1 (by decide)
section OPS14
variable {T : Nat} {h : Hp} {V : Nat → Cv} {c : Ch} {m : Mu} {x : Sp}
/-- everything is explored -/
theorem c_all (gC : RC T h V c x) (hw : WF x) (hT : T ≤ 1000) : ∃ a c1 c2 r, gX11_searching h c = some c1 ∧ V a = zV x ∧ stc c1 0 (zS x) ∧ gX7_explore h c1 (nI (zS x).1) (-nI 2) = some (r, c2) ∧ RC (T + 1) h V c2 x ∧ sfr c c2 ∧ SE (10 * T + 1) h V c2 a (zS x).2.1 ∧ CaveAt h a (zV x) ∧ ∃ st q D W n, QB (zV x) (zS x).2.1 c2 (zS x).1 st q D W n n 0 ∧ ENT (zV x) (zS x).2.1 c2 q n n 0 := by
  obtain ⟨a, c1, e1, eV, f1, S1, k80, s1, C1⟩ := c_searching gC hw
  have hP := hw.2.2.1.1
  have hs := hw.2.2.2.1
  obtain ⟨r, c2, e2, f2, S2, st, q, D, W, n, hd, k, Q, R⟩ := c_explore (goal := -nI 2) S1 (by omega) hs.1 (by rw [eV]; exact hs.2.1) (Or.inr (Or.inr rfl))
  rw [eV] at Q R
  refine ⟨a, c1, c2, r, e1, eV, s1, e2, RC_s gC (sfr_tr f1 f2) (SE_B (by omega) S2), sfr_tr f1 f2, S2, C1, st, q, D, W, n, ?_⟩
  rcases R with ⟨-, r1, r2, -, r3⟩ | ⟨-, r1⟩
  · subst r1 r2
    exact ⟨Q, r3⟩
  · exact absurd r1.2.1 (Gp_2 _ _ hP)
theorem op_stands (gC : RC T h V c x) (gM : RM m x) (hw : WF x) (hT : T ≤ 1000) : OKs T h V (gX11_stands h c) (gX12_stands m) := by
  obtain ⟨hL0, hL⟩ := nL_b hw.2.2.1
  obtain ⟨a, c1, c2, r, e1, eV, s1, e2, R2, -, -, C1, st, q, D, W, n, Q, E⟩ := c_all gC hw hT
  obtain ⟨m', q', D', W', n', em, F, A⟩ := q_laysStands (RD_now gM hw)
  have en := Bq_n hL (nxt_ab (zV x) (zS x).2.1) Q.1 A.1
  have v12 := Q.2.2.2.1
  have v33 : m'.1 33 = nI n := by rw [en]; exact A.2.2.2.1
  unfold gX11_stands gX12_stands
  refine ⟨nI n, c2, m', x, ?_, ?_, R2, RM_kp (RM_0 gM (nI 0)) (mfs_kp F.2.2.2.2), hw⟩
  · simp (disch := omega) only [n_lit, n_of, n_o1, nI_add, pk_mul, nI_ltI, nI_leI, nI_eq, ↓lift_lt, ↓k_mt, ↓k_mp, if_true, if_false, Bool.false_eq_true, Nat.not_lt_zero, Nat.zero_le, Nat.reduceEqDiff, Nat.reduceLeDiff, Nat.reduceLT, e1, s1.1, e2, v12]
  · simp (disch := omega) only [n_lit, n_of, n_o1, nI_add, pk_mul, nI_ltI, nI_leI, nI_eq, ↓lift_lt, ↓k_mt, ↓k_mp, if_true, if_false, Bool.false_eq_true, Nat.not_lt_zero, Nat.zero_le, Nat.reduceEqDiff, Nat.reduceLeDiff, Nat.reduceLT, em, v33]
theorem c_mostMet {a n : Nat} {v : Cv} {q : Nat → Nat} (h1 : c.2.2.1 116 1 = some a) (hC : CaveAt h a v) (hP : vP v ≤ 4) (h12 : c.1 116 12 = nI n) (hn : n ≤ 20000) (hq : ∀ i, i < n → q i < 20000 ∧ c.2.2.2.1 118 i = nI (q i)) : gX7_mostMet h c = some (nI (mxf (fun i => mets (vP v) (q i)) n)) := by
  have key : ∀ k, mxf (fun i => mets (vP v) (q i)) k ≤ 4 := fun k => mxf_le (fun i _ => by have := mets_le (vP v) (q i); omega)
  show gX7_mostMet_4 h c (nI 0) (nI 0) = _
  unfold gX7_mostMet_4
  refine lpw_iter (body := fun z : Int32 × Int32 => gX7_mostMet_4b h c z.1 z.2) (fun k => (nI (mxf (fun i => mets (vP v) (q i)) k), nI k)) n _ ?_ ?_
  · intro k hk
    obtain ⟨o1, o2⟩ := hq k hk
    have k1 : ¬ n ≤ k := by omega
    have kb := key k
    have mb := mets_le (vP v) (q k)
    show gX7_mostMet_4b h c (nI (mxf (fun i => mets (vP v) (q i)) k)) (nI k) = some (.inl (nI (if mxf (fun i => mets (vP v) (q i)) k < mets (vP v) (q k) then mets (vP v) (q k) else mxf (fun i => mets (vP v) (q i)) k), nI (k + 1)))
    generalize mxf (fun i => mets (vP v) (q i)) k = u at kb
    unfold gX7_mostMet_4b
    simp (disch := omega) only [n_lit, n_of, n_o1, nI_add, pk_mul, nI_ltI, nI_leI, nI_eq, ↓lift_lt, ↓k_mt, ↓k_mp, if_true, if_false, Bool.false_eq_true, Nat.not_lt_zero, Nat.zero_le, Nat.reduceEqDiff, Nat.reduceLeDiff, Nat.reduceLT, h12, k1, h1, cA_g, o2, cv_O hC, c_metCount hC hP (show q k < 2 ^ 31 by omega), imax_n]
  · show gX7_mostMet_4b h c (nI (mxf (fun i => mets (vP v) (q i)) n)) (nI n) = _
    unfold gX7_mostMet_4b
    simp (disch := omega) only [n_lit, n_of, n_o1, nI_add, pk_mul, nI_ltI, nI_leI, nI_eq, ↓lift_lt, ↓k_mt, ↓k_mp, if_true, if_false, Bool.false_eq_true, Nat.not_lt_zero, Nat.zero_le, Nat.reduceEqDiff, Nat.reduceLeDiff, Nat.reduceLT, h12, Nat.le_refl]
theorem q_most {n : Nat} {v : Cv} {q : Nat → Nat} (hP : vP v ≤ 4) (h1 : m.2.1 1 1 = nI (vP v)) (h33 : m.1 33 = nI n) (hn : n ≤ 20000) (hq : ∀ i, i < n → q i < 20000 ∧ m.2.1 13 i = nI (q i)) : gX12_most_14 m (nI 0) (nI 0) = some (nI (mxf (fun i => mets (vP v) (q i)) n), m) := by
  have key : ∀ k, mxf (fun i => mets (vP v) (q i)) k ≤ 4 := fun k => mxf_le (fun i _ => by have := mets_le (vP v) (q i); omega)
  have p16 := pow2_le hP
  unfold gX12_most_14
  refine lpw_iter (body := fun z : Int32 × Int32 => gX12_most_14b m z.1 z.2) (fun k => (nI (mxf (fun i => mets (vP v) (q i)) k), nI k)) n _ ?_ ?_
  · intro k hk
    obtain ⟨o1, o2⟩ := hq k hk
    have k1 : ¬ n ≤ k := by omega
    have kb := key k
    have mb := mets_le (vP v) (q k)
    have mlt := metb_lt (vP v) (q k)
    show gX12_most_14b m (nI (mxf (fun i => mets (vP v) (q i)) k)) (nI k) = some (.inl (nI (if mxf (fun i => mets (vP v) (q i)) k < mets (vP v) (q k) then mets (vP v) (q k) else mxf (fun i => mets (vP v) (q i)) k), nI (k + 1)))
    generalize mxf (fun i => mets (vP v) (q i)) k = u at kb
    unfold gX12_most_14b gX12_most_56
    by_cases z : u < mets (vP v) (q k)
    · have z' : ¬ mets (vP v) (q k) ≤ u := by omega
      rw [if_pos z]
      simp (disch := omega) only [n_lit, n_of, n_o1, nI_add, pk_mul, nI_ltI, nI_leI, nI_eq, ↓lift_lt, ↓k_mt, ↓k_mp, if_true, if_false, Bool.false_eq_true, Nat.not_lt_zero, Nat.zero_le, Nat.reduceEqDiff, Nat.reduceLeDiff, Nat.reduceLT, h33, k1, mA_13, o2, q_metIn hP h1 (show q k < 2 ^ 31 by omega), q_bitsOf, bct_metb hP, z']
    · have z' : mets (vP v) (q k) ≤ u := by omega
      rw [if_neg z]
      simp (disch := omega) only [n_lit, n_of, n_o1, nI_add, pk_mul, nI_ltI, nI_leI, nI_eq, ↓lift_lt, ↓k_mt, ↓k_mp, if_true, if_false, Bool.false_eq_true, Nat.not_lt_zero, Nat.zero_le, Nat.reduceEqDiff, Nat.reduceLeDiff, Nat.reduceLT, h33, k1, mA_13, o2, q_metIn hP h1 (show q k < 2 ^ 31 by omega), q_bitsOf, bct_metb hP, z']
  · show gX12_most_14b m (nI (mxf (fun i => mets (vP v) (q i)) n)) (nI n) = _
    unfold gX12_most_14b
    simp (disch := omega) only [n_lit, n_of, n_o1, nI_add, pk_mul, nI_ltI, nI_leI, nI_eq, ↓lift_lt, ↓k_mt, ↓k_mp, if_true, if_false, Bool.false_eq_true, Nat.not_lt_zero, Nat.zero_le, Nat.reduceEqDiff, Nat.reduceLeDiff, Nat.reduceLT, h33, Nat.le_refl]
theorem op_most (gC : RC T h V c x) (gM : RM m x) (hw : WF x) (hT : T ≤ 1000) : OKs T h V (gX11_most h c) (gX12_most m) := by
  obtain ⟨hL0, hL⟩ := nL_b hw.2.2.1
  have hP := hw.2.2.1.1
  obtain ⟨a, c1, c2, r, e1, eV, s1, e2, R2, -, S2, C1, st, q, D, W, n, Q, E⟩ := c_all gC hw hT
  obtain ⟨m', q', D', W', n', em, F, A⟩ := q_laysStands (RD_now gM hw)
  have o1 := c_mostMet (q := q) S2.1 C1 hP Q.2.2.2.1 Q.2.2.1 (fun i hi => ⟨(Q.2.2.2.2.2.1 i hi).1, (Q.2.2.2.2.2.1 i hi).2.2⟩)
  have o2 := q_most (q := q') hP F.1.1.2.1 A.2.2.2.1 A.2.2.1 (fun i hi => ⟨(A.2.2.2.2.1 i hi).1, (A.2.2.2.2.1 i hi).2.2⟩)
  have ab := nxt_ab (zV x) (zS x).2.1
  have em2 : mxf (fun i => mets (vP (zV x)) (q i)) n = mxf (fun i => mets (vP (zV x)) (q' i)) n' := mxf_same (fun i hi => by
    obtain ⟨j, j1, j2⟩ := Bq_same hL ab Q.1 A.1 i hi
    exact ⟨j, j1, by rw [j2]⟩) (fun i hi => by
    obtain ⟨j, j1, j2⟩ := Bq_same hL ab A.1 Q.1 i hi
    exact ⟨j, j1, by rw [j2]⟩)
  unfold gX11_most gX12_most
  refine ⟨nI (mxf (fun i => mets (vP (zV x)) (q i)) n), c2, m', x, ?_, ?_, R2, RM_kp (RM_0 gM (nI 0)) (mfs_kp F.2.2.2.2), hw⟩
  · simp (disch := omega) only [n_lit, n_of, n_o1, nI_add, pk_mul, nI_ltI, nI_leI, nI_eq, ↓lift_lt, ↓k_mt, ↓k_mp, if_true, if_false, Bool.false_eq_true, Nat.not_lt_zero, Nat.zero_le, Nat.reduceEqDiff, Nat.reduceLeDiff, Nat.reduceLT, e1, s1.1, e2, o1]
  · rw [em2]
    simp (disch := omega) only [n_lit, n_of, n_o1, nI_add, pk_mul, nI_ltI, nI_leI, nI_eq, ↓lift_lt, ↓k_mt, ↓k_mp, if_true, if_false, Bool.false_eq_true, Nat.not_lt_zero, Nat.zero_le, Nat.reduceEqDiff, Nat.reduceLeDiff, Nat.reduceLT, em, o2]
end OPS14
