/-! images, the tape, leadings -/
def cSQ (c : Ch) (i a : Nat) : Ch := (c.1, c.2.1, c.2.2.1, c.2.2.2.1, c.2.2.2.2.1, u2 c.2.2.2.2.2 106 i (some a))
theorem sadr_inj {j j' : Nat} (hj : j < 15) (hj' : j' < 15) (e : ¬ j = j') : ¬ sadr j = sadr j' := by
  unfold sadr
  intro q
  split at q <;> split at q <;> (try split at q) <;> (try split at q) <;> (try split at q) <;> omega
theorem sadr_b (j : Nat) : (90 ≤ sadr j ∧ sadr j < 93) ∨ (95 ≤ sadr j ∧ sadr j < 105) ∨ (136 ≤ sadr j ∧ sadr j < 138) := by
  unfold sadr
  split
  · omega
  · split
    · omega
    · split <;> omega
theorem c_copy {c : Ch} (h : Hp) {j j' : Nat} {s : St} (hj : j < 15) (hj' : j' < 15) (e : ¬ j = j') (hs : stc c j s) : ∃ c', gX8_copy h c j' j = some c' ∧ stc c' j' s ∧ (∀ r, ¬ r = sadr j' → c'.1 r = c.1 r) ∧ c'.2 = c.2 := by
  have n := sadr_inj hj hj' e
  obtain ⟨s0, s1, s2, s3⟩ := hs
  refine ⟨cI (cI (cI (cI c (sadr j') 0 (nI s.1)) (sadr j') 1 (nI s.2.1)) (sadr j') 2 (nI s.2.2.1)) (sadr j') 3 s.2.2.2, ?_, ⟨?_, ?_, ?_, ?_⟩, fun r hr => ?_, rfl⟩
  · unfold gX8_copy
    simp only [lift_lt, cI_n _ n, s0, s1, s2, s3]
  · rw [cI_1, if_pos rfl, if_neg (by decide), cI_1, if_pos rfl, if_neg (by decide), cI_1, if_pos rfl, if_neg (by decide), cI_1, if_pos rfl, if_pos rfl]
  · rw [cI_1, if_pos rfl, if_neg (by decide), cI_1, if_pos rfl, if_neg (by decide), cI_1, if_pos rfl, if_pos rfl]
  · rw [cI_1, if_pos rfl, if_neg (by decide), cI_1, if_pos rfl, if_pos rfl]
  · rw [cI_1, if_pos rfl, if_pos rfl]
  · rw [cI_n _ hr, cI_n _ hr, cI_n _ hr, cI_n _ hr]
def sIm (x : Sp) (i : Nat) (o : Option (Cv × St)) : Sp := (zT x, zV x, zS x, zH x, (fun j => if j = i then o else zI x j), zR x, zF x)
theorem imR_eq {f f' g g' : Nat → Int32} {i : Nat} {o : Option (Cv × St)} (hf : ∀ k, k < 1038 → f' (1038 * (i + 1) + k) = f (1038 * (i + 1) + k)) (hg : g' i = g i) (ho : imR f g i o) : imR f' g' i o := by
  unfold imR at *
  cases o with
  | none => simp only [hg]; exact ho
  | some p =>
    obtain ⟨v, s⟩ := p
    exact ⟨by rw [hg]; exact ho.1, Rv_eq hf ho.2.1, blk_eq (fun k hk => hf (15 + k) (by omega)) ho.2.2⟩
theorem q_image {m : Mu} {i : Nat} (hi : i < 2) : ∃ m', gX12_image_20 m (nI i) (nI 0) = some (nI 0, m') ∧ m'.1 = m.1 ∧ m'.2.2 = m.2.2 ∧ (∀ r, ¬ r = 1 → ¬ r = 2 → m'.2.1 r = m.2.1 r) ∧ (∀ k, k < 1038 → m'.2.1 1 (1038 * (i + 1) + k) = m.2.1 1 k) ∧ (∀ j, j < 1038 * (i + 1) ∨ 1038 * (i + 1) + 1038 ≤ j → m'.2.1 1 j = m.2.1 1 j) ∧ ∀ j, m'.2.1 2 j = if j = i then nI 1 else m.2.1 2 j := by
  unfold gX12_image_20
  have L := lpw_all (body := fun q : Int32 × Mu => gX12_image_20b q.2 (nI i) q.1)
    (fun n q => q.1 = nI n ∧ q.2.1 = m.1 ∧ q.2.2.2 = m.2.2 ∧ (∀ r, ¬ r = 1 → q.2.2.1 r = m.2.1 r) ∧ (∀ k, k < n → q.2.2.1 1 (1038 * (i + 1) + k) = m.2.1 1 k) ∧ (∀ j, j < 1038 * (i + 1) ∨ 1038 * (i + 1) + 1038 ≤ j → q.2.2.1 1 j = m.2.1 1 j))
    (fun r => r.1 = nI 0 ∧ r.2.1 = m.1 ∧ r.2.2.2 = m.2.2 ∧ (∀ z, ¬ z = 1 → ¬ z = 2 → r.2.2.1 z = m.2.1 z) ∧ (∀ k, k < 1038 → r.2.2.1 1 (1038 * (i + 1) + k) = m.2.1 1 k) ∧ (∀ j, j < 1038 * (i + 1) ∨ 1038 * (i + 1) + 1038 ≤ j → r.2.2.1 1 j = m.2.1 1 j) ∧ ∀ j, r.2.2.1 2 j = if j = i then nI 1 else m.2.1 2 j) 1038 ?_ ?_ (nI 0, m) ⟨rfl, rfl, rfl, fun _ _ => rfl, fun k hk => by omega, fun _ _ => rfl⟩
  · obtain ⟨r, e, e1, e2⟩ := L
    exact ⟨r.2, by rw [e]; exact congrArg some (Prod.ext e1 rfl), e2⟩
  · intro n q hn ⟨e1, e2, e3, e4, e5, e6⟩
    have hkn : ¬ 1038 ≤ n := by omega
    have ev : q.2.2.1 1 n = m.2.1 1 n := e6 n (by omega)
    show ∃ s', gX12_image_20b q.2 (nI i) q.1 = some (.inl s') ∧ _
    rw [e1]
    unfold gX12_image_20b
    have b1 : 1038 * (i + 1) + n < 3114 := by omega
    simp (disch := omega) only [n_lit, n_of, n_o1, nI_add, pk_mul, nI_ltI, nI_leI, nI_eq, ↓lift_lt, ↓k_mt, ↓k_mp, if_true, if_false, Bool.false_eq_true, Nat.not_lt_zero, Nat.zero_le, Nat.reduceEqDiff, Nat.reduceLeDiff, hkn, mA_1, mW_1, ev]
    refine ⟨_, rfl, rfl, e2, e3, fun r hr => ?_, fun k hk => ?_, fun j hj => ?_⟩
    · rw [← e4 r hr]; exact mS_ne _ _ _ hr
    · rw [mS_a, if_pos rfl]
      by_cases z : k = n
      · rw [if_pos (by rw [z]), z]
      · rw [if_neg (by omega)]; exact e5 k (by omega)
    · rw [mS_a, if_pos rfl, if_neg (by omega)]
      exact e6 j hj
  · intro q ⟨e1, e2, e3, e4, e5, e6⟩
    show ∃ r, gX12_image_20b q.2 (nI i) q.1 = some (.inr r) ∧ _
    rw [e1]
    unfold gX12_image_20b gX12_image_53
    simp (disch := omega) only [n_lit, n_of, n_o1, nI_add, pk_mul, nI_ltI, nI_leI, nI_eq, ↓lift_lt, ↓k_mt, ↓k_mp, if_true, if_false, Bool.false_eq_true, Nat.not_lt_zero, Nat.zero_le, Nat.reduceEqDiff, Nat.reduceLeDiff, Nat.le_refl, mW_2_1]
    refine ⟨_, rfl, rfl, e2, e3, fun r hr hr2 => ?_, fun k hk => ?_, fun j hj => ?_, fun j => ?_⟩
    · rw [← e4 r hr]; exact mS_ne _ _ _ hr2
    · rw [mS_a, if_neg (by decide)]; exact e5 k hk
    · rw [mS_a, if_neg (by decide)]; exact e6 j hj
    · rw [mS_a, if_pos rfl, e4 2 (by decide)]
section OPS3
variable {T : Nat} {h : Hp} {V : Nat → Cv} {c : Ch} {m : Mu} {x : Sp}
theorem op_image (x1 : Int32) (gC : RC T h V c x) (gM : RM m x) (hw : WF x) : OKs T h V (gX11_image h c x1) (gX12_image m x1) := by
  have i1 : ¬ (1 = 0) := by decide
  unfold gX11_image gX11_image_9 gX12_image
  rcases ix_cases x1 2 (by decide) (by decide) with ⟨i, hi, rfl⟩ | ⟨n1, n1a⟩ | ⟨n1, n1a, n1b, n1c, n1d⟩
  · have cl : (nI i).toNatClampNeg = i := nI_clamp (by omega)
    have ib : inB (nI i) 2 = true := inB_nI hi (by decide)
    obtain ⟨m', em, f1, f2, f3, f4, f5, f6⟩ := q_image (m := mI m 0 (nI 0)) hi
    obtain ⟨⟨a1, a2, ⟨a, a3, a3b, a3c⟩, a4, ⟨a5, nx, a5a, a5b, a5c⟩, a6, a7, a8, a9⟩, ⟨aa, ch, t1, t2, t3, t4, t5, t6, t7⟩, g3⟩ := gC
    have cq : cWQ2 h c (nI i) a = some (cSQ c i a) := by
      unfold cWQ2
      rw [if_pos ib, cl, cv_O a3c]
      rfl
    obtain ⟨c', ec, ks, kr, k2⟩ := c_copy (c := cSQ c i a) (s := zS x) h (j := 0) (j' := 13 + i) (by decide) (by omega) (by omega) a4
    have sb := sadr_b (13 + i)
    have hsb : 136 ≤ sadr (13 + i) := by
      unfold sadr
      rw [if_neg (by omega), if_neg (by omega), if_pos (by omega)]
      omega
    have kj : ∀ j, j < 15 → ¬ j = 13 + i → c'.1 (sadr j) = c.1 (sadr j) := fun j h1 h2 => kr _ (sadr_inj h1 (by omega) h2)
    have q3 : c'.2.2.1 = c.2.2.1 := by rw [k2]; rfl
    have q4 : c'.2.2.2.1 = c.2.2.2.1 := by rw [k2]; rfl
    have q5 : c'.2.2.2.2.1 = c.2.2.2.2.1 := by rw [k2]; rfl
    have q6 : c'.2.2.2.2.2 = (cSQ c i a).2.2.2.2.2 := by rw [k2]
    refine ⟨nI 0, c', m', sIm x i (some (zV x, zS x)), ?_, ?_, RC_T (by omega) ⟨⟨?_, ?_, ?_, ?_, ⟨?_, nx, a5a, ?_, fun z hz => ?_⟩, fun j hj => ?_, fun t ht => ?_, ?_, ?_⟩, ⟨aa, ch, by rw [q3]; exact t1, t2, t3, by rw [kr 108 (by omega)]; exact t4, t5, by rw [q4]; exact t6, by rw [q4]; exact t7⟩, SI_eq (c := c) (kr 116 (by omega)) (by rw [q3]) (by rw [q4]) (by rw [q4]) (by rw [q4]) (by rw [q4]) g3⟩, ?_, ?_⟩
    · have hi2 : i < 2 := hi
      simp (disch := omega) only [n_lit, n_of, n_o1, nI_add, pk_mul, nI_ltI, nI_leI, nI_eq, ↓lift_lt, ↓k_mt, ↓k_mp, if_true, if_false, Bool.false_eq_true, Nat.not_lt_zero, Nat.zero_le, Nat.reduceEqDiff, Nat.reduceLeDiff, hi2, a3, cq, ib, iff_t, cl, ec]
    · simp (disch := omega) only [n_lit, n_of, n_o1, nI_add, pk_mul, nI_ltI, nI_leI, nI_eq, ↓lift_lt, ↓k_mt, ↓k_mp, if_true, if_false, Bool.false_eq_true, Nat.not_lt_zero, Nat.zero_le, Nat.reduceEqDiff, Nat.reduceLeDiff, n_litL, win_y, i1, em]
    · rw [kr 80 (by omega)]; exact a1
    · rw [q4]; exact a2
    · exact ⟨a, by rw [q3]; exact a3, a3b, a3c⟩
    · exact stc_eq (kj 0 (by decide) (by omega)) a4
    · rw [kr 93 (by omega)]; exact a5
    · rw [kr 93 (by omega)]; exact a5b
    · exact stc_eq (kj _ (by omega) (by omega)) (a5c z hz)
    · show imC h V c' j (if j = i then some (zV x, zS x) else zI x j)
      by_cases e : j = i
      · rw [if_pos e, e]
        refine ⟨a, ?_, a3b, a3c, ks⟩
        rw [q6]
        show u2 c.2.2.2.2.2 106 i (some a) 106 i = _
        rw [u2_a, if_pos rfl, if_pos rfl]
      · rw [if_neg e]
        have q7 : c'.2.2.2.2.2 106 j = c.2.2.2.2.2 106 j := by
          rw [q6]
          show u2 c.2.2.2.2.2 106 i (some a) 106 j = _
          rw [u2_a, if_pos rfl, if_neg e]
        have b := a6 j hj
        unfold imC at *
        cases hz : zI x j with
        | none => rw [hz] at b; simp only [q7]; exact b
        | some p =>
          rw [hz] at b
          obtain ⟨a', b1, b2, b3, b4⟩ := b
          exact ⟨a', by rw [q7]; exact b1, b2, b3, stc_eq (kj _ (by omega) (by omega)) b4⟩
    · have b := a7 t ht
      have tb := tadr_b (t := t)
      show trC c' t (zR x t)
      unfold trC at *
      rw [kr (tadr t) (by omega), q5]
      exact b
    · rw [kr 82 (by omega)]; exact a8
    · rw [kr 82 (by omega)]; exact a9
    · obtain ⟨m1, m2, m3, m4, m5, m6, m7, m8, m9, m10⟩ := gM
      have lo : ∀ k, k < 1038 → m'.2.1 1 k = m.2.1 1 k := fun k hk => f5 k (by omega)
      refine ⟨by rw [f1]; exact m1, by rw [f3 3 (by decide) (by decide)]; exact m2, Rv_eq lo m3, blk_eq (fun k hk => lo _ (by omega)) m4, by rw [lo 26 (by decide)]; exact m5, fun j hj => blk_eq (fun k hk => lo _ ?_) (m6 j hj), fun j hj => ?_, fun t ht => ?_, by rw [f1]; exact m9, by rw [f1]; exact m10⟩
      · have := hw.2.2.2.2.1
        have hj : j < (zH x).length := hj
        omega
      · show imR _ _ j (if j = i then some (zV x, zS x) else zI x j)
        by_cases e : j = i
        · rw [if_pos e, e]
          exact ⟨by rw [f6, if_pos rfl], Rv_eq (fun k hk => f4 k hk) m3, blk_eq (fun k hk => f4 (15 + k) (by omega)) m4⟩
        · rw [if_neg e]
          exact imR_eq (fun k hk => f5 _ (by omega)) (by rw [f6, if_neg e]; rfl) (m7 j hj)
      · rw [f3 21 (by decide) (by decide), f3 22 (by decide) (by decide), f2]
        exact m8 t ht
    · obtain ⟨w1, w2, w3, w4, w5, w6, w7, w8⟩ := hw
      refine ⟨w1, w2, w3, w4, w5, w6, fun j => ?_, w8⟩
      show imOK (if j = i then _ else _)
      split
      · exact ⟨w3, w4⟩
      · exact w7 j
  · have w := wi_n (u := 1) n1 (by decide) (by decide)
    refine OK_no gC gM hw (-nI 2) ?_ ?_
    · simp (disch := omega) only [n_lit, n_of, n_o1, nI_add, pk_mul, nI_ltI, nI_leI, nI_eq, ↓lift_lt, ↓k_mt, ↓k_mp, if_true, if_false, Bool.false_eq_true, Nat.not_lt_zero, Nat.zero_le, Nat.reduceEqDiff, Nat.reduceLeDiff, n1a]
    · simp (disch := omega) only [n_lit, n_of, n_o1, nI_add, pk_mul, nI_ltI, nI_leI, nI_eq, ↓lift_lt, ↓k_mt, ↓k_mp, if_true, if_false, Bool.false_eq_true, Nat.not_lt_zero, Nat.zero_le, Nat.reduceEqDiff, Nat.reduceLeDiff, n_litL, w]
  · have w := wi_n (u := 1) n1 (by decide) (by decide)
    refine OK_no gC gM hw (-nI 2) ?_ ?_
    · simp (disch := omega) only [n_lit, n_of, n_o1, nI_add, pk_mul, nI_ltI, nI_leI, nI_eq, ↓lift_lt, ↓k_mt, ↓k_mp, if_true, if_false, Bool.false_eq_true, Nat.not_lt_zero, Nat.zero_le, Nat.reduceEqDiff, Nat.reduceLeDiff, n1a, n1c]
    · simp (disch := omega) only [n_lit, n_of, n_o1, nI_add, pk_mul, nI_ltI, nI_leI, nI_eq, ↓lift_lt, ↓k_mt, ↓k_mp, if_true, if_false, Bool.false_eq_true, Nat.not_lt_zero, Nat.zero_le, Nat.reduceEqDiff, Nat.reduceLeDiff, n_litL, w]
theorem q_restore {m : Mu} {i : Nat} (hi : i < 2) : ∃ m', gX12_restore_32 m (nI i) (nI 0) = some (nI 0, m') ∧ m'.1 = m.1 ∧ m'.2.2 = m.2.2 ∧ (∀ r, ¬ r = 1 → m'.2.1 r = m.2.1 r) ∧ (∀ k, k < 1038 → ¬ k = 26 → m'.2.1 1 k = m.2.1 1 (1038 * (i + 1) + k)) ∧ (∀ j, 1038 ≤ j → m'.2.1 1 j = m.2.1 1 j) ∧ m'.2.1 1 26 = nI 0 := by
  unfold gX12_restore_32
  have L := lpw_all (body := fun q : Int32 × Mu => gX12_restore_32b q.2 (nI i) q.1)
    (fun n q => q.1 = nI n ∧ q.2.1 = m.1 ∧ q.2.2.2 = m.2.2 ∧ (∀ r, ¬ r = 1 → q.2.2.1 r = m.2.1 r) ∧ (∀ k, k < n → q.2.2.1 1 k = m.2.1 1 (1038 * (i + 1) + k)) ∧ (∀ j, 1038 ≤ j → q.2.2.1 1 j = m.2.1 1 j))
    (fun r => r.1 = nI 0 ∧ r.2.1 = m.1 ∧ r.2.2.2 = m.2.2 ∧ (∀ z, ¬ z = 1 → r.2.2.1 z = m.2.1 z) ∧ (∀ k, k < 1038 → ¬ k = 26 → r.2.2.1 1 k = m.2.1 1 (1038 * (i + 1) + k)) ∧ (∀ j, 1038 ≤ j → r.2.2.1 1 j = m.2.1 1 j) ∧ r.2.2.1 1 26 = nI 0) 1038 ?_ ?_ (nI 0, m) ⟨rfl, rfl, rfl, fun _ _ => rfl, fun k hk => by omega, fun _ _ => rfl⟩
  · obtain ⟨r, e, e1, e2⟩ := L
    exact ⟨r.2, by rw [e]; exact congrArg some (Prod.ext e1 rfl), e2⟩
  · intro n q hn ⟨e1, e2, e3, e4, e5, e6⟩
    have hkn : ¬ 1038 ≤ n := by omega
    have b1 : 1038 * (i + 1) + n < 3114 := by omega
    have ev : q.2.2.1 1 (1038 * (i + 1) + n) = m.2.1 1 (1038 * (i + 1) + n) := e6 _ (by omega)
    show ∃ s', gX12_restore_32b q.2 (nI i) q.1 = some (.inl s') ∧ _
    rw [e1]
    unfold gX12_restore_32b
    simp (disch := omega) only [n_lit, n_of, n_o1, nI_add, pk_mul, nI_ltI, nI_leI, nI_eq, ↓lift_lt, ↓k_mt, ↓k_mp, if_true, if_false, Bool.false_eq_true, Nat.not_lt_zero, Nat.zero_le, Nat.reduceEqDiff, Nat.reduceLeDiff, hkn, mA_1, mW_1, ev]
    refine ⟨_, rfl, rfl, e2, e3, fun r hr => ?_, fun k hk => ?_, fun j hj => ?_⟩
    · rw [← e4 r hr]; exact mS_ne _ _ _ hr
    · rw [mS_a, if_pos rfl]
      by_cases z : k = n
      · rw [if_pos z, z]
      · rw [if_neg z]; exact e5 k (by omega)
    · rw [mS_a, if_pos rfl, if_neg (by omega)]
      exact e6 j hj
  · intro q ⟨e1, e2, e3, e4, e5, e6⟩
    show ∃ r, gX12_restore_32b q.2 (nI i) q.1 = some (.inr r) ∧ _
    rw [e1]
    unfold gX12_restore_32b gX12_restore_65
    simp (disch := omega) only [n_lit, n_of, n_o1, nI_add, pk_mul, nI_ltI, nI_leI, nI_eq, ↓lift_lt, ↓k_mt, ↓k_mp, if_true, if_false, Bool.false_eq_true, Nat.not_lt_zero, Nat.zero_le, Nat.reduceEqDiff, Nat.reduceLeDiff, Nat.le_refl, mW_1]
    refine ⟨_, rfl, rfl, e2, e3, fun r hr => ?_, fun k hk hk2 => ?_, fun j hj => ?_, ?_⟩
    · rw [← e4 r hr]; exact mS_ne _ _ _ hr
    · rw [mS_a, if_pos rfl, if_neg hk2]; exact e5 k hk
    · rw [mS_a, if_pos rfl, if_neg (by omega)]; exact e6 j hj
    · rw [mS_a, if_pos rfl, if_pos rfl]
theorem op_restore (x1 : Int32) (gC : RC T h V c x) (gM : RM m x) (hw : WF x) : OKs T h V (gX11_restore h c x1) (gX12_restore m x1) := by
  have i1 : ¬ (1 = 0) := by decide
  unfold gX11_restore gX11_restore_9 gX12_restore
  rcases ix_cases x1 2 (by decide) (by decide) with ⟨i, hi, rfl⟩ | ⟨n1, n1a⟩ | ⟨n1, n1a, n1b, n1c, n1d⟩
  · have cl : (nI i).toNatClampNeg = i := nI_clamp (by omega)
    have ib : inB (nI i) 2 = true := inB_nI hi (by decide)
    have hi2 : i < 2 := hi
    have ci := gC.1.2.2.2.2.2.1 i hi
    have mi := (RM_0 gM (nI 0)).2.2.2.2.2.2.1 i hi
    have oi := hw.2.2.2.2.2.2.1 i
    have cQe : cQ c (nI i) = some (c.2.2.2.2.2 106 i) := by
      unfold cQ
      rw [if_pos ib, cl]
    cases hz : zI x i with
    | none =>
      rw [hz] at ci mi
      have ci : c.2.2.2.2.2 106 i = none := ci
      have mi : (mI m 0 (nI 0)).2.1 2 i = nI 0 := mi
      refine OK_no gC gM hw (-nI 5) ?_ ?_
      · simp (disch := omega) only [n_lit, n_of, n_o1, nI_add, pk_mul, nI_ltI, nI_leI, nI_eq, ↓lift_lt, ↓k_mt, ↓k_mp, if_true, if_false, Bool.false_eq_true, Nat.not_lt_zero, Nat.zero_le, Nat.reduceEqDiff, Nat.reduceLeDiff, hi2, cQe, ci]
      · simp (disch := omega) only [n_lit, n_of, n_o1, nI_add, pk_mul, nI_ltI, nI_leI, nI_eq, ↓lift_lt, ↓k_mt, ↓k_mp, if_true, if_false, Bool.false_eq_true, Nat.not_lt_zero, Nat.zero_le, Nat.reduceEqDiff, Nat.reduceLeDiff, n_litL, win_y, i1, mA_2, mi]
    | some p =>
      obtain ⟨v, s⟩ := p
      rw [hz] at ci mi oi
      obtain ⟨a', c1, c2, c3, c4⟩ := ci
      obtain ⟨q1, q2, q3⟩ := mi
      obtain ⟨o1, o2⟩ := oi
      obtain ⟨m', em, f1, f2, f3, f4, f5, f6⟩ := q_restore (m := mI m 0 (nI 0)) hi
      obtain ⟨⟨a1, a2, ⟨a, a3, a3b, a3c⟩, a4, ⟨a5, nx, a5a, a5b, a5c⟩, a6, a7, a8, a9⟩, ⟨aa, ch, t1, t2, t3, t4, t5, t6, t7⟩, g3⟩ := gC
      obtain ⟨c', ec, ks, kr, k2⟩ := c_copy (c := cR c 80 3 (some a')) (s := s) h (j := 13 + i) (j' := 0) (by omega) (by decide) (by omega) c4
      have s90 : sadr 0 = 90 := rfl
      rw [s90] at kr
      have kj : ∀ j, j < 15 → ¬ j = 0 → c'.1 (sadr j) = c.1 (sadr j) := fun j h1 h2 => kr _ (sadr_inj h1 (by decide) h2)
      have g4 : c'.2.2.2.1 = c.2.2.2.1 := by rw [k2]; rfl
      have g5 : c'.2.2.2.2 = c.2.2.2.2 := by rw [k2]; rfl
      have gR : ∀ r j, c'.2.2.1 r j = if r = 80 then (if j = 3 then some a' else c.2.2.1 80 j) else c.2.2.1 r j := fun r j => by rw [k2]; exact cR_3 c 80 3 _ r j
      refine ⟨nI 0, cI c' 93 2 (nI 0), m', (zT x, v, s, [], zI x, zR x, zF x), ?_, ?_, RC_T (by omega) ⟨⟨?_, ?_, ⟨a', ?_, c2, c3⟩, ?_, ⟨?_, nx, a5a, ?_, fun z hz => ?_⟩, fun j hj => ?_, fun t ht => ?_, ?_, ?_⟩, ⟨aa, ch, ?_, t2, t3, ?_, t5, ?_, ?_⟩, SI_eq (c := c) ?_ ?_ ?_ ?_ ?_ ?_ g3⟩, ?_, ?_⟩
      · unfold gX5_forget
        simp (disch := omega) only [n_lit, n_of, n_o1, nI_add, pk_mul, nI_ltI, nI_leI, nI_eq, ↓lift_lt, ↓k_mt, ↓k_mp, if_true, if_false, Bool.false_eq_true, Nat.not_lt_zero, Nat.zero_le, Nat.reduceEqDiff, Nat.reduceLeDiff, hi2, cQe, c1, ib, iff_t, cl, ec]
      · simp (disch := omega) only [n_lit, n_of, n_o1, nI_add, pk_mul, nI_ltI, nI_leI, nI_eq, ↓lift_lt, ↓k_mt, ↓k_mp, if_true, if_false, Bool.false_eq_true, Nat.not_lt_zero, Nat.zero_le, Nat.reduceEqDiff, Nat.reduceLeDiff, n_litL, win_y, i1, mA_2, q1, em]
      · rw [cI_n _ (by decide), kr 80 (by decide)]; exact a1
      · show ∀ i, i < (zT x).1 → c'.2.2.2.1 81 i = _
        rw [g4]; exact a2
      · show c'.2.2.1 80 3 = _
        rw [gR, if_pos rfl, if_pos rfl]
      · exact stc_eq (cI_n c' (by decide)) ks
      · rw [cI_1, if_pos rfl, if_pos rfl]; rfl
      · rw [cI_1, if_pos rfl, if_neg (by decide), kr 93 (by decide)]; exact a5b
      · exact absurd hz (Nat.not_lt_zero z)
      · have b := a6 j hj
        show imC h V (cI c' 93 2 (nI 0)) j (zI x j)
        unfold imC at *
        cases hz2 : zI x j with
        | none =>
          rw [hz2] at b
          show c'.2.2.2.2.2 106 j = none
          rw [g5]; exact b
        | some p =>
          rw [hz2] at b
          obtain ⟨a2', b1, b2, b3, b4⟩ := b
          refine ⟨a2', ?_, b2, b3, stc_eq ?_ b4⟩
          · show c'.2.2.2.2.2 106 j = _
            rw [g5]; exact b1
          · have sb := sadr_b (13 + j)
            rw [cI_n _ (by omega)]
            exact kj _ (by omega) (by omega)
      · have b := a7 t ht
        have tb := tadr_b (t := t)
        show trC (cI c' 93 2 (nI 0)) t (zR x t)
        unfold trC at *
        rw [cI_n _ (show ¬ tadr t = 93 by omega), kr (tadr t) (by omega), cI_2, g5]
        exact b
      · rw [cI_n _ (by decide), kr 82 (by decide)]; exact a8
      · rw [cI_n _ (by decide), kr 82 (by decide)]; exact a9
      · show c'.2.2.1 108 5 = _
        rw [gR, if_neg (by decide)]; exact t1
      · rw [cI_n _ (by decide), kr 108 (by decide)]; exact t4
      · show GC _ _ (c'.2.2.2.1 111)
        rw [g4]; exact t6
      · show FC _ (c'.2.2.2.1 112)
        rw [g4]; exact t7
      · rw [cI_n _ (by decide), kr 116 (by decide)]; rfl
      · show c'.2.2.1 116 1 = _
        rw [gR, if_neg (by decide)]
      · show c'.2.2.2.1 117 = _
        rw [g4]
      · show c'.2.2.2.1 118 = _
        rw [g4]
      · show c'.2.2.2.1 119 = _
        rw [g4]
      · show c'.2.2.2.1 120 = _
        rw [g4]
      · obtain ⟨m1, m2, m3, m4, m5, m6, m7, m8, m9, m10⟩ := gM
        refine ⟨by rw [f1]; exact m1, by rw [f3 3 (by decide)]; exact m2, ?_, blk_eq (fun k hk => f4 _ (by omega) (by omega)) q3, f6, fun j hj => absurd hj (Nat.not_lt_zero j), fun j hj => ?_, fun t ht => ?_, by rw [f1]; exact m9, by rw [f1]; exact m10⟩
        · refine Rv_eq2 (f := fun k => if k < 1038 then (mI m 0 (nI 0)).2.1 1 (1038 * (i + 1) + k) else m'.2.1 1 k) (fun k hk => ?_) (Rv_eq (fun k hk => if_pos hk) q2)
          show _ = if k < 1038 then _ else _
          by_cases z : k < 1038
          · rw [if_pos z]; exact f4 k z (by omega)
          · rw [if_neg z]
        · exact imR_eq (fun k hk => f5 _ (by omega)) (by rw [f3 2 (by decide)]; rfl) (m7 j hj)
        · rw [f3 21 (by decide), f3 22 (by decide), f2]
          exact m8 t ht
      · obtain ⟨w1, w2, w3, w4, w5, w6, w7, w8⟩ := hw
        exact ⟨w1, w2, o1, o2, Nat.zero_le 10, fun s hs => absurd hs (by simp [zH]), w7, w8⟩
  · have w := wi_n (u := 1) n1 (by decide) (by decide)
    refine OK_no gC gM hw (-nI 2) ?_ ?_
    · simp (disch := omega) only [n_lit, n_of, n_o1, nI_add, pk_mul, nI_ltI, nI_leI, nI_eq, ↓lift_lt, ↓k_mt, ↓k_mp, if_true, if_false, Bool.false_eq_true, Nat.not_lt_zero, Nat.zero_le, Nat.reduceEqDiff, Nat.reduceLeDiff, n1a]
    · simp (disch := omega) only [n_lit, n_of, n_o1, nI_add, pk_mul, nI_ltI, nI_leI, nI_eq, ↓lift_lt, ↓k_mt, ↓k_mp, if_true, if_false, Bool.false_eq_true, Nat.not_lt_zero, Nat.zero_le, Nat.reduceEqDiff, Nat.reduceLeDiff, n_litL, w]
  · have w := wi_n (u := 1) n1 (by decide) (by decide)
    refine OK_no gC gM hw (-nI 2) ?_ ?_
    · simp (disch := omega) only [n_lit, n_of, n_o1, nI_add, pk_mul, nI_ltI, nI_leI, nI_eq, ↓lift_lt, ↓k_mt, ↓k_mp, if_true, if_false, Bool.false_eq_true, Nat.not_lt_zero, Nat.zero_le, Nat.reduceEqDiff, Nat.reduceLeDiff, n1a, n1c]
    · simp (disch := omega) only [n_lit, n_of, n_o1, nI_add, pk_mul, nI_ltI, nI_leI, nI_eq, ↓lift_lt, ↓k_mt, ↓k_mp, if_true, if_false, Bool.false_eq_true, Nat.not_lt_zero, Nat.zero_le, Nat.reduceEqDiff, Nat.reduceLeDiff, n_litL, w]
end OPS3
