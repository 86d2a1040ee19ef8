/-! judge, perform, age -/
theorem lpw_l {σ ρ : Type} {body : σ → Option (σ ⊕ ρ)} {s s' : σ} (e : body s = some (.inl s')) : lpw body s = lpw body s' := by rw [lpw_eq, e]
theorem lpw_r {σ ρ : Type} {body : σ → Option (σ ⊕ ρ)} {s : σ} {r : ρ} (e : body s = some (.inr r)) : lpw body s = some r := by rw [lpw_eq, e]
theorem lpw_m {σ ρ : Type} {body : σ → Option (σ ⊕ ρ)} {s : σ} {o : Option ρ} (e : body s = o.map (fun q => .inr q)) : lpw body s = o := by
  rw [lpw_eq, e]
  cases o <;> rfl
/-- of the reference only toldWhy, a draw, the stand and what it reckons with may change -/
def tfm (m m' : Mu) : Prop := (∀ r, ¬ r = 23 → ¬ r = 24 → m'.1 r = m.1 r) ∧ m'.2.2 = m.2.2 ∧ (∀ r, ¬ r = 1 → ¬ r = 5 → ¬ r = 6 → m'.2.1 r = m.2.1 r) ∧ ∀ j, j < 15 ∨ 26 ≤ j → m'.2.1 1 j = m.2.1 1 j
theorem tfm_rfl (m : Mu) : tfm m m := ⟨fun _ _ _ => rfl, rfl, fun _ _ _ _ => rfl, fun _ _ => rfl⟩
theorem tfm_tr {m m' m'' : Mu} (h : tfm m m') (h' : tfm m' m'') : tfm m m'' := ⟨fun r a b => (h'.1 r a b).trans (h.1 r a b), h'.2.1.trans h.2.1, fun r a b c => (h'.2.2.1 r a b c).trans (h.2.2.1 r a b c), fun j hj => (h'.2.2.2 j hj).trans (h.2.2.2 j hj)⟩
theorem tfm_d {m m' : Mu} (h : dfm m m') : tfm m m' := ⟨fun r _ _ => by rw [h.1], h.2.1, h.2.2.1, h.2.2.2⟩
theorem tfm_I {m : Mu} {k : Nat} (v : Int32) (hk : k = 23 ∨ k = 24) : tfm m (mI m k v) := ⟨fun r a b => by rw [mI_f, if_neg (by omega)], rfl, fun _ _ _ _ => rfl, fun _ _ => rfl⟩
theorem RD_I {m : Mu} {v : Cv} {s : St} {k : Nat} {y : Int32} (Q : RD m v s) : RD (mI m k y) v s := Q
theorem whyNot_I (m : Mu) (k : Nat) (y : Int32) (d : Int64) : gX12_whyNot (mI m k y) d = gX12_whyNot m d := rfl
section JUDGE
variable {h : Hp} {V : Nat → Cv} {a t n : Nat} {v : Cv} {w : Nat → Int64}
theorem c_at {c : Ch} {k : Nat} (h3 : c.1 (tadr t) 3 = nI n) (hn : n ≤ 40) (hw : ∀ i, i < n → c.2.2.2.2.1 (tadr t + 1) i = w i) (hk : k < n) : gX9_at h c t (nI k) = some (w k) := by
  have k1 : ¬ n ≤ k := by omega
  unfold gX9_at gX9_at_22
  simp (disch := omega) only [n_lit, n_of, n_o1, nI_add, pk_mul, nI_ltI, nI_leI, nI_eq, ↓lift_lt, ↓k_mt, ↓k_mp, if_true, if_false, Bool.false_eq_true, Nat.not_lt_zero, Nat.zero_le, Nat.reduceEqDiff, Nat.reduceLeDiff, h3, k1, cL_g, hw k hk]
theorem judge_run (ht : t < 4) (hn : n ≤ 40) (x2 : Int32) : ∀ (r k : Nat), k + r = n → ∀ (c : Ch) (m : Mu) (s : St), DC h V c a v 2 s → RD m v s → c.1 (tadr t) 3 = nI n → (∀ i, i < n → c.2.2.2.2.1 (tadr t + 1) i = w i) → m.2.1 22 t = nI n → (∀ i, i < n → m.2.2 23 (40 * t + i) = w i) → m.1 23 = nI 0 →
    ∃ place why n' s' c' m', gX11_judge_53 h c x2 t (nI k) (nI 0) = gX11_judge_89 h c' x2 (nI place) (nI why) ∧ why < 3 ∧ place ≤ 41 ∧ n' ≤ 40 ∧ (why ≠ 0 → place = n' + 1) ∧ gX12_tells_7 m (nI t) (nI k) = some (nI n', m') ∧ m'.1 23 = nI why ∧ RD m' v s' ∧ DC h V c' a v 2 s' ∧ dfc 2 c c' ∧ tfm m m' := by
  intro r
  induction r with
  | zero =>
    intro k hk c m s D Q h1 h2 h3 h4 h5
    have kn : k = n := by omega
    subst kn
    refine ⟨k, 0, k, s, c, m, ?_, by decide, by omega, hn, fun q => absurd rfl q, ?_, h5, Q, D, dfc_rfl 2 c, tfm_rfl m⟩
    · unfold gX11_judge_53
      rw [lpw_eq]
      unfold gX11_judge_53b
      simp (disch := omega) only [h1, nI_leI, Nat.le_refl, if_true]
      cases gX11_judge_89 h c x2 (nI k) (nI 0) <;> rfl
    · unfold gX12_tells_7
      rw [lpw_eq]
      unfold gX12_tells_7b
      simp (disch := omega) only [n_lit, n_of, n_o1, nI_add, pk_mul, nI_ltI, nI_leI, nI_eq, ↓lift_lt, ↓k_mt, ↓k_mp, if_true, if_false, Bool.false_eq_true, Nat.not_lt_zero, Nat.zero_le, Nat.reduceEqDiff, Nat.reduceLeDiff, mA_22, h3, Nat.le_refl]
  | succ r ih =>
    intro k hk c m s D Q h1 h2 h3 h4 h5
    have kn : ¬ n ≤ k := by omega
    obtain ⟨why, c', e, hwy, g, ew, hh⟩ := act2 (j := 2) (m := mI m 23 (nI 0)) (w k) D (RD_I Q)
    rw [whyNot_I] at ew
    have u1 : 40 * t + k < 160 := by omega
    have tb := tadr_b (t := t)
    have n2 : ¬ tadr t = sadr 2 := fun q => sadr_tadr 2 t q.symm
    have g1 : c'.1 (tadr t) = c.1 (tadr t) := g.1 _ n2 (by omega)
    have estep : gX11_judge_53 h c x2 t (nI k) (nI 0) = gX11_judge_53 h c' x2 t (nI (k + 1)) (nI why) := by
      unfold gX11_judge_53
      have eb : gX11_judge_53b h c x2 t (nI k) (nI 0) = some (.inl (nI (k + 1), nI why, c')) := by
        unfold gX11_judge_53b
        simp (disch := omega) only [n_lit, n_of, n_o1, nI_add, pk_mul, nI_ltI, nI_leI, nI_eq, ↓lift_lt, ↓k_mt, ↓k_mp, if_true, if_false, Bool.false_eq_true, Nat.not_lt_zero, Nat.zero_le, Nat.reduceEqDiff, Nat.reduceLeDiff, h1, kn, c_at h1 hn h2 (show k < n by omega), e]
      exact lpw_l eb
    rcases hh with ⟨hw0, D'⟩ | ⟨hw0, s', m', em, gm, Q', D'⟩
    · refine ⟨k + 1, why, k, s, c', mI m 23 (nI why), ?_, hwy, by omega, by omega, fun _ => rfl, ?_, by rw [mI_f, if_pos rfl], RD_I Q, D', g, tfm_I _ (by omega)⟩
      · rw [estep]
        unfold gX11_judge_53
        have eb : gX11_judge_53b h c' x2 t (nI (k + 1)) (nI why) = (gX11_judge_89 h c' x2 (nI (k + 1)) (nI why)).map (fun q => .inr q) := by
          unfold gX11_judge_53b
          by_cases z : n ≤ k + 1
          · simp (disch := omega) only [g1, h1, nI_leI, z, if_true]
          · simp (disch := omega) only [n_lit, g1, h1, nI_leI, nI_eq, z, hw0, if_false]
        exact lpw_m eb
      · unfold gX12_tells_7
        rw [lpw_eq]
        unfold gX12_tells_7b
        simp (disch := omega) only [n_lit, n_of, n_o1, nI_add, pk_mul, nI_ltI, nI_leI, nI_eq, ↓lift_lt, ↓k_mt, ↓k_mp, if_true, if_false, Bool.false_eq_true, Nat.not_lt_zero, Nat.zero_le, Nat.reduceEqDiff, Nat.reduceLeDiff, mA_22, h3, kn, mJ_23, h4 k (by omega), ew, mI_f, hw0]
    · subst hw0
      have gm' : tfm m m' := tfm_tr (tfm_I (nI 0) (by omega)) (tfm_d gm)
      obtain ⟨place, why, n', s2, c2, m2, a1, a2, a3, a4, a5, a6, a7, a8, a9, a10, a11⟩ := ih (k + 1) (by omega) c' m' s' D' Q' (by rw [g1]; exact h1) (by rw [g.2.2.2.2]; exact h2) (by rw [gm'.2.2.1 22 (by decide) (by decide) (by decide)]; exact h3) (by rw [gm'.2.1]; exact h4) (by rw [gm.1, mI_f, if_pos rfl])
      refine ⟨place, why, n', s2, c2, m2, by rw [estep]; exact a1, a2, a3, a4, a5, ?_, a7, a8, a9, dfc_tr g a10, tfm_tr gm' a11⟩
      rw [← a6]
      unfold gX12_tells_7
      have eb : gX12_tells_7b m (nI t) (nI k) = some (.inl (nI (k + 1), m')) := by
        unfold gX12_tells_7b
        simp (disch := omega) only [n_lit, n_of, n_o1, nI_add, pk_mul, nI_ltI, nI_leI, nI_eq, ↓lift_lt, ↓k_mt, ↓k_mp, if_true, if_false, Bool.false_eq_true, Nat.not_lt_zero, Nat.zero_le, Nat.reduceEqDiff, Nat.reduceLeDiff, mA_22, h3, kn, mJ_23, h4 k (by omega), ew, mI_f, mI_j, em]
      exact lpw_l eb
theorem perf_run (ht : t < 4) (hn : n ≤ 40) : ∀ (r k : Nat), k + r = n → ∀ (c : Ch) (m : Mu) (s : St), DC h V c a v 0 s → RD m v s → c.1 (tadr t) 3 = nI n → (∀ i, i < n → c.2.2.2.2.1 (tadr t + 1) i = w i) → m.2.1 22 t = nI n → (∀ i, i < n → m.2.2 23 (40 * t + i) = w i) →
    ∃ n' s' c' m', gX11_perform_40 h c t (nI k) = gX11_perform_70 h c' (nI n') ∧ k ≤ n' ∧ n' ≤ 40 ∧ (n' = k → s' = s) ∧ gX12_tells_7 m (nI t) (nI k) = some (nI n', m') ∧ RD m' v s' ∧ DC h V c' a v 0 s' ∧ dfc 0 c c' ∧ tfm m m' := by
  intro r
  induction r with
  | zero =>
    intro k hk c m s D Q h1 h2 h3 h4
    have kn : k = n := by omega
    subst kn
    refine ⟨k, s, c, m, ?_, Nat.le_refl k, hn, fun _ => rfl, ?_, Q, D, dfc_rfl 0 c, tfm_rfl m⟩
    · unfold gX11_perform_40
      rw [lpw_eq]
      unfold gX11_perform_40b
      simp (disch := omega) only [h1, nI_leI, Nat.le_refl, if_true]
      cases gX11_perform_70 h c (nI k) <;> rfl
    · unfold gX12_tells_7
      rw [lpw_eq]
      unfold gX12_tells_7b
      simp (disch := omega) only [n_lit, n_of, n_o1, nI_add, pk_mul, nI_ltI, nI_leI, nI_eq, ↓lift_lt, ↓k_mt, ↓k_mp, if_true, if_false, Bool.false_eq_true, Nat.not_lt_zero, Nat.zero_le, Nat.reduceEqDiff, Nat.reduceLeDiff, mA_22, h3, Nat.le_refl]
  | succ r ih =>
    intro k hk c m s D Q h1 h2 h3 h4
    have kn : ¬ n ≤ k := by omega
    obtain ⟨why, c', e, hwy, g, ew, hh⟩ := act2 (j := 0) (m := mI m 23 (nI 0)) (w k) D (RD_I Q)
    rw [whyNot_I] at ew
    have u1 : 40 * t + k < 160 := by omega
    have tb := tadr_b (t := t)
    have n2 : ¬ tadr t = sadr 0 := fun q => sadr_tadr 0 t q.symm
    have g1 : c'.1 (tadr t) = c.1 (tadr t) := g.1 _ n2 (by omega)
    rcases hh with ⟨hw0, D'⟩ | ⟨hw0, s', m', em, gm, Q', D'⟩
    · refine ⟨k, s, c', mI m 23 (nI why), ?_, Nat.le_refl k, by omega, fun _ => rfl, ?_, RD_I Q, D', g, tfm_I _ (by omega)⟩
      · unfold gX11_perform_40
        have eb : gX11_perform_40b h c t (nI k) = (gX11_perform_70 h c' (nI k)).map (fun q => .inr q) := by
          unfold gX11_perform_40b
          simp (disch := omega) only [n_lit, h1, nI_leI, nI_eq, kn, if_false, c_at h1 hn h2 (show k < n by omega), e, k_bs, hw0]
        exact lpw_m eb
      · unfold gX12_tells_7
        rw [lpw_eq]
        unfold gX12_tells_7b
        simp (disch := omega) only [n_lit, n_of, n_o1, nI_add, pk_mul, nI_ltI, nI_leI, nI_eq, ↓lift_lt, ↓k_mt, ↓k_mp, if_true, if_false, Bool.false_eq_true, Nat.not_lt_zero, Nat.zero_le, Nat.reduceEqDiff, Nat.reduceLeDiff, mA_22, h3, kn, mJ_23, h4 k (by omega), ew, mI_f, hw0]
    · subst hw0
      have gm' : tfm m m' := tfm_tr (tfm_I (nI 0) (by omega)) (tfm_d gm)
      obtain ⟨n', s2, c2, m2, a1, a2, a3, a4, a6, a8, a9, a10, a11⟩ := ih (k + 1) (by omega) c' m' s' D' Q' (by rw [g1]; exact h1) (by rw [g.2.2.2.2]; exact h2) (by rw [gm'.2.2.1 22 (by decide) (by decide) (by decide)]; exact h3) (by rw [gm'.2.1]; exact h4)
      refine ⟨n', s2, c2, m2, ?_, by omega, a3, fun q => by omega, ?_, a8, a9, dfc_tr g a10, tfm_tr gm' a11⟩
      · rw [← a1]
        unfold gX11_perform_40
        have eb : gX11_perform_40b h c t (nI k) = some (.inl (nI (k + 1), c')) := by
          unfold gX11_perform_40b
          simp (disch := omega) only [n_lit, n_of, n_o1, nI_add, pk_mul, nI_ltI, nI_leI, nI_eq, ↓lift_lt, ↓k_mt, ↓k_mp, if_true, if_false, Bool.false_eq_true, Nat.not_lt_zero, Nat.zero_le, Nat.reduceEqDiff, Nat.reduceLeDiff, h1, kn, c_at h1 hn h2 (show k < n by omega), e]
        exact lpw_l eb
      · rw [← a6]
        unfold gX12_tells_7
        have eb : gX12_tells_7b m (nI t) (nI k) = some (.inl (nI (k + 1), m')) := by
          unfold gX12_tells_7b
          simp (disch := omega) only [n_lit, n_of, n_o1, nI_add, pk_mul, nI_ltI, nI_leI, nI_eq, ↓lift_lt, ↓k_mt, ↓k_mp, if_true, if_false, Bool.false_eq_true, Nat.not_lt_zero, Nat.zero_le, Nat.reduceEqDiff, Nat.reduceLeDiff, mA_22, h3, kn, mJ_23, h4 k (by omega), ew, mI_f, mI_j, em]
        exact lpw_l eb
end JUDGE
theorem mdf_t {m m' : Mu} (h : tfm m m') : mdf m m' := ⟨fun r a b c _ => h.2.2.1 r a b c, h.2.1, h.1 5 (by decide) (by decide), h.1 13 (by decide) (by decide), h.1 14 (by decide) (by decide), fun j hj => h.2.2.2 j (by omega)⟩
section OPS6
variable {T : Nat} {h : Hp} {V : Nat → Cv} {c : Ch} {m : Mu} {x : Sp}
theorem rf_end2 {m2 m3 : Mu} {s' : St} (gM : RM m x) (hw : WF x) (h1 : blk (m2.2.1 10) 0 (zS x)) (h2 : bks (m2.2.1 1) (zH x)) (h3 : mdf m m2) (D : RD m3 (zV x) s') (hd : tfm m2 m3) : ∃ m4, gX12_notes m3 = some m4 ∧ RM m4 (sD x s' (push (zH x) (zS x))) := by
  have r10 : m3.2.1 10 = m2.2.1 10 := hd.2.2.1 10 (by decide) (by decide) (by decide)
  have hB : bks (m3.2.1 1) (zH x) := ⟨by rw [hd.2.2.2 26 (by omega)]; exact h2.1, fun i hi => blk_eq (fun k hk => hd.2.2.2 _ (by omega)) (h2.2 i hi)⟩
  obtain ⟨m4, e4, g1, g2, g3, g4, g5⟩ := q_notes (m := m3) (s := zS x) hB hw.2.2.2.2.1 (by rw [r10]; exact h1)
  have hf : mdf m m4 := mdf_tr h3 (mdf_tr (mdf_t hd) ⟨fun r q _ _ _ => g4 r q, g3, by rw [g2], by rw [g2], by rw [g2], fun j hj => g5 j (by omega)⟩)
  exact ⟨m4, e4, RM_deed gM hf (blk_eq (fun k hk => g5 _ (by omega)) D.2.1) g1⟩
/-- nothing done: the reference -/
theorem rf_no {m2 m3 : Mu} (gM : RM m x) (h2 : bks (m2.2.1 1) (zH x)) (h3 : mdf m m2) (D : RD m3 (zV x) (zS x)) (hd : tfm m2 m3) : RM m3 x :=
  RM_deed (s := zS x) (H := zH x) gM (mdf_tr h3 (mdf_t hd)) D.2.1 ⟨by rw [hd.2.2.2 26 (by omega)]; exact h2.1, fun i hi => blk_eq (fun k hk => hd.2.2.2 _ (by omega)) (h2.2 i hi)⟩
theorem op_perform (x1 : Int32) (gC : RC T h V c x) (gM : RM m x) (hw : WF x) : OKs T h V (gX11_perform h c x1) (gX12_perform m x1) := by
  have i1 : ¬ (1 = 0) := by decide
  unfold gX11_perform gX12_perform gX12_perform_35
  by_cases h1 : ∃ p, p < 4 ∧ x1 = nI p
  · obtain ⟨t, ht, rfl⟩ := h1
    have y1 := c_tray_y ht
    have cl : (nI t).toNatClampNeg = t := nI_clamp (by omega)
    have ib : inB (nI t) 4 = true := inB_nI ht (by decide)
    have hc := gC.1.2.2.2.2.2.2.1 t ht
    have hm := (RM_0 gM (nI 0)).2.2.2.2.2.2.2.1 t ht
    have ho := hw.2.2.2.2.2.2.2 t
    unfold trC at hc
    unfold trR at hm
    unfold trOK at ho
    cases hz : zR x t with
    | none =>
      rw [hz] at hc hm
      have hc : c.1 (tadr t) 2 = nI 1 := hc
      have j1 : ¬ (-nI 6 = nI 0) := by decide
      refine OK_no gC gM hw (-nI 6) ?_ ?_
      · simp (disch := omega) only [n_lit, n_of, n_o1, nI_add, pk_mul, nI_ltI, nI_leI, nI_eq, ↓lift_lt, ↓k_mt, ↓k_mp, if_true, if_false, Bool.false_eq_true, Nat.not_lt_zero, Nat.zero_le, Nat.reduceEqDiff, Nat.reduceLeDiff, n_litL, y1, i1, ib, iff_t, cl, hc]
      · simp (disch := omega) only [n_lit, n_of, n_o1, nI_add, pk_mul, nI_ltI, nI_leI, nI_eq, ↓lift_lt, ↓k_mt, ↓k_mp, if_true, if_false, Bool.false_eq_true, Nat.not_lt_zero, Nat.zero_le, Nat.reduceEqDiff, Nat.reduceLeDiff, n_litL, q_noTray_0 ht hm, j1]
    | some p =>
      obtain ⟨so, n, w⟩ := p
      rw [hz] at hc hm ho
      obtain ⟨c2, c1', c3, cw⟩ := hc
      obtain ⟨mso, mn, mw⟩ := hm
      obtain ⟨hso, hn⟩ := ho
      obtain ⟨a, c1, e1, D1, t1, p1, f1⟩ := cl_begin gC hw
      obtain ⟨m2, em2, Q2, b2, h2, w2, r21, r22, r23⟩ := rf_begin gM hw
      have tb := tadr_b (t := t)
      have ft : c1.1 (tadr t) = c.1 (tadr t) := f1.1 _ (by omega) (by omega)
      obtain ⟨n', s', c', m', a1, -, a3, a4, a6, a8, a9, a10, a11⟩ := perf_run (w := w) ht hn n 0 (by omega) c1 (mI m2 23 (nI 0)) (zS x) D1 (RD_I Q2) (by rw [ft]; exact c3) (by rw [f1.2.2.2.2]; exact cw) (by rw [mI_a, r22]; exact mn) (by rw [mI_j, r23]; exact mw)
      have a11' : tfm m2 m' := tfm_tr (tfm_I (nI 0) (by omega)) a11
      by_cases n0 : n' = 0
      · subst n0
        have es := a4 rfl
        subst es
        have z0 : (0 : Nat) ≤ 0 := Nat.le_refl 0
        refine ⟨nI 0, c', m', x, ?_, ?_, RC_T (by omega) (cl_no (c1 := c') (a := a) gC ?_ (stf_tr f1 (stf_dfc (by decide) a10)) a9), rf_no gM h2 w2 a8 a11', hw⟩
        · unfold gX11_perform_70 gX11_perform_85 at a1
          simp (disch := omega) only [n_lit, n_of, n_o1, nI_add, pk_mul, nI_ltI, nI_leI, nI_eq, ↓lift_lt, ↓k_mt, ↓k_mp, if_true, if_false, Bool.false_eq_true, Nat.not_lt_zero, Nat.zero_le, Nat.reduceEqDiff, Nat.reduceLeDiff, n_litL, y1, i1, ib, iff_t, cl, c2, e1, a1]
        · unfold gX12_tells
          simp (disch := omega) only [n_lit, n_of, n_o1, nI_add, pk_mul, nI_ltI, nI_leI, nI_eq, ↓lift_lt, ↓k_mt, ↓k_mp, if_true, if_false, Bool.false_eq_true, Nat.not_lt_zero, Nat.zero_le, Nat.reduceEqDiff, Nat.reduceLeDiff, n_litL, q_noTray_1 ht hso mso, em2, a6]
        · exact pastC_eq (a10.1 93 (by decide) (by decide)) (fun j q1 q2 => a10.1 _ (fun q => sadr_inj (j := j) (j' := 0) (by omega) (by decide) (by omega) q) (fun q => sadr_108 j q.symm)) p1
      · have z0 : ¬ n' ≤ 0 := by omega
        obtain ⟨c3', e3, R3, -⟩ := cl_end gC hw t1 p1 f1 a9 a10
        obtain ⟨m4, e4, R4⟩ := rf_end2 gM hw b2 h2 w2 a8 a11'
        refine ⟨nI n', c3', m4, _, ?_, ?_, RC_T (by omega) R3, R4, WF_deed hw a9.2.2.2.2.2.1 (push_w hw).1 (push_w hw).2⟩
        · unfold gX11_perform_70 gX11_perform_85 at a1
          simp (disch := omega) only [n_lit, n_of, n_o1, nI_add, pk_mul, nI_ltI, nI_leI, nI_eq, ↓lift_lt, ↓k_mt, ↓k_mp, if_true, if_false, Bool.false_eq_true, Nat.not_lt_zero, Nat.zero_le, Nat.reduceEqDiff, Nat.reduceLeDiff, n_litL, y1, i1, ib, iff_t, cl, c2, e1, a1, z0, e3]
        · unfold gX12_tells
          simp (disch := omega) only [n_lit, n_of, n_o1, nI_add, pk_mul, nI_ltI, nI_leI, nI_eq, ↓lift_lt, ↓k_mt, ↓k_mp, if_true, if_false, Bool.false_eq_true, Nat.not_lt_zero, Nat.zero_le, Nat.reduceEqDiff, Nat.reduceLeDiff, n_litL, q_noTray_1 ht hso mso, em2, a6, z0, e4]
  · have y1 := c_tray_n h1
    have j1 : ¬ (-nI 2 = nI 0) := by decide
    refine OK_no gC gM hw (-nI 2) ?_ ?_
    · simp (disch := omega) only [n_lit, n_of, n_o1, nI_add, pk_mul, nI_ltI, nI_leI, nI_eq, ↓lift_lt, ↓k_mt, ↓k_mp, if_true, if_false, Bool.false_eq_true, Nat.not_lt_zero, Nat.zero_le, Nat.reduceEqDiff, Nat.reduceLeDiff, n_litL, y1]
    · simp (disch := omega) only [n_lit, n_of, n_o1, nI_add, pk_mul, nI_ltI, nI_leI, nI_eq, ↓lift_lt, ↓k_mt, ↓k_mp, if_true, if_false, Bool.false_eq_true, Nat.not_lt_zero, Nat.zero_le, Nat.reduceEqDiff, Nat.reduceLeDiff, n_litL, q_noTray_n h1, j1]
theorem op_judge (x1 x2 : Int32) (gC : RC T h V c x) (gM : RM m x) (hw : WF x) : OKs T h V (gX11_judge h c x1 x2) (gX12_judge m x1 x2) := by
  have i1 : ¬ (1 = 0) := by decide
  have hW := hw.2.2.1
  have hP := hW.1
  unfold gX11_judge gX11_judge_16 gX12_judge gX12_judge_105
  rcases ix_cases x2 4 (by decide) (by decide) with ⟨q, hq, rfl⟩ | ⟨n2, n2a⟩ | ⟨n2, n2a, n2b, n2c, n2d, n2e⟩
  · have q3 : q ≤ 3 := by omega
    by_cases h1 : ∃ p, p < 4 ∧ x1 = nI p
    · obtain ⟨t, ht, rfl⟩ := h1
      have y1 := c_tray_y ht
      have cl : (nI t).toNatClampNeg = t := nI_clamp (by omega)
      have ib : inB (nI t) 4 = true := inB_nI ht (by decide)
      have hc := gC.1.2.2.2.2.2.2.1 t ht
      have hm := (RM_0 gM (nI 0)).2.2.2.2.2.2.2.1 t ht
      have ho := hw.2.2.2.2.2.2.2 t
      unfold trC at hc
      unfold trR at hm
      unfold trOK at ho
      cases hz : zR x t with
      | none =>
        rw [hz] at hc hm
        have hc : c.1 (tadr t) 2 = nI 1 := hc
        have j1 : ¬ (-nI 6 = nI 0) := by decide
        refine OK_no gC gM hw (-nI 6) ?_ ?_
        · simp (disch := omega) only [n_lit, n_of, n_o1, nI_add, pk_mul, nI_ltI, nI_leI, nI_eq, ↓lift_lt, ↓k_mt, ↓k_mp, if_true, if_false, Bool.false_eq_true, Nat.not_lt_zero, Nat.zero_le, Nat.reduceEqDiff, Nat.reduceLeDiff, n_litL, y1, i1, q3, ib, iff_t, cl, hc]
        · simp (disch := omega) only [n_lit, n_of, n_o1, nI_add, pk_mul, nI_ltI, nI_leI, nI_eq, ↓lift_lt, ↓k_mt, ↓k_mp, if_true, if_false, Bool.false_eq_true, Nat.not_lt_zero, Nat.zero_le, Nat.reduceEqDiff, Nat.reduceLeDiff, n_litL, win_y, i1, q_noTray_0 ht hm, j1]
      | some p =>
        obtain ⟨so, n, w⟩ := p
        rw [hz] at hc hm ho
        obtain ⟨c2, c1', c3, cw⟩ := hc
        obtain ⟨mso, mn, mw⟩ := hm
        obtain ⟨hso, hn⟩ := ho
        -- the class tries on a stand of its own
        obtain ⟨-, -, -, a4, a5, -⟩ := gC.1
        obtain ⟨aa, ch, hT⟩ := gC.2.1
        obtain ⟨c1, e1, ks, kr, k2⟩ := c_copy (c := c) (s := zS x) h (j := 0) (j' := 2) (by decide) (by decide) (by decide) a4
        have s92 : sadr 2 = 92 := rfl
        rw [s92] at kr
        have f1 : stf c c1 := stf_1 (fun r hr => kr r (by omega)) k2
        obtain ⟨a, D1⟩ := DC_of (c' := c1) (j := 2) gC hw f1 ks ⟨aa, ch, CT_1 hT (by rw [kr 108 (by decide)]) k2⟩
        obtain ⟨m2, em2, Q2, b2, h2, w2, r21, r22, r23⟩ := rf_begin gM hw
        have tb := tadr_b (t := t)
        have ft : c1.1 (tadr t) = c.1 (tadr t) := f1.1 _ (by omega) (by omega)
        obtain ⟨place, why, n', s', c', m', g1, g2, g3, g4, g5, g6, g7, Q', D', g10, g11⟩ := judge_run (w := w) ht hn (nI q) n 0 (by omega) c1 (mI m2 23 (nI 0)) (zS x) D1 (RD_I Q2) (by rw [ft]; exact c3) (by rw [f1.2.2.2.2]; exact cw) (by rw [mI_a, r22]; exact mn) (by rw [mI_j, r23]; exact mw) (by rw [mI_f, if_pos rfl])
        have g11' : tfm m2 m' := tfm_tr (tfm_I (nI 0) (by omega)) g11
        have now' := q_nowD Q'
        have r10 : m'.2.1 10 = m2.2.1 10 := g11'.2.2.1 10 (by decide) (by decide) (by decide)
        obtain ⟨m5, e5, b5, k51, k52, k53, k54⟩ := q_isAgain (m := m') (s := zS x) (by rw [r10]; exact b2)
        have k13 : m5.1 23 = nI why := by rw [k51]; exact g7
        have r1' : m5.2.1 1 1 = nI (vP (zV x)) := by rw [k54 1 (by omega)]; exact Q'.1.2.1
        -- both sides are again as they were
        have RM5 : RM m5 x := by
          refine RM_deed (s := zS x) (H := zH x) gM (mdf_tr w2 (mdf_tr (mdf_t g11') ⟨fun r q1 _ _ _ => k53 r q1, k52, by rw [k51], by rw [k51], by rw [k51], fun j hj => k54 j (by omega)⟩)) b5 ⟨?_, fun i hi => ?_⟩
          · rw [k54 26 (by omega), g11'.2.2.2 26 (by omega)]; exact h2.1
          · exact blk_eq (fun k hk => by rw [k54 _ (by omega), g11'.2.2.2 _ (by omega)]) (h2.2 i hi)
        have RC5 : RC T h V c' x := by
          have fj : ∀ j, j < 15 → ¬ j = 2 → c'.1 (sadr j) = c.1 (sadr j) := fun j q1 q2 => by
            rw [g10.1 _ (fun q => sadr_inj (j := j) (j' := 2) q1 (by decide) q2 q) (fun q => sadr_108 j q.symm)]
            exact kr _ (fun q => sadr_inj (j := j) (j' := 2) q1 (by decide) q2 q)
          exact RC_deed (s := zS x) (H := zH x) gC (stf_tr f1 (stf_dfc (by decide) g10)) (stc_eq (fj 0 (by decide) (by decide)) a4) (pastC_eq (by rw [g10.1 93 (by decide) (by decide), kr 93 (by decide)]) (fun j q1 q2 => fj j (by omega) (by omega)) a5) D'.2.2.2.2.2.2
        have hs' := D'.2.2.2.2.2.1.1
        have s31 : s'.1 < 2 ^ 31 := by omega
        have d1 := D'.1
        have d3 := D'.2.2.1
        have d5 := D'.2.2.2.2.1.1
        have hcase : q = 0 ∨ q = 1 ∨ q = 2 ∨ q = 3 := by omega
        unfold gX11_judge_89 gX11_judge_129 at g1
        unfold gX12_tells
        rcases hcase with e | e | e | e <;> subst e
        · by_cases hy : why = 0
          · refine ⟨-nI 1, c', m5, x, ?_, ?_, RC_T (by omega) RC5, RM5, hw⟩
            · simp (disch := omega) only [n_lit, n_of, n_o1, nI_add, pk_mul, nI_ltI, nI_leI, nI_eq, ↓lift_lt, ↓k_mt, ↓k_mp, if_true, if_false, Bool.false_eq_true, Nat.not_lt_zero, Nat.zero_le, Nat.reduceEqDiff, Nat.reduceLeDiff, n_litL, y1, i1, ib, iff_t, cl, c2, e1, g1, hy]
            · simp (disch := omega) only [n_lit, n_of, n_o1, nI_add, pk_mul, nI_ltI, nI_leI, nI_eq, ↓lift_lt, ↓k_mt, ↓k_mp, if_true, if_false, Bool.false_eq_true, Nat.not_lt_zero, Nat.zero_le, Nat.reduceEqDiff, Nat.reduceLeDiff, n_litL, win_y, i1, q_noTray_1 ht hso mso, em2, g6, now', e5, k13, hy]
          · have hp := g5 hy
            subst hp
            refine ⟨nI n', c', m5, x, ?_, ?_, RC_T (by omega) RC5, RM5, hw⟩
            · simp (disch := omega) only [n_lit, n_of, n_o1, nI_add, pk_mul, nI_ltI, nI_leI, nI_eq, ↓lift_lt, ↓k_mt, ↓k_mp, if_true, if_false, Bool.false_eq_true, Nat.not_lt_zero, Nat.zero_le, Nat.reduceEqDiff, Nat.reduceLeDiff, n_litL, y1, i1, ib, iff_t, cl, c2, e1, g1, hy, pk_sub, Nat.add_sub_cancel]
            · simp (disch := omega) only [n_lit, n_of, n_o1, nI_add, pk_mul, nI_ltI, nI_leI, nI_eq, ↓lift_lt, ↓k_mt, ↓k_mp, if_true, if_false, Bool.false_eq_true, Nat.not_lt_zero, Nat.zero_le, Nat.reduceEqDiff, Nat.reduceLeDiff, n_litL, win_y, i1, q_noTray_1 ht hso mso, em2, g6, now', e5, k13, hy]
        · refine ⟨nI why, c', m5, x, ?_, ?_, RC_T (by omega) RC5, RM5, hw⟩
          · simp (disch := omega) only [n_lit, n_of, n_o1, nI_add, pk_mul, nI_ltI, nI_leI, nI_eq, ↓lift_lt, ↓k_mt, ↓k_mp, if_true, if_false, Bool.false_eq_true, Nat.not_lt_zero, Nat.zero_le, Nat.reduceEqDiff, Nat.reduceLeDiff, n_litL, y1, i1, ib, iff_t, cl, c2, e1, g1]
          · simp (disch := omega) only [n_lit, n_of, n_o1, nI_add, pk_mul, nI_ltI, nI_leI, nI_eq, ↓lift_lt, ↓k_mt, ↓k_mp, if_true, if_false, Bool.false_eq_true, Nat.not_lt_zero, Nat.zero_le, Nat.reduceEqDiff, Nat.reduceLeDiff, n_litL, win_y, i1, q_noTray_1 ht hso mso, em2, g6, now', e5, k13]
        · refine ⟨nI (metb (vP (zV x)) s'.1), c', m5, x, ?_, ?_, RC_T (by omega) RC5, RM5, hw⟩
          · simp (disch := omega) only [n_lit, n_of, n_o1, nI_add, pk_mul, nI_ltI, nI_leI, nI_eq, ↓lift_lt, ↓k_mt, ↓k_mp, if_true, if_false, Bool.false_eq_true, Nat.not_lt_zero, Nat.zero_le, Nat.reduceEqDiff, Nat.reduceLeDiff, n_litL, y1, i1, ib, iff_t, cl, c2, e1, g1, d1, cv_O d3, d5, c_metBits d3 hP s31]
          · simp (disch := omega) only [n_lit, n_of, n_o1, nI_add, pk_mul, nI_ltI, nI_leI, nI_eq, ↓lift_lt, ↓k_mt, ↓k_mp, if_true, if_false, Bool.false_eq_true, Nat.not_lt_zero, Nat.zero_le, Nat.reduceEqDiff, Nat.reduceLeDiff, n_litL, win_y, i1, q_noTray_1 ht hso mso, em2, g6, now', e5, q_metIn hP r1' s31]
        · refine ⟨nI (gsum (vP (zV x)) s'.1), c', m5, x, ?_, ?_, RC_T (by omega) RC5, RM5, hw⟩
          · simp (disch := omega) only [n_lit, n_of, n_o1, nI_add, pk_mul, nI_ltI, nI_leI, nI_eq, ↓lift_lt, ↓k_mt, ↓k_mp, if_true, if_false, Bool.false_eq_true, Nat.not_lt_zero, Nat.zero_le, Nat.reduceEqDiff, Nat.reduceLeDiff, n_litL, y1, i1, ib, iff_t, cl, c2, e1, g1, d1, cv_O d3, d5, c_gapSum d3 hP s31]
          · simp (disch := omega) only [n_lit, n_of, n_o1, nI_add, pk_mul, nI_ltI, nI_leI, nI_eq, ↓lift_lt, ↓k_mt, ↓k_mp, if_true, if_false, Bool.false_eq_true, Nat.not_lt_zero, Nat.zero_le, Nat.reduceEqDiff, Nat.reduceLeDiff, n_litL, win_y, i1, q_noTray_1 ht hso mso, em2, g6, now', e5, q_gapsIn hP r1' s31]
    · have y1 := c_tray_n h1
      have j1 : ¬ (-nI 2 = nI 0) := by decide
      refine OK_no gC gM hw (-nI 2) ?_ ?_
      · simp (disch := omega) only [n_lit, n_of, n_o1, nI_add, pk_mul, nI_ltI, nI_leI, nI_eq, ↓lift_lt, ↓k_mt, ↓k_mp, if_true, if_false, Bool.false_eq_true, Nat.not_lt_zero, Nat.zero_le, Nat.reduceEqDiff, Nat.reduceLeDiff, n_litL, y1]
      · simp (disch := omega) only [n_lit, n_of, n_o1, nI_add, pk_mul, nI_ltI, nI_leI, nI_eq, ↓lift_lt, ↓k_mt, ↓k_mp, if_true, if_false, Bool.false_eq_true, Nat.not_lt_zero, Nat.zero_le, Nat.reduceEqDiff, Nat.reduceLeDiff, n_litL, win_y, i1, q_noTray_n h1, j1]
  · have w := wi_n (u := 3) n2 (by decide) (by decide)
    refine OK_no gC gM hw (-nI 2) ?_ ?_
    · by_cases h1 : ∃ p, p < 4 ∧ x1 = nI p
      · obtain ⟨t, ht, rfl⟩ := h1
        simp (disch := omega) only [n_lit, n_of, n_o1, nI_add, pk_mul, nI_ltI, nI_leI, nI_eq, ↓lift_lt, ↓k_mt, ↓k_mp, if_true, if_false, Bool.false_eq_true, Nat.not_lt_zero, Nat.zero_le, Nat.reduceEqDiff, Nat.reduceLeDiff, n_litL, c_tray_y ht, i1, n2a]
      · simp (disch := omega) only [n_lit, n_of, n_o1, nI_add, pk_mul, nI_ltI, nI_leI, nI_eq, ↓lift_lt, ↓k_mt, ↓k_mp, if_true, if_false, Bool.false_eq_true, Nat.not_lt_zero, Nat.zero_le, Nat.reduceEqDiff, Nat.reduceLeDiff, n_litL, c_tray_n h1]
    · simp (disch := omega) only [n_lit, n_of, n_o1, nI_add, pk_mul, nI_ltI, nI_leI, nI_eq, ↓lift_lt, ↓k_mt, ↓k_mp, if_true, if_false, Bool.false_eq_true, Nat.not_lt_zero, Nat.zero_le, Nat.reduceEqDiff, Nat.reduceLeDiff, n_litL, w]
  · have w := wi_n (u := 3) n2 (by decide) (by decide)
    have n2f : ¬ x2 ≤ nI 3 := n2e
    refine OK_no gC gM hw (-nI 2) ?_ ?_
    · by_cases h1 : ∃ p, p < 4 ∧ x1 = nI p
      · obtain ⟨t, ht, rfl⟩ := h1
        simp (disch := omega) only [n_lit, n_of, n_o1, nI_add, pk_mul, nI_ltI, nI_leI, nI_eq, ↓lift_lt, ↓k_mt, ↓k_mp, if_true, if_false, Bool.false_eq_true, Nat.not_lt_zero, Nat.zero_le, Nat.reduceEqDiff, Nat.reduceLeDiff, n_litL, c_tray_y ht, i1, n2a, n2f]
      · simp (disch := omega) only [n_lit, n_of, n_o1, nI_add, pk_mul, nI_ltI, nI_leI, nI_eq, ↓lift_lt, ↓k_mt, ↓k_mp, if_true, if_false, Bool.false_eq_true, Nat.not_lt_zero, Nat.zero_le, Nat.reduceEqDiff, Nat.reduceLeDiff, n_litL, c_tray_n h1]
    · simp (disch := omega) only [n_lit, n_of, n_o1, nI_add, pk_mul, nI_ltI, nI_leI, nI_eq, ↓lift_lt, ↓k_mt, ↓k_mp, if_true, if_false, Bool.false_eq_true, Nat.not_lt_zero, Nat.zero_le, Nat.reduceEqDiff, Nat.reduceLeDiff, n_litL, w]
end OPS6
