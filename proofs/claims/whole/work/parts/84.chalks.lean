/-! chalks that bring what was seen -/
noncomputable def cbs (S : Nat → Prop) : Nat → Nat
  | 0 => 0
  | k + 1 => cbs S k ||| ib (S k) * 2 ^ k
theorem cbs_lt (S : Nat → Prop) : ∀ k, cbs S k < 2 ^ k
  | 0 => by
    show 0 < 1
    decide
  | k + 1 => by
    show cbs S k ||| ib (S k) * 2 ^ k < 2 ^ (k + 1)
    have h1 := cbs_lt S k
    have h2 : ib (S k) * 2 ^ k ≤ 1 * 2 ^ k := Nat.mul_le_mul_right _ (ib_b _)
    have h3 : 2 ^ (k + 1) = 2 ^ k * 2 := Nat.pow_succ ..
    exact Nat.or_lt_two_pow (by omega) (by omega)
def chS (v : Cv) (s : St) (w : Nat → Int64) (p n j : Nat) : Prop := SN (fun u b => Yr v (setd s.2.1 p j) u s.2.2.1 b) w p n s.1 0
theorem setd2 {s p d d' : Nat} (hp : p < 4) (hd : d < 10) : setd (setd s p d) p d' = setd s p d' := by
  have h1 := setd_dg (s := s) hp hd hp
  rw [if_pos rfl] at h1
  show setd s p d - dg (setd s p d) p * 10 ^ p + d' * 10 ^ p = _
  rw [h1]
  unfold setd
  omega
section QCH
variable {v : Cv} {s : St} {m : Mu} {t n : Nat} {w : Nat → Int64} {p : Nat}
def cfm (p : Nat) (m m' : Mu) : Prop := m'.1 = m.1 ∧ m'.2.2 = m.2.2 ∧ (∀ r, Ar56 r = false → ¬ r = 1 → m'.2.1 r = m.2.1 r) ∧ ∀ j, ¬ j = 19 + p → m'.2.1 1 j = m.2.1 1 j
theorem q_chalksOf (H : SQ v s t n w m) (ht : t < 4) (hn : n ≤ 10) (hp : p < vP v) :
    ∃ m', gX12_chalksOf m (nI t) (nI p) = some (nI (cbs (chS v s w p n) 10), m') ∧ mfr Ar56 m m' := by
  have hP := H.1.2.2.1.1
  have hp4 : p < 4 := by omega
  have c19 : m.2.1 1 (19 + p) = nI (dg s.2.1 p) := by rw [show 19 + p = 15 + (4 + p) by omega]; exact H.1.2.1.2.1 p hp4
  have K := lpw_all (body := fun q : Int32 × Int32 × Mu => gX12_chalksOf_16b q.2.2 (nI t) (nI p) (nI (dg s.2.1 p)) q.1 q.2.1)
    (fun k q => q.1 = nI (cbs (chS v s w p n) k) ∧ q.2.1 = nI k ∧ cfm p m q.2.2 ∧ ∃ ch', SQ v (s.1, ch', s.2.2) t n w q.2.2 ∧ ∀ d, setd ch' p d = setd s.2.1 p d)
    (fun r => r.1 = nI (cbs (chS v s w p n) 10) ∧ mfr Ar56 m r.2) 10 ?_ ?_ (nI 0, nI 0, m) ⟨rfl, rfl, ⟨rfl, rfl, fun _ _ _ => rfl, fun _ _ => rfl⟩, s.2.1, H, fun _ => rfl⟩
  · obtain ⟨r, e, e1, e2⟩ := K
    refine ⟨r.2, ?_, e2⟩
    have e' : gX12_chalksOf_16 m (nI t) (nI p) (nI (dg s.2.1 p)) (nI 0) (nI 0) = some (nI (cbs (chS v s w p n) 10), r.2) := by
      unfold gX12_chalksOf_16
      rw [e]
      exact congrArg some (Prod.ext e1 rfl)
    unfold gX12_chalksOf
    simp (disch := omega) only [n_lit, n_of, n_o1, nI_add, pk_mul, nI_ltI, nI_leI, nI_eq, ↓lift_lt, ↓k_mt, ↓k_mp, if_true, if_false, Bool.false_eq_true, Nat.not_lt_zero, Nat.zero_le, Nat.reduceEqDiff, Nat.reduceLeDiff, Nat.reduceLT, mA_1, c19, e']
  · rintro k ⟨z1, z2, z3⟩ hk ⟨g1, g2, g3, ch', g4, g5⟩
    have g1 : z1 = nI (cbs (chS v s w p n) k) := g1
    have g2 : z2 = nI k := g2
    subst g1 g2
    have g3 : cfm p m z3 := g3
    have g4 : SQ v (s.1, ch', s.2.2) t n w z3 := g4
    have k1 : ¬ 10 ≤ k := by omega
    obtain ⟨Q1, -⟩ := RD_chalk (d := k) g4.1 hp hk
    have Q1 : RD (mS z3 1 (19 + p) (nI k)) v (s.1, setd s.2.1 p k, s.2.2) := by rw [← g5 k]; exact Q1
    have S1 : SQ v (s.1, setd s.2.1 p k, s.2.2) t n w (mS z3 1 (19 + p) (nI k)) := ⟨Q1, by rw [mS_ne _ _ _ (by decide)]; exact g4.2.1, g4.2.2⟩
    obtain ⟨m2, e2, f2⟩ := q_isSeen (R := 0) (p := p) rfl S1 ht hn hp4 (by decide)
    have c1 : cfm p m m2 := by
      obtain ⟨q1, q2, q3, q4⟩ := g3
      refine ⟨f2.1.trans q1, f2.2.1.trans q2, fun r hr h1 => by rw [f2.2.2 r hr, mS_ne _ _ _ h1]; exact q3 r hr h1, fun j hj => ?_⟩
      rw [f2.2.2 1 rfl, mS_a, if_pos rfl, if_neg hj]
      exact q4 j hj
    have pk : 2 ^ k ≤ 2 ^ 10 := Nat.pow_le_pow_right (by decide) (by omega)
    show ∃ s', gX12_chalksOf_16b z3 (nI t) (nI p) (nI (dg s.2.1 p)) (nI (cbs (chS v s w p n) k)) (nI k) = some (.inl s') ∧ _
    refine ⟨(nI (cbs (chS v s w p n) k ||| ib (chS v s w p n k) * 2 ^ k), nI (k + 1), m2), ?_, rfl, rfl, c1, setd s.2.1 p k, SQ_fr S1 f2, fun d => setd2 hp4 hk⟩
    have e2 : gX12_isSeen (mS z3 1 (19 + p) (nI k)) (nI t) (nI p) (nI 0) = some (nI (ib (chS v s w p n k)), m2) := e2
    generalize cbs (chS v s w p n) k = u
    unfold gX12_chalksOf_16b gX12_chalksOf_54
    by_cases z : chS v s w p n k
    · have i1 : ¬ (1 = 0) := by decide
      rw [ib_t z] at e2
      rw [ib_t z]
      simp (disch := omega) only [n_lit, n_of, n_o1, nI_add, pk_mul, nI_ltI, nI_leI, nI_eq, ↓lift_lt, ↓k_mt, ↓k_mp, if_true, if_false, Bool.false_eq_true, Nat.not_lt_zero, Nat.zero_le, Nat.reduceEqDiff, Nat.reduceLeDiff, Nat.reduceLT, k1, mW_1, e2, i1, n_and, n_shlN, n_or]
    · rw [ib_f z] at e2
      rw [ib_f z, Nat.zero_mul]
      simp (disch := omega) only [n_lit, n_of, n_o1, nI_add, pk_mul, nI_ltI, nI_leI, nI_eq, ↓lift_lt, ↓k_mt, ↓k_mp, if_true, if_false, Bool.false_eq_true, Nat.not_lt_zero, Nat.zero_le, Nat.reduceEqDiff, Nat.reduceLeDiff, Nat.reduceLT, k1, mW_1, e2, n_or]
  · rintro ⟨z1, z2, z3⟩ ⟨g1, g2, g3, ch', g4, g5⟩
    have g2 : z2 = nI 10 := g2
    subst g2
    have g3 : cfm p m z3 := g3
    show ∃ r, gX12_chalksOf_16b z3 (nI t) (nI p) (nI (dg s.2.1 p)) z1 (nI 10) = some (.inr r) ∧ _
    refine ⟨(z1, mS z3 1 (19 + p) (nI (dg s.2.1 p))), ?_, g1, ?_⟩
    · unfold gX12_chalksOf_16b gX12_chalksOf_63
      simp (disch := omega) only [n_lit, n_of, n_o1, nI_add, pk_mul, nI_ltI, nI_leI, nI_eq, ↓lift_lt, ↓k_mt, ↓k_mp, if_true, if_false, Bool.false_eq_true, Nat.not_lt_zero, Nat.zero_le, Nat.reduceEqDiff, Nat.reduceLeDiff, Nat.reduceLT, Nat.le_refl, mW_1, Option.map_some]
    · obtain ⟨q1, q2, q3, q4⟩ := g3
      refine ⟨q1, q2, fun r hr => ?_⟩
      show (mS z3 1 (19 + p) (nI (dg s.2.1 p))).2.1 r = _
      by_cases h1 : r = 1
      · subst h1
        funext j
        rw [mS_a, if_pos rfl]
        by_cases hj : j = 19 + p
        · rw [if_pos hj, hj, c19]
        · rw [if_neg hj]; exact q4 j hj
      · rw [mS_ne _ _ _ h1]; exact q3 r hr h1
end QCH
section CCH
variable {h : Hp} {V : Nat → Cv} {c : Ch} {a ch l p t n : Nat} {w : Nat → Int64} {Y : Nat → Nat → Nat} {s0 : Nat}
theorem c_isSeenSo (hY : Y = fun u b => Yr (V a) ch u l b) (hl : l < 2 ^ 31) (hp : p < 4) (hn : n ≤ 10) (hs : s0 < 20000) (hT : CT h V c a ch) (h3 : c.1 (tadr t) 3 = nI n) (hw : ∀ i, i < n → c.2.2.2.2.1 (tadr t + 1) i = w i) :
    ∃ c', gX10_isSeenSo h c t (nI p) (nI s0) (nI l) = some (nI (ib (SN Y w p n s0 0)), c') ∧ CT h V c' a ch ∧ cfr A112 c c' := by
  have hP := hT.2.2.1.1
  have hYl : ∀ s b, s < 20000 → Y s b < 20000 := fun u b hu => by rw [hY]; exact Yr_lt hP hu _ _ _
  have wl := wk_lt (R := 0) (n := n) hYl hs
  have K := lpw_inv (body := fun q : Int32 × Int32 × Ch => gX10_isSeenSo_6b h q.2.2 t (nI p) (nI l) q.1 q.2.1)
    (fun k q => q.1 = nI (wk Y n s0 0 k) ∧ q.2.1 = nI k ∧ CT h V q.2.2 a ch ∧ cfr A112 c q.2.2 ∧ ∀ i, i < k → fit w p i (wk Y n s0 0 (i + 1)))
    (fun r => r.1 = nI (ib (SN Y w p n s0 0)) ∧ CT h V r.2 a ch ∧ cfr A112 c r.2) n ?_ ?_ (nI s0, nI 0, c) ⟨rfl, rfl, hT, cfr_rfl _ c, fun i hi => by omega⟩
  · obtain ⟨r, e, e1, e2⟩ := K
    refine ⟨r.2, ?_, e2⟩
    unfold gX10_isSeenSo gX10_isSeenSo_6
    rw [show ((0 : Int32)) = nI 0 from rfl, e]
    exact congrArg some (Prod.ext e1 rfl)
  · rintro k ⟨z1, z2, z3⟩ hk ⟨g1, g2, g3, g4, g5⟩
    have g1 : z1 = nI (wk Y n s0 0 k) := g1
    have g2 : z2 = nI k := g2
    subst g1 g2
    have g3 : CT h V z3 a ch := g3
    have g4 : cfr A112 c z3 := g4
    have k1 : ¬ n ≤ k := by omega
    obtain ⟨c1, e1, T1, f1⟩ := c_after (s := wk Y n s0 0 k) (l := l) (dry := 0) g3 (wl k) hl (by decide)
    have eY : Yr (V a) ch (wk Y n s0 0 k) l 0 = wk Y n s0 0 (k + 1) := by
      show _ = Y (wk Y n s0 0 k) (0 / 2 ^ (n - 1 - k) % 2)
      rw [Nat.zero_div, hY]
    rw [eY] at e1
    have F := cfr_tr g4 f1
    have w3 : z3.1 (tadr t) 3 = nI n := by rw [g4.1]; exact h3
    have ea := c_at (h := h) (c := c1) (k := k) (t := t) (n := n) (w := w) (by rw [F.1]; exact h3) (by omega) (by rw [F.2.2.2.2]; exact hw) hk
    have wk1 := wl (k + 1)
    have hdg := dg_lt (wk Y n s0 0 (k + 1)) p
    have nl : (nI (dg (wk Y n s0 0 (k + 1)) p)).toInt64 = lN (dg (wk Y n s0 0 (k + 1)) p) := nI_l (by omega)
    have eg := c_digit (s := wk Y n s0 0 (k + 1)) (p := p) (by omega) hp
    show (∃ s', gX10_isSeenSo_6b h z3 t (nI p) (nI l) (nI (wk Y n s0 0 k)) (nI k) = some (.inl s') ∧ _) ∨ (∃ r, gX10_isSeenSo_6b h z3 t (nI p) (nI l) (nI (wk Y n s0 0 k)) (nI k) = some (.inr r) ∧ _)
    unfold gX10_isSeenSo_6b gX10_isSeenSo_61
    have keep : ∀ (z : fit w p k (wk Y n s0 0 (k + 1))), ∀ i, i < k + 1 → fit w p i (wk Y n s0 0 (i + 1)) := fun z i hi => by
      by_cases e : i = k
      · rw [e]; exact z
      · exact g5 i (by omega)
    by_cases z1 : w k = -lN 1
    · have g1 : lg_cmp (w k) (-lN 1) = nI 0 := (lg_e' _ _).mpr z1
      refine Or.inl ⟨(nI (wk Y n s0 0 (k + 1)), nI (k + 1), c1), ?_, rfl, rfl, T1, F, keep (Or.inl z1)⟩
      simp (disch := omega) only [n_lit, n_of, n_o1, nI_add, pk_mul, nI_ltI, nI_leI, nI_eq, ↓lift_lt, ↓k_mt, ↓k_mp, if_true, if_false, Bool.false_eq_true, Nat.not_lt_zero, Nat.zero_le, Nat.reduceEqDiff, Nat.reduceLeDiff, Nat.reduceLT, n_litL, w3, k1, e1, ea, g1]
    · have g1 : ¬ lg_cmp (w k) (-lN 1) = nI 0 := fun q => z1 ((lg_e' _ _).mp q)
      by_cases z2 : w k = lN (dg (wk Y n s0 0 (k + 1)) p)
      · have g2 : lg_cmp (w k) (lN (dg (wk Y n s0 0 (k + 1)) p)) = nI 0 := (lg_e' _ _).mpr z2
        refine Or.inl ⟨(nI (wk Y n s0 0 (k + 1)), nI (k + 1), c1), ?_, rfl, rfl, T1, F, keep (Or.inr z2)⟩
        simp (disch := omega) only [n_lit, n_of, n_o1, nI_add, pk_mul, nI_ltI, nI_leI, nI_eq, ↓lift_lt, ↓k_mt, ↓k_mp, if_true, if_false, Bool.false_eq_true, Nat.not_lt_zero, Nat.zero_le, Nat.reduceEqDiff, Nat.reduceLeDiff, Nat.reduceLT, n_litL, w3, k1, e1, ea, g1, eg, nl, g2]
      · have g2 : ¬ lg_cmp (w k) (lN (dg (wk Y n s0 0 (k + 1)) p)) = nI 0 := fun q => z2 ((lg_e' _ _).mp q)
        have no : ¬ SN Y w p n s0 0 := fun q => (q k hk).elim z1 z2
        refine Or.inr ⟨(nI 0, c1), ?_, by rw [ib_f no], T1, F⟩
        simp (disch := omega) only [n_lit, n_of, n_o1, nI_add, pk_mul, nI_ltI, nI_leI, nI_eq, ↓lift_lt, ↓k_mt, ↓k_mp, if_true, if_false, Bool.false_eq_true, Nat.not_lt_zero, Nat.zero_le, Nat.reduceEqDiff, Nat.reduceLeDiff, Nat.reduceLT, n_litL, w3, k1, e1, ea, g1, eg, nl, g2]
  · rintro ⟨z1, z2, z3⟩ ⟨g1, g2, g3, g4, g5⟩
    have g2 : z2 = nI n := g2
    subst g2
    have g4 : cfr A112 c z3 := g4
    have w3 : z3.1 (tadr t) 3 = nI n := by rw [g4.1]; exact h3
    have yes : SN Y w p n s0 0 := g5
    show ∃ r, gX10_isSeenSo_6b h z3 t (nI p) (nI l) z1 (nI n) = some (.inr r) ∧ _
    unfold gX10_isSeenSo_6b
    refine ⟨(nI 1, z3), ?_, by rw [ib_t yes], g3, g4⟩
    simp (disch := omega) only [n_lit, n_of, n_o1, nI_add, pk_mul, nI_ltI, nI_leI, nI_eq, ↓lift_lt, ↓k_mt, ↓k_mp, if_true, if_false, Bool.false_eq_true, Nat.not_lt_zero, Nat.zero_le, Nat.reduceEqDiff, Nat.reduceLeDiff, Nat.reduceLT, w3, Nat.le_refl]
end CCH
section OPS12
variable {T : Nat} {h : Hp} {V : Nat → Cv} {c : Ch} {m : Mu} {x : Sp}
theorem setd_10k {ch P p d : Nat} (hP : P ≤ 4) (hp : p < P) (hd : d < 10) (hch : ch < 10 ^ P) : setd ch p d < 10000 := by
  have p10 := pow10_le hP
  have h10 := setd_hi (s := ch) (p := p) (d := d) (by omega) hd
  omega
theorem c_chalkBits {t p so n : Nat} {w : Nat → Int64} (gC : RC T h V c x) (hw : WF x) (ht : t < 4) (hp : p < vP (zV x)) (hn : n ≤ 10) (hz : zR x t = some (so, n, w)) :
    ∃ c', gX11_chalkBits h c (nI t) (nI p) = some (nI (cbs (chS (zV x) (zS x) w p n) 10), c') ∧ RC T h V c' x := by
  have hP := hw.2.2.1.1
  have hs := hw.2.2.2.1
  have p5 := pow5_le hP
  have p10 := pow10_le hP
  have hp4 : p < 4 := by omega
  have hl : (zS x).2.2.1 < 2 ^ 31 := by have := hs.2.2.2.1; omega
  have tb := tadr_b (t := t)
  have cl : (nI t).toNatClampNeg = t := nI_clamp (by omega)
  have ibt : inB (nI t) 4 = true := inB_nI ht (by decide)
  have hc := gC.1.2.2.2.2.2.2.1 t ht
  unfold trC at hc
  rw [hz] at hc
  obtain ⟨c2', c1', c3, cw⟩ := hc
  obtain ⟨-, -, ⟨a, a3, eV, aC⟩, a4, -⟩ := gC.1
  unfold gX11_chalkBits gX11_chalkBits_5
  have K := lpw_all (body := fun q : Int32 × Int32 × Ch => gX11_chalkBits_5b h q.2.2 (nI t) (nI p) q.1 q.2.1)
    (fun k q => q.1 = nI (cbs (chS (zV x) (zS x) w p n) k) ∧ q.2.1 = nI k ∧ (∃ a ch, CT h V q.2.2 a ch) ∧ qfr c q.2.2)
    (fun r => r.1 = nI (cbs (chS (zV x) (zS x) w p n) 10) ∧ (∃ a ch, CT h V r.2 a ch) ∧ qfr c r.2) 10 ?_ ?_ (nI 0, nI 0, c) ⟨rfl, rfl, gC.2.1, qfr_rfl c⟩
  · obtain ⟨r, e, e1, e2, e3⟩ := K
    exact ⟨r.2, by rw [show ((0 : Int32)) = nI 0 from rfl, e]; exact congrArg some (Prod.ext e1 rfl), RC_q gC e3 e2⟩
  · rintro k ⟨z1, z2, z3⟩ hk ⟨g1, g2, ⟨ax, chx, g3⟩, g4⟩
    have g1 : z1 = nI (cbs (chS (zV x) (zS x) w p n) k) := g1
    have g2 : z2 = nI k := g2
    subst g1 g2
    have g3 : CT h V z3 ax chx := g3
    have g4 : qfr c z3 := g4
    have k1 : ¬ 9 < k := by omega
    have hch := hs.2.2.1
    have sd := setd_10k (d := k) hP hp hk hch
    have y3 : z3.2.2.1 80 3 = some a := by rw [g4.2.1 80 (by decide)]; exact a3
    have ys : stc z3 0 (zS x) := stc_eq (g4.1 _ (by decide) (by decide) (by decide)) a4
    have wd := c_withDigit (s := (zS x).2.1) (p := p) (d := k) (by omega) hp4
    obtain ⟨c4, e4, T4, r1, r2, r3, r4, r5⟩ := c_tune g3 (a' := a) (ch' := setd (zS x).2.1 p k) (by rw [eV]; exact aC) (by rw [eV]; exact hw.2.2.1) sd
    have q4 : qfr z3 c4 := ⟨fun r q _ _ => r1 r q, r3, fun r hr => r4 r (scr_12 hr), r5⟩
    have q04 := qfr_tr g4 q4
    have u3 : c4.1 (tadr t) 3 = nI n := by rw [q04.1 _ (by omega) (by omega) (by omega)]; exact c3
    have uw : ∀ i, i < n → c4.2.2.2.2.1 (tadr t + 1) i = w i := by rw [q04.2.2.2]; exact cw
    have us : stc c4 0 (zS x) := stc_eq (q04.1 _ (by decide) (by decide) (by decide)) a4
    obtain ⟨c5, e5, T5, f5⟩ := c_isSeenSo (h := h) (V := V) (c := c4) (a := a) (ch := setd (zS x).2.1 p k) (l := (zS x).2.2.1) (p := p) (t := t) (n := n) (w := w) (s0 := (zS x).1) rfl hl hp4 hn hs.1 T4 u3 uw
    rw [eV] at e5
    have e5 : gX10_isSeenSo h c4 t (nI p) (nI (zS x).1) (nI (zS x).2.2.1) = some (nI (ib (chS (zV x) (zS x) w p n k)), c5) := e5
    have pk : 2 ^ k ≤ 2 ^ 10 := Nat.pow_le_pow_right (by decide) (by omega)
    show ∃ s', gX11_chalkBits_5b h z3 (nI t) (nI p) (nI (cbs (chS (zV x) (zS x) w p n) k)) (nI k) = some (.inl s') ∧ _
    refine ⟨(nI (cbs (chS (zV x) (zS x) w p n) k ||| ib (chS (zV x) (zS x) w p n k) * 2 ^ k), nI (k + 1), c5), ?_, rfl, rfl, ⟨a, _, T5⟩, qfr_tr q04 (qfr_12 f5)⟩
    generalize cbs (chS (zV x) (zS x) w p n) k = u
    unfold gX11_chalkBits_5b gX11_chalkBits_74
    by_cases z : chS (zV x) (zS x) w p n k
    · have i1 : ¬ (1 = 0) := by decide
      rw [ib_t z] at e5
      rw [ib_t z]
      simp (disch := omega) only [n_lit, n_of, n_o1, nI_add, pk_mul, nI_ltI, nI_leI, nI_eq, ↓lift_lt, ↓k_mt, ↓k_mp, if_true, if_false, Bool.false_eq_true, Nat.not_lt_zero, Nat.zero_le, Nat.reduceEqDiff, Nat.reduceLeDiff, Nat.reduceLT, k1, y3, ys.2.1, wd, e4, ibt, iff_t, cl, us.1, us.2.2.1, e5, i1, n_and, n_shlN, n_or]
    · rw [ib_f z] at e5
      rw [ib_f z, Nat.zero_mul, Nat.or_zero]
      simp (disch := omega) only [n_lit, n_of, n_o1, nI_add, pk_mul, nI_ltI, nI_leI, nI_eq, ↓lift_lt, ↓k_mt, ↓k_mp, if_true, if_false, Bool.false_eq_true, Nat.not_lt_zero, Nat.zero_le, Nat.reduceEqDiff, Nat.reduceLeDiff, Nat.reduceLT, k1, y3, ys.2.1, wd, e4, ibt, iff_t, cl, us.1, us.2.2.1, e5]
  · rintro ⟨z1, z2, z3⟩ ⟨g1, g2, g3⟩
    have g2 : z2 = nI 10 := g2
    subst g2
    show ∃ r, gX11_chalkBits_5b h z3 (nI t) (nI p) z1 (nI 10) = some (.inr r) ∧ _
    refine ⟨(z1, z3), ?_, g1, g3⟩
    have o9 : 9 < 10 := by decide
    unfold gX11_chalkBits_5b
    simp (disch := omega) only [n_lit, n_of, n_o1, nI_add, pk_mul, nI_ltI, nI_leI, nI_eq, ↓lift_lt, ↓k_mt, ↓k_mp, if_true, if_false, Bool.false_eq_true, Nat.not_lt_zero, Nat.zero_le, Nat.reduceEqDiff, Nat.reduceLeDiff, Nat.reduceLT, o9]
theorem op_chalks (x1 x2 : Int32) (gC : RC T h V c x) (gM : RM m x) (hw : WF x) : OKs T h V (gX11_chalks h c x1 x2) (gX12_chalks m x1 x2) := by
  unfold gX11_chalks gX11_chalks_21 gX12_chalks gX12_chalks_26
  rcases seen_no x1 x2 gC gM hw with ⟨e, e0, e1, e2⟩ | ⟨t, p, so, n, w, ht, hp, rfl, rfl, hz, n1, n10, e1, e2⟩
  · refine OK_no gC gM hw e ?_ ?_
    · simp (disch := omega) only [n_lit, n_of, n_o1, nI_add, pk_mul, nI_ltI, nI_leI, nI_eq, ↓lift_lt, ↓k_mt, ↓k_mp, if_true, if_false, Bool.false_eq_true, Nat.not_lt_zero, Nat.zero_le, Nat.reduceEqDiff, Nat.reduceLeDiff, Nat.reduceLT, e1, e0]
    · simp (disch := omega) only [n_lit, n_of, n_o1, nI_add, pk_mul, nI_ltI, nI_leI, nI_eq, ↓lift_lt, ↓k_mt, ↓k_mp, if_true, if_false, Bool.false_eq_true, Nat.not_lt_zero, Nat.zero_le, Nat.reduceEqDiff, Nat.reduceLeDiff, Nat.reduceLT, e2, e0]
  · obtain ⟨c', ec, R'⟩ := c_chalkBits gC hw ht hp n10 hz
    obtain ⟨m', em, fm⟩ := q_chalksOf (SQ_of gM hw ht hz) ht n10 hp
    refine ⟨nI (cbs (chS (zV x) (zS x) w p n) 10), c', m', x, ?_, ?_, RC_T (by omega) R', RM_kp (RM_0 gM (nI 0)) (kpM_fr fm rfl rfl rfl rfl rfl), hw⟩
    · simp (disch := omega) only [n_lit, n_of, n_o1, nI_add, pk_mul, nI_ltI, nI_leI, nI_eq, ↓lift_lt, ↓k_mt, ↓k_mp, if_true, if_false, Bool.false_eq_true, Nat.not_lt_zero, Nat.zero_le, Nat.reduceEqDiff, Nat.reduceLeDiff, Nat.reduceLT, e1, ec]
    · simp (disch := omega) only [n_lit, n_of, n_o1, nI_add, pk_mul, nI_ltI, nI_leI, nI_eq, ↓lift_lt, ↓k_mt, ↓k_mp, if_true, if_false, Bool.false_eq_true, Nat.not_lt_zero, Nat.zero_le, Nat.reduceEqDiff, Nat.reduceLeDiff, Nat.reduceLT, e2, em]
end OPS12
