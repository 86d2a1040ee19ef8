/-! questions: what they may change; grown, lists -/
def scr (r : Nat) : Bool := (decide (109 ≤ r) && decide (r < 114)) || (decide (122 ≤ r) && decide (r < 128))
def qfr (c c' : Ch) : Prop := (∀ r, ¬ r = 108 → ¬ r = 114 → ¬ r = 115 → c'.1 r = c.1 r) ∧ (∀ r, ¬ r = 108 → c'.2.2.1 r = c.2.2.1 r) ∧ (∀ r, scr r = false → c'.2.2.2.1 r = c.2.2.2.1 r) ∧ c'.2.2.2.2 = c.2.2.2.2
theorem qfr_rfl (c : Ch) : qfr c c := ⟨fun _ _ _ _ => rfl, fun _ _ => rfl, fun _ _ => rfl, rfl⟩
theorem qfr_tr {c c' c'' : Ch} (h : qfr c c') (h' : qfr c' c'') : qfr c c'' := ⟨fun r a b d => (h'.1 r a b d).trans (h.1 r a b d), fun r a => (h'.2.1 r a).trans (h.2.1 r a), fun r a => (h'.2.2.1 r a).trans (h.2.2.1 r a), h'.2.2.2.trans h.2.2.2⟩
theorem scr_12 {r : Nat} (h : scr r = false) : A112 r = false := by
  unfold scr at h
  unfold A112
  simp only [Bool.or_eq_false_iff, Bool.and_eq_false_iff, decide_eq_false_iff_not] at h ⊢
  omega
theorem scr_w {r : Nat} (h : scr r = false) : Aw r = false := by
  unfold scr at h
  unfold Aw
  simp only [Bool.or_eq_false_iff, Bool.and_eq_false_iff, decide_eq_false_iff_not] at h ⊢
  omega
theorem qfr_12 {c c' : Ch} (h : cfr A112 c c') : qfr c c' := ⟨fun r _ _ _ => by rw [h.1], fun r _ => by rw [h.2.2.1], fun r hr => h.2.2.2.1 r (scr_12 hr), h.2.2.2.2⟩
theorem qfr_w {c c' : Ch} (h : cfr Aw c c') : qfr c c' := ⟨fun r _ _ _ => by rw [h.1], fun r _ => by rw [h.2.2.1], fun r hr => h.2.2.2.1 r (scr_w hr), h.2.2.2.2⟩
theorem qfr_I {c c' : Ch} {r k : Nat} {y : Int32} (h : qfr c c') (hr : r = 114 ∨ r = 115) : qfr c (cI c' r k y) := ⟨fun z a b d => by rw [cI_n _ (by omega)]; exact h.1 z a b d, h.2.1, h.2.2.1, h.2.2.2⟩
theorem qfr_S {c c' : Ch} {r i : Nat} {y : Int32} (h : qfr c c') (hr : scr r = true) : qfr c (cS c' r i y) := ⟨h.1, h.2.1, fun z hz => by rw [cS_n c' (fun e => by rw [e, hr] at hz; cases hz)]; exact h.2.2.1 z hz, h.2.2.2⟩
section QRY
variable {T : Nat} {h : Hp} {V : Nat → Cv} {c : Ch} {m : Mu} {x : Sp}
theorem RC_q {c' : Ch} (gC : RC T h V c x) (hf : qfr c c') (hT : ∃ a ch, CT h V c' a ch) : RC T h V c' x := by
  obtain ⟨k1, k3, k4, k5⟩ := hf
  obtain ⟨g1, -, g3⟩ := gC
  refine ⟨RS_kp g1 ⟨fun r hr => k1 r (fun q => by subst q; cases hr) (fun q => by subst q; cases hr) (fun q => by subst q; cases hr), by rw [k1 80 (by decide) (by decide) (by decide)], by rw [k3 80 (by decide)], k4 81 rfl, fun t => by rw [k5], by rw [k5]⟩, hT, SI_eq (k1 116 (by decide) (by decide) (by decide)) (by rw [k3 116 (by decide)]) (k4 117 rfl) (k4 118 rfl) (k4 119 rfl) (k4 120 rfl) g3⟩
theorem RC_tray2 {c' : Ch} {t : Nat} {o : Option (Nat × Nat × (Nat → Int64))} (ht : t < 4) (gC : RC T h V c x) (k1 : ∀ r, ¬ r = 108 → ¬ r = 114 → ¬ r = 115 → ¬ r = tadr t → c'.1 r = c.1 r) (k3 : ∀ r, ¬ r = 108 → c'.2.2.1 r = c.2.2.1 r) (k4 : ∀ r, scr r = false → c'.2.2.2.1 r = c.2.2.2.1 r) (k5 : ∀ r, ¬ r = tadr t + 1 → c'.2.2.2.2.1 r = c.2.2.2.2.1 r) (k6 : c'.2.2.2.2.2 = c.2.2.2.2.2) (ho : trC c' t o) (hT : ∃ a ch, CT h V c' a ch) : RC T h V c' (sR x t o) := by
  have tb := tadr_b (t := t)
  obtain ⟨⟨a1, a2, a3, a4, ⟨a5, nx, a5a, a5b, a5c⟩, a6, a7, a8, a9⟩, -, g3⟩ := gC
  have ks : ∀ j, c'.1 (sadr j) = c.1 (sadr j) := fun j => k1 _ (fun q => sadr_108 j q.symm) (by have := sadr_b j; omega) (by have := sadr_b j; omega) (sadr_tadr j t)
  refine ⟨⟨by rw [k1 80 (by omega) (by omega) (by omega) (by omega)]; exact a1, by rw [k4 81 rfl]; exact a2, by rw [k3 80 (by decide)]; exact a3, stc_eq (ks 0) a4, ⟨by rw [k1 93 (by omega) (by omega) (by omega) (by omega)]; exact a5, nx, a5a, by rw [k1 93 (by omega) (by omega) (by omega) (by omega)]; exact a5b, fun i hi => stc_eq (ks _) (a5c i hi)⟩, fun i hi => ?_, fun t' ht' => ?_, by rw [k1 82 (by omega) (by omega) (by omega) (by omega)]; exact a8, by rw [k1 82 (by omega) (by omega) (by omega) (by omega)]; exact a9⟩, hT, SI_eq (k1 116 (by omega) (by omega) (by omega) (by omega)) (by rw [k3 116 (by decide)]) (k4 117 rfl) (k4 118 rfl) (k4 119 rfl) (k4 120 rfl) g3⟩
  · have b := a6 i hi
    show imC h V c' i (zI x i)
    unfold imC at *
    cases hz : zI x i with
    | none => rw [hz] at b; simp only [k6]; exact b
    | some p =>
      rw [hz] at b
      obtain ⟨a, b1, b2, b3, b4⟩ := b
      exact ⟨a, by rw [k6]; exact b1, b2, b3, stc_eq (ks _) b4⟩
  · show trC c' t' (if t' = t then o else zR x t')
    by_cases e : t' = t
    · rw [if_pos e, e]; exact ho
    · rw [if_neg e]
      have b := a7 t' ht'
      obtain ⟨i1, i2⟩ := tadr_inj ht ht' e
      have tb' := tadr_b (t := t')
      unfold trC at *
      rw [k1 _ (by omega) (by omega) (by omega) i1, k5 _ i2]
      exact b
theorem cl_tuned (gC : RC T h V c x) (hw : WF x) : ∃ a c1, gX11_tuned h c = some c1 ∧ V a = zV x ∧ CT h V c1 a (zS x).2.1 ∧ qfr c c1 ∧ RC T h V c1 x ∧ c1.2.2.1 80 3 = some a ∧ stc c1 0 (zS x) ∧ CaveAt h a (zV x) := by
  obtain ⟨-, -, ⟨a, a3, a3b, a3c⟩, a4, -⟩ := gC.1
  obtain ⟨aa, ch, hT⟩ := gC.2.1
  have p10 := pow10_le hw.2.2.1.1
  have hch := hw.2.2.2.1.2.2.1
  obtain ⟨c1, e1, T1, k1, k2, k3, k4, k5⟩ := c_tune hT (a' := a) (ch' := (zS x).2.1) (by rw [a3b]; exact a3c) (by rw [a3b]; exact hw.2.2.1) (by omega)
  have hf : qfr c c1 := ⟨fun r q _ _ => k1 r q, k3, fun r hr => k4 r (scr_12 hr), k5⟩
  have R1 := RC_q gC hf ⟨a, _, T1⟩
  refine ⟨a, c1, ?_, a3b, T1, hf, R1, by rw [k3 80 (by decide)]; exact a3, stc_eq (k1 _ (by decide)) a4, a3c⟩
  unfold gX11_tuned
  simp (disch := omega) only [n_lit, n_of, n_o1, nI_add, pk_mul, nI_ltI, nI_leI, nI_eq, ↓lift_lt, ↓k_mt, ↓k_mp, if_true, if_false, Bool.false_eq_true, Nat.not_lt_zero, Nat.zero_le, Nat.reduceEqDiff, Nat.reduceLeDiff, Nat.reduceLT, a3, a4.2.1, e1]
theorem op_grown (x1 x2 x3 : Int32) (gC : RC T h V c x) (gM : RM m x) (hw : WF x) : OKs T h V (gX11_grown h c x1 x2 x3) (gX12_grown m x1 x2 x3) := by
  have i1 : ¬ (1 = 0) := by decide
  have hW := hw.2.2.1
  have hP := hW.1
  have hs := hw.2.2.2.1
  have q1 := hs.1
  have p16 := pow2_le hP
  have N := RD_now gM hw
  obtain ⟨-, -, ⟨a0, a3, -, a3c⟩, a4, -⟩ := gC.1
  unfold gX11_grown gX11_grown_27 gX11_grown_78 gX12_grown gX12_grown_38 gX12_grown_94
  by_cases hp : ∃ p, p < vP (zV x) ∧ x1 = nI p
  · obtain ⟨p, hp, rfl⟩ := hp
    have hp4 : p < 4 := by omega
    have y1 := c_pair_y hP a3 a3c hp
    have y2 := q_pair_y hP N.1.2.1 hp
    rcases ix_cases x2 5 (by decide) (by decide) with ⟨d, hd, rfl⟩ | ⟨n2, n2a⟩ | ⟨n2, n2a, n2b, n2c, n2d, n2e⟩
    · have hd4 : ¬ 4 < d := by omega
      by_cases hy : ∃ p, p < 2 ∧ x3 = nI p
      · obtain ⟨dry, hy, rfl⟩ := hy
        have v15 : (mI m 0 (nI 0)).2.1 1 (15 + p) = nI (dg (zS x).1 p) := N.2.1.1 p hp4
        have v19 : (mI m 0 (nI 0)).2.1 1 (19 + p) = nI (dg (zS x).2.1 p) := by rw [show 19 + p = 15 + (4 + p) by omega]; exact N.2.1.2.1 p hp4
        have hdg := dg_lt (zS x).1 p
        by_cases h0 : dg (zS x).1 p = 0
        · refine OK_no gC gM hw (nI 0) ?_ ?_
          · simp (disch := omega) only [n_lit, n_of, n_o1, nI_add, pk_mul, nI_ltI, nI_leI, nI_eq, ↓lift_lt, ↓k_mt, ↓k_mp, if_true, if_false, Bool.false_eq_true, Nat.not_lt_zero, Nat.zero_le, Nat.reduceEqDiff, Nat.reduceLeDiff, Nat.reduceLT, y1, i1, hd4, c_dry_y hy, a4.1, c_digit, h0]
          · simp (disch := omega) only [n_lit, n_of, n_o1, nI_add, pk_mul, nI_ltI, nI_leI, nI_eq, ↓lift_lt, ↓k_mt, ↓k_mp, if_true, if_false, Bool.false_eq_true, Nat.not_lt_zero, Nat.zero_le, Nat.reduceEqDiff, Nat.reduceLeDiff, Nat.reduceLT, n_litL, y2, i1, win_y, q_dry_y hy, mA_1, v15, h0]
        · obtain ⟨a, c1, e1, eV, T1, f1, R1, k80, s1, C1⟩ := cl_tuned gC hw
          have hm4 := mets_le (vP (zV x)) (zS x).1
          obtain ⟨c2, e2, T2, f2⟩ := c_growth (p := p) (drops := d) (gap := dg (zS x).1 p) (met := mets (vP (zV x)) (zS x).1) (dry := dry) T1 hp4 hd hdg (by omega) hy
          rw [eV] at e2
          have s31 : (zS x).1 < 2 ^ 31 := by omega
          have hb := metb_lt (vP (zV x)) (zS x).1
          obtain ⟨m1, em1, fm1⟩ := q_growsBy (m := mI m 0 (nI 0)) (gl := vg (zV x)) (ch := (zS x).2.1) (p := p) (drops := d) (gap := dg (zS x).1 p) (met := mets (vP (zV x)) (zS x).1) (dry := dry) N.1.2.2.2.2.2.1 (fun code hc => (hW.2.2.2.2.2.2.2.1 code hc).1) hy
          refine ⟨grw (vg (zV x)) (zS x).2.1 p d (dg (zS x).1 p) (mets (vP (zV x)) (zS x).1) dry, c2, m1, x, ?_, ?_, RC_T (by omega) (RC_q R1 (qfr_12 f2) ⟨a, _, T2⟩), RM_kp (RM_0 gM _) (kpM_fr fm1 rfl rfl rfl rfl rfl), hw⟩
          · simp (disch := omega) only [n_lit, n_of, n_o1, nI_add, pk_mul, nI_ltI, nI_leI, nI_eq, ↓lift_lt, ↓k_mt, ↓k_mp, if_true, if_false, Bool.false_eq_true, Nat.not_lt_zero, Nat.zero_le, Nat.reduceEqDiff, Nat.reduceLeDiff, Nat.reduceLT, y1, i1, hd4, c_dry_y hy, a4.1, c_digit, h0, e1, k80, cv_O C1, s1.1, c_metCount C1 hP s31, e2]
          · simp (disch := omega) only [n_lit, n_of, n_o1, nI_add, pk_mul, nI_ltI, nI_leI, nI_eq, ↓lift_lt, ↓k_mt, ↓k_mp, if_true, if_false, Bool.false_eq_true, Nat.not_lt_zero, Nat.zero_le, Nat.reduceEqDiff, Nat.reduceLeDiff, Nat.reduceLT, n_litL, y2, i1, win_y, q_dry_y hy, mA_1, v15, v19, h0, q_nowD N, q_metIn hP N.1.2.1 s31, q_bitsOf, bct_metb hP, em1]
      · refine OK_no gC gM hw (-nI 99000003) ?_ ?_
        · simp (disch := omega) only [n_lit, n_of, n_o1, nI_add, pk_mul, nI_ltI, nI_leI, nI_eq, ↓lift_lt, ↓k_mt, ↓k_mp, if_true, if_false, Bool.false_eq_true, Nat.not_lt_zero, Nat.zero_le, Nat.reduceEqDiff, Nat.reduceLeDiff, Nat.reduceLT, y1, i1, hd4, c_dry_n hy]
        · simp (disch := omega) only [n_lit, n_of, n_o1, nI_add, pk_mul, nI_ltI, nI_leI, nI_eq, ↓lift_lt, ↓k_mt, ↓k_mp, if_true, if_false, Bool.false_eq_true, Nat.not_lt_zero, Nat.zero_le, Nat.reduceEqDiff, Nat.reduceLeDiff, Nat.reduceLT, n_litL, y2, i1, win_y, q_dry_n hy]
    · have w := wi_n (u := 4) n2 (by decide) (by decide)
      refine OK_no gC gM hw (-nI 99000003) ?_ ?_
      · simp (disch := omega) only [n_lit, n_of, n_o1, nI_add, pk_mul, nI_ltI, nI_leI, nI_eq, ↓lift_lt, ↓k_mt, ↓k_mp, if_true, if_false, Bool.false_eq_true, Nat.not_lt_zero, Nat.zero_le, Nat.reduceEqDiff, Nat.reduceLeDiff, Nat.reduceLT, y1, i1, n2a]
      · simp (disch := omega) only [n_lit, n_of, n_o1, nI_add, pk_mul, nI_ltI, nI_leI, nI_eq, ↓lift_lt, ↓k_mt, ↓k_mp, if_true, if_false, Bool.false_eq_true, Nat.not_lt_zero, Nat.zero_le, Nat.reduceEqDiff, Nat.reduceLeDiff, Nat.reduceLT, n_litL, y2, i1, w]
    · have w := wi_n (u := 4) n2 (by decide) (by decide)
      have n2f : nI 4 < x2 := n2d
      refine OK_no gC gM hw (-nI 99000003) ?_ ?_
      · simp (disch := omega) only [n_lit, n_of, n_o1, nI_add, pk_mul, nI_ltI, nI_leI, nI_eq, ↓lift_lt, ↓k_mt, ↓k_mp, if_true, if_false, Bool.false_eq_true, Nat.not_lt_zero, Nat.zero_le, Nat.reduceEqDiff, Nat.reduceLeDiff, Nat.reduceLT, y1, i1, n2a, n2f]
      · simp (disch := omega) only [n_lit, n_of, n_o1, nI_add, pk_mul, nI_ltI, nI_leI, nI_eq, ↓lift_lt, ↓k_mt, ↓k_mp, if_true, if_false, Bool.false_eq_true, Nat.not_lt_zero, Nat.zero_le, Nat.reduceEqDiff, Nat.reduceLeDiff, Nat.reduceLT, n_litL, y2, i1, w]
  · refine OK_no gC gM hw (-nI 99000002) ?_ ?_
    · simp (disch := omega) only [n_lit, n_of, n_o1, nI_add, pk_mul, nI_ltI, nI_leI, nI_eq, ↓lift_lt, ↓k_mt, ↓k_mp, if_true, if_false, Bool.false_eq_true, Nat.not_lt_zero, Nat.zero_le, Nat.reduceEqDiff, Nat.reduceLeDiff, Nat.reduceLT, c_pair_n hP a3 a3c hp]
    · simp (disch := omega) only [n_lit, n_of, n_o1, nI_add, pk_mul, nI_ltI, nI_leI, nI_eq, ↓lift_lt, ↓k_mt, ↓k_mp, if_true, if_false, Bool.false_eq_true, Nat.not_lt_zero, Nat.zero_le, Nat.reduceEqDiff, Nat.reduceLeDiff, Nat.reduceLT, q_pair_n hP N.1.2.1 hp]
end QRY
/-! years as it is led -/
def itr (F : Nat → Nat) (s : Nat) : Nat → Nat
  | 0 => s
  | n + 1 => F (itr F s n)
theorem itr_ok {v : Cv} (hP : vP v ≤ 4) {s : Nat} (hs : s < 20000) (hm : s % 10000 < 10 ^ vP v) (ch l : Nat) : ∀ n, itr (fun s => Yr v ch s l 0) s n < 20000 ∧ itr (fun s => Yr v ch s l 0) s n % 10000 < 10 ^ vP v
  | 0 => ⟨hs, hm⟩
  | n + 1 => Yr_ok hP (itr_ok hP hs hm ch l n).1 (itr_ok hP hs hm ch l n).2 ch l 0
theorem cut_small : ∀ so : Fin 4, ∀ d : Fin 10, cutS so.1 (lN d.1) = lN d.1 := by decide
section LISTS
variable {T : Nat} {h : Hp} {V : Nat → Cv} {c : Ch} {m : Mu} {x : Sp}
theorem op_lists (x1 x2 : Int32) (gC : RC T h V c x) (gM : RM m x) (hw : WF x) : OKs T h V (gX11_lists h c x1 x2) (gX12_lists m x1 x2) := by
  have i1 : ¬ (1 = 0) := by decide
  have hW := hw.2.2.1
  have hP := hW.1
  have hs := hw.2.2.2.1
  have p5 := pow5_le hP
  have hl : (zS x).2.2.1 < 2 ^ 31 := by have := hs.2.2.2.1; omega
  have N := RD_now gM hw
  obtain ⟨-, -, ⟨a0, a3, -, a3c⟩, a4, -⟩ := gC.1
  unfold gX11_lists gX11_lists_15 gX12_lists gX12_lists_26
  by_cases h1 : ∃ p, p < 4 ∧ x1 = nI p
  · obtain ⟨t, ht, rfl⟩ := h1
    have y1 := c_tray_y ht
    have cl : (nI t).toNatClampNeg = t := nI_clamp (by omega)
    have ib : inB (nI t) 4 = true := inB_nI ht (by decide)
    by_cases hp : ∃ p, p < vP (zV x) ∧ x2 = nI p
    · obtain ⟨p, hp, rfl⟩ := hp
      have hp4 : p < 4 := by omega
      have y2 := c_pair_y hP a3 a3c hp
      have y3 := q_pair_y hP N.1.2.1 hp
      have hc := gC.1.2.2.2.2.2.2.1 t ht
      have hm := (RM_0 gM (nI 0)).2.2.2.2.2.2.2.1 t ht
      have ho := hw.2.2.2.2.2.2.2 t
      unfold trC at hc
      unfold trR at hm
      unfold trOK at ho
      cases hz : zR x t with
      | none =>
        rw [hz] at hc hm
        have hc : c.1 (tadr t) 2 = nI 1 := hc
        have j1 : ¬ (-nI 6 = nI 0) := by decide
        refine OK_no gC gM hw (-nI 6) ?_ ?_
        · simp (disch := omega) only [n_lit, n_of, n_o1, nI_add, pk_mul, nI_ltI, nI_leI, nI_eq, ↓lift_lt, ↓k_mt, ↓k_mp, if_true, if_false, Bool.false_eq_true, Nat.not_lt_zero, Nat.zero_le, Nat.reduceEqDiff, Nat.reduceLeDiff, Nat.reduceLT, n_litL, y1, i1, y2, ib, iff_t, cl, hc]
        · simp (disch := omega) only [n_lit, n_of, n_o1, nI_add, pk_mul, nI_ltI, nI_leI, nI_eq, ↓lift_lt, ↓k_mt, ↓k_mp, if_true, if_false, Bool.false_eq_true, Nat.not_lt_zero, Nat.zero_le, Nat.reduceEqDiff, Nat.reduceLeDiff, Nat.reduceLT, n_litL, win_y, i1, y3, q_noTray_0 ht hm, j1]
      | some pp =>
        obtain ⟨so, n, w⟩ := pp
        rw [hz] at hc hm ho
        obtain ⟨c2, c1', c3, cw⟩ := hc
        obtain ⟨mso, mn, mw⟩ := hm
        obtain ⟨hso, hn⟩ := ho
        have tb := tadr_b (t := t)
        obtain ⟨a, c1, e1, eV, T1, f1, R1, k80, s1, C1⟩ := cl_tuned gC hw
        obtain ⟨F, hF⟩ : ∃ F : Nat → Nat, F = fun s => Yr (zV x) (zS x).2.1 s (zS x).2.2.1 0 := ⟨_, rfl⟩
        have ok : ∀ k, itr F (zS x).1 k < 20000 := fun k => by rw [hF]; exact (itr_ok hP hs.1 hs.2.1 _ _ k).1
        have ft : c1.1 (tadr t) = c.1 (tadr t) := f1.1 _ (by omega) (by omega) (by omega)
        -- the class
        have LC : ∃ c', gX11_lists_52 h c1 (nI p) t (nI (zS x).1) (nI 0) = some (nI n, c') ∧ (∀ r, ¬ r = 108 → ¬ r = 114 → ¬ r = 115 → c'.1 r = c1.1 r) ∧ (∀ r, ¬ r = 108 → c'.2.2.1 r = c1.2.2.1 r) ∧ (∀ r, scr r = false → c'.2.2.2.1 r = c1.2.2.2.1 r) ∧ (∀ r, ¬ r = tadr t + 1 → c'.2.2.2.2.1 r = c1.2.2.2.2.1 r) ∧ c'.2.2.2.2.2 = c1.2.2.2.2.2 ∧ CT h V c' a (zS x).2.1 ∧ ∀ i, i < n → c'.2.2.2.2.1 (tadr t + 1) i = lN (dg (itr F (zS x).1 (i + 1)) p) := by
          unfold gX11_lists_52
          have K := lpw_all (body := fun q : Int32 × Int32 × Ch => gX11_lists_52b h q.2.2 (nI p) t q.1 q.2.1)
            (fun k q => q.1 = nI (itr F (zS x).1 k) ∧ q.2.1 = nI k ∧ (∀ r, ¬ r = 108 → ¬ r = 114 → ¬ r = 115 → q.2.2.1 r = c1.1 r) ∧ (∀ r, ¬ r = 108 → q.2.2.2.2.1 r = c1.2.2.1 r) ∧ (∀ r, scr r = false → q.2.2.2.2.2.1 r = c1.2.2.2.1 r) ∧ (∀ r, ¬ r = tadr t + 1 → q.2.2.2.2.2.2.1 r = c1.2.2.2.2.1 r) ∧ q.2.2.2.2.2.2.2 = c1.2.2.2.2.2 ∧ CT h V q.2.2 a (zS x).2.1 ∧ ∀ i, i < k → q.2.2.2.2.2.2.1 (tadr t + 1) i = lN (dg (itr F (zS x).1 (i + 1)) p))
            (fun r => r.1 = nI n ∧ (∀ z, ¬ z = 108 → ¬ z = 114 → ¬ z = 115 → r.2.1 z = c1.1 z) ∧ (∀ z, ¬ z = 108 → r.2.2.2.1 z = c1.2.2.1 z) ∧ (∀ z, scr z = false → r.2.2.2.2.1 z = c1.2.2.2.1 z) ∧ (∀ z, ¬ z = tadr t + 1 → r.2.2.2.2.2.1 z = c1.2.2.2.2.1 z) ∧ r.2.2.2.2.2.2 = c1.2.2.2.2.2 ∧ CT h V r.2 a (zS x).2.1 ∧ ∀ i, i < n → r.2.2.2.2.2.1 (tadr t + 1) i = lN (dg (itr F (zS x).1 (i + 1)) p)) n ?_ ?_ (nI (zS x).1, nI 0, c1) ⟨rfl, rfl, fun _ _ _ _ => rfl, fun _ _ => rfl, fun _ _ => rfl, fun _ _ => rfl, rfl, T1, fun i hi => by omega⟩
          · obtain ⟨r, e, ee, rest⟩ := K
            exact ⟨r.2, by rw [e]; exact congrArg some (Prod.ext ee rfl), rest⟩
          · intro k q hk ⟨g1, g2, g3, g4, g5, g6, g7, g8, g9⟩
            have kn : ¬ n ≤ k := by omega
            have h3 : q.2.2.1 (tadr t) 3 = nI n := by rw [g3 _ (by omega) (by omega) (by omega), ft]; exact c3
            have h1' : q.2.2.1 (tadr t) 1 = nI so := by rw [g3 _ (by omega) (by omega) (by omega), ft]; exact c1'
            have hl2 : q.2.2.1 (sadr 0) 2 = nI (zS x).2.2.1 := by rw [g3 _ (by decide) (by decide) (by decide)]; exact s1.2.2.1
            obtain ⟨d1, ed, Td, fd⟩ := c_after (s := itr F (zS x).1 k) (l := (zS x).2.2.1) (dry := 0) g8 (ok k) hl (by decide)
            rw [eV] at ed
            have eY : Yr (zV x) (zS x).2.1 (itr F (zS x).1 k) (zS x).2.2.1 0 = itr F (zS x).1 (k + 1) := by rw [hF]; rfl
            rw [eY] at ed
            have ok1 := ok (k + 1)
            have hdg := dg_lt (itr F (zS x).1 (k + 1)) p
            have h3' : d1.1 (tadr t) 3 = nI n := by rw [fd.1]; exact h3
            have cut1 : gX9_cut h d1 t (nI (dg (itr F (zS x).1 (k + 1)) p)).toInt64 = some (lN (dg (itr F (zS x).1 (k + 1)) p)) := by
              rw [nI_l (by omega)]
              have cs := cut_small ⟨so, hso⟩ ⟨_, hdg⟩
              simp only at cs
              unfold gX9_cut
              rw [fd.1, h1']
              unfold cutS at cs
              have hcc : so = 0 ∨ so = 1 ∨ so = 2 ∨ so = 3 := by omega
              rcases hcc with e | e | e | e <;> subst e
              · exact congrArg some cs
              · exact congrArg some cs
              · exact congrArg some cs
              · rfl
            show ∃ s', gX11_lists_52b h q.2.2 (nI p) t q.1 q.2.1 = some (.inl s') ∧ _
            rw [g1, g2]
            unfold gX11_lists_52b gX9_put gX9_put_23
            simp (disch := omega) only [n_lit, n_of, n_o1, nI_add, pk_mul, nI_ltI, nI_leI, nI_eq, ↓lift_lt, ↓k_mt, ↓k_mp, if_true, if_false, Bool.false_eq_true, Nat.not_lt_zero, Nat.zero_le, Nat.reduceEqDiff, Nat.reduceLeDiff, Nat.reduceLT, h3, kn, hl2, ed, c_digit, h3', cut1, cWL_g]
            refine ⟨_, rfl, rfl, rfl, fun r q1 q2 q3 => by show d1.1 r = _; rw [fd.1]; exact g3 r q1 q2 q3, fun r q1 => by show d1.2.2.1 r = _; rw [fd.2.2.1]; exact g4 r q1, fun r q1 => by show d1.2.2.2.1 r = _; rw [fd.2.2.2.1 r (scr_12 q1)]; exact g5 r q1, fun r q1 => ?_, by show d1.2.2.2.2.2 = _; rw [fd.2.2.2.2]; exact g7, Td, fun i hi => ?_⟩
            · show u2 d1.2.2.2.2.1 (tadr t + 1) k _ r = _
              rw [u2_ne _ _ q1, fd.2.2.2.2]; exact g6 r q1
            · rw [cSJ_5, if_pos rfl]
              by_cases z : i = k
              · rw [if_pos z, z]
              · rw [if_neg z, fd.2.2.2.2]; exact g9 i (by omega)
          · intro q ⟨g1, g2, g3, g4, g5, g6, g7, g8, g9⟩
            have h3 : q.2.2.1 (tadr t) 3 = nI n := by rw [g3 _ (by omega) (by omega) (by omega), ft]; exact c3
            show ∃ r, gX11_lists_52b h q.2.2 (nI p) t q.1 q.2.1 = some (.inr r) ∧ _
            rw [g1, g2]
            unfold gX11_lists_52b
            simp (disch := omega) only [n_lit, n_of, n_o1, nI_add, pk_mul, nI_ltI, nI_leI, nI_eq, ↓lift_lt, ↓k_mt, ↓k_mp, if_true, if_false, Bool.false_eq_true, Nat.not_lt_zero, Nat.zero_le, Nat.reduceEqDiff, Nat.reduceLeDiff, Nat.reduceLT, h3, Nat.le_refl]
            exact ⟨_, rfl, rfl, g3, g4, g5, g6, g7, g8, g9⟩
        obtain ⟨c', ec, l1, l2, l3, l4, l5, l6, l7⟩ := LC
        -- the reference
        have LM : ∃ m', gX12_lists_50 (mI m 0 (nI 0)) (nI t) (nI p) (nI (zS x).1) (nI 0) = some (nI n, m') ∧ m'.1 = (mI m 0 (nI 0)).1 ∧ (∀ r, ¬ r = 5 → ¬ r = 6 → m'.2.1 r = m.2.1 r) ∧ ∀ j, m'.2.2 23 j = if 40 * t ≤ j ∧ j < 40 * t + n then lN (dg (itr F (zS x).1 (j - 40 * t + 1)) p) else m.2.2 23 j := by
          unfold gX12_lists_50
          have K := lpw_all (body := fun q : Int32 × Int32 × Mu => gX12_lists_50b q.2.2 (nI t) (nI p) q.1 q.2.1)
            (fun k q => q.1 = nI (itr F (zS x).1 k) ∧ q.2.1 = nI k ∧ q.2.2.1 = (mI m 0 (nI 0)).1 ∧ (∀ r, ¬ r = 5 → ¬ r = 6 → q.2.2.2.1 r = m.2.1 r) ∧ ∀ j, q.2.2.2.2 23 j = if 40 * t ≤ j ∧ j < 40 * t + k then lN (dg (itr F (zS x).1 (j - 40 * t + 1)) p) else m.2.2 23 j)
            (fun r => r.1 = nI n ∧ r.2.1 = (mI m 0 (nI 0)).1 ∧ (∀ z, ¬ z = 5 → ¬ z = 6 → r.2.2.1 z = m.2.1 z) ∧ ∀ j, r.2.2.2 23 j = if 40 * t ≤ j ∧ j < 40 * t + n then lN (dg (itr F (zS x).1 (j - 40 * t + 1)) p) else m.2.2 23 j) n ?_ ?_ (nI (zS x).1, nI 0, mI m 0 (nI 0)) ⟨rfl, rfl, rfl, fun _ _ _ => rfl, fun j => by rw [if_neg (by omega)]; rfl⟩
          · obtain ⟨r, e, ee, rest⟩ := K
            exact ⟨r.2, by rw [e]; exact congrArg some (Prod.ext ee rfl), rest⟩
          · intro k q hk ⟨g1, g2, g3, g4, g5⟩
            have kn : ¬ n ≤ k := by omega
            have R1' : q.2.2.2.1 1 = m.2.1 1 := g4 1 (by decide) (by decide)
            have n22 : q.2.2.2.1 22 t = nI n := by rw [g4 22 (by decide) (by decide)]; exact mn
            have m23 : q.2.2.2.1 1 23 = nI (zS x).2.2.1 := by rw [R1']; exact N.2.1.2.2.1
            obtain ⟨m1, em1, fm1⟩ := q_yearTo (m := q.2.2) (v := zV x) (ch := (zS x).2.1) (s := itr F (zS x).1 k) (l := (zS x).2.2.1) (dry := 0) hW (by rw [R1']; exact N.1) (fun p hp => by rw [R1', show 19 + p = 15 + (4 + p) by omega]; exact N.2.1.2.1 p hp) (ok k) hl (by decide)
            have eY : Yr (zV x) (zS x).2.1 (itr F (zS x).1 k) (zS x).2.2.1 0 = itr F (zS x).1 (k + 1) := by rw [hF]; rfl
            rw [eY] at em1
            have ok1 := ok (k + 1)
            have hdg := dg_lt (itr F (zS x).1 (k + 1)) p
            show ∃ s', gX12_lists_50b q.2.2 (nI t) (nI p) q.1 q.2.1 = some (.inl s') ∧ _
            rw [g1, g2]
            unfold gX12_lists_50b
            simp (disch := omega) only [n_lit, n_of, n_o1, nI_add, pk_mul, nI_ltI, nI_leI, nI_eq, ↓lift_lt, ↓k_mt, ↓k_mp, if_true, if_false, Bool.false_eq_true, Nat.not_lt_zero, Nat.zero_le, Nat.reduceEqDiff, Nat.reduceLeDiff, Nat.reduceLT, mA_22, n22, kn, mA_1, m23, em1, q_gapIn, nI_l, mWJ_23]
            refine ⟨_, rfl, rfl, rfl, by show m1.1 = _; rw [fm1.1]; exact g3, fun r q1 q2 => ?_, fun j => ?_⟩
            · show m1.2.1 r = _
              rw [fm1.2.2 r (by unfold Ar56; simp [q1, q2])]; exact g4 r q1 q2
            · rw [mSJ_j, if_pos rfl]
              by_cases z : j = 40 * t + k
              · rw [if_pos z, if_pos (by omega), z, show 40 * t + k - 40 * t + 1 = k + 1 by omega]
              · rw [if_neg z, fm1.2.1, g5 j]
                by_cases z2 : 40 * t ≤ j ∧ j < 40 * t + k
                · rw [if_pos z2, if_pos (by omega)]
                · rw [if_neg z2, if_neg (by omega)]
          · intro q ⟨g1, g2, g3, g4, g5⟩
            have n22 : q.2.2.2.1 22 t = nI n := by rw [g4 22 (by decide) (by decide)]; exact mn
            show ∃ r, gX12_lists_50b q.2.2 (nI t) (nI p) q.1 q.2.1 = some (.inr r) ∧ _
            rw [g1, g2]
            unfold gX12_lists_50b
            simp (disch := omega) only [n_lit, n_of, n_o1, nI_add, pk_mul, nI_ltI, nI_leI, nI_eq, ↓lift_lt, ↓k_mt, ↓k_mp, if_true, if_false, Bool.false_eq_true, Nat.not_lt_zero, Nat.zero_le, Nat.reduceEqDiff, Nat.reduceLeDiff, Nat.reduceLT, mA_22, n22, Nat.le_refl]
            exact ⟨_, rfl, rfl, g3, g4, g5⟩
        obtain ⟨m', em, f1', f2', f3'⟩ := LM
        refine ⟨nI n, c', m', sR x t (some (so, n, fun i => lN (dg (itr F (zS x).1 (i + 1)) p))), ?_, ?_, RC_T (by omega) (RC_tray2 ht R1 (fun r q1 q2 q3 _ => l1 r q1 q2 q3) l2 l3 l4 l5 ⟨?_, ?_, ?_, l7⟩ ⟨a, _, l6⟩), RM_tray gM (f2' 1 (by decide) (by decide)) (f2' 2 (by decide) (by decide)) (f2' 3 (by decide) (by decide)) (by rw [f1']; rfl) (by rw [f1']; rfl) (by rw [f1']; rfl) ⟨by rw [f2' 21 (by decide) (by decide)]; exact mso, by rw [f2' 22 (by decide) (by decide)]; exact mn, fun i hi => ?_⟩ (fun t' ht' e => ⟨by rw [f2' 21 (by decide) (by decide)], by rw [f2' 22 (by decide) (by decide)], fun i hi => ?_⟩) hw, WF_R hw ⟨hso, hn⟩⟩
        · simp (disch := omega) only [n_lit, n_of, n_o1, nI_add, pk_mul, nI_ltI, nI_leI, nI_eq, ↓lift_lt, ↓k_mt, ↓k_mp, if_true, if_false, Bool.false_eq_true, Nat.not_lt_zero, Nat.zero_le, Nat.reduceEqDiff, Nat.reduceLeDiff, Nat.reduceLT, n_litL, y1, i1, y2, ib, iff_t, cl, c2, e1, s1.1, ec]
        · simp (disch := omega) only [n_lit, n_of, n_o1, nI_add, pk_mul, nI_ltI, nI_leI, nI_eq, ↓lift_lt, ↓k_mt, ↓k_mp, if_true, if_false, Bool.false_eq_true, Nat.not_lt_zero, Nat.zero_le, Nat.reduceEqDiff, Nat.reduceLeDiff, Nat.reduceLT, n_litL, win_y, i1, y3, q_noTray_1 ht hso mso, q_nowD N, em]
        · rw [l1 _ (by omega) (by omega) (by omega), ft]; exact c2
        · rw [l1 _ (by omega) (by omega) (by omega), ft]; exact c1'
        · rw [l1 _ (by omega) (by omega) (by omega), ft]; exact c3
        · rw [f3', if_pos (by omega), show 40 * t + i - 40 * t + 1 = i + 1 by omega]
        · rw [f3', if_neg (by omega)]
    · have y2 := c_pair_n hP a3 a3c hp
      have y3 := q_pair_n hP N.1.2.1 hp
      refine OK_no gC gM hw (-nI 2) ?_ ?_
      · simp (disch := omega) only [n_lit, n_of, n_o1, nI_add, pk_mul, nI_ltI, nI_leI, nI_eq, ↓lift_lt, ↓k_mt, ↓k_mp, if_true, if_false, Bool.false_eq_true, Nat.not_lt_zero, Nat.zero_le, Nat.reduceEqDiff, Nat.reduceLeDiff, Nat.reduceLT, n_litL, y1, i1, y2]
      · simp (disch := omega) only [n_lit, n_of, n_o1, nI_add, pk_mul, nI_ltI, nI_leI, nI_eq, ↓lift_lt, ↓k_mt, ↓k_mp, if_true, if_false, Bool.false_eq_true, Nat.not_lt_zero, Nat.zero_le, Nat.reduceEqDiff, Nat.reduceLeDiff, Nat.reduceLT, n_litL, win_y, i1, y3]
  · have y1 := c_tray_n h1
    have w := wi_n (u := 3) h1 (by decide) (by decide)
    refine OK_no gC gM hw (-nI 2) ?_ ?_
    · simp (disch := omega) only [n_lit, n_of, n_o1, nI_add, pk_mul, nI_ltI, nI_leI, nI_eq, ↓lift_lt, ↓k_mt, ↓k_mp, if_true, if_false, Bool.false_eq_true, Nat.not_lt_zero, Nat.zero_le, Nat.reduceEqDiff, Nat.reduceLeDiff, Nat.reduceLT, n_litL, y1]
    · simp (disch := omega) only [n_lit, n_of, n_o1, nI_add, pk_mul, nI_ltI, nI_leI, nI_eq, ↓lift_lt, ↓k_mt, ↓k_mp, if_true, if_false, Bool.false_eq_true, Nat.not_lt_zero, Nat.zero_le, Nat.reduceEqDiff, Nat.reduceLeDiff, Nat.reduceLT, n_litL, w]
end LISTS
