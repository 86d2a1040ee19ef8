/-! what was seen: rows of dry years that bring it -/
noncomputable def ib (P : Prop) : Nat := @ite Nat P (Classical.propDecidable P) 1 0
theorem ib_t {P : Prop} (h : P) : ib P = 1 := if_pos h
theorem ib_f {P : Prop} (h : ¬ P) : ib P = 0 := if_neg h
theorem ib_b (P : Prop) : ib P ≤ 1 := by
  by_cases h : P
  · rw [ib_t h]; exact Nat.le_refl 1
  · rw [ib_f h]; exact Nat.zero_le 1
def gdz (z : Int64) : Prop := -lN 1 ≤ z ∧ z ≤ lN 9
theorem q_gd (z : Int64) : (gdz z ∧ gX12_within z (-lN 1) (lN 9) = some (nI 1)) ∨ (¬ gdz z ∧ gX12_within z (-lN 1) (lN 9) = some (nI 0)) := by
  rw [q_within]
  by_cases h : -lN 1 ≤ z ∧ z ≤ lN 9
  · exact Or.inl ⟨h, by rw [if_pos h]⟩
  · exact Or.inr ⟨h, by rw [if_neg h]⟩
/-- what a year must bring -/
def fit (w : Nat → Int64) (p i t : Nat) : Prop := w i = -lN 1 ∨ w i = lN (dg t p)
def wk (Y : Nat → Nat → Nat) (n s0 R : Nat) : Nat → Nat
  | 0 => s0
  | i + 1 => Y (wk Y n s0 R i) (R / 2 ^ (n - 1 - i) % 2)
def SN (Y : Nat → Nat → Nat) (w : Nat → Int64) (p n s0 R : Nat) : Prop := ∀ i, i < n → fit w p i (wk Y n s0 R (i + 1))
theorem wk_lt {Y : Nat → Nat → Nat} (hY : ∀ s b, s < 20000 → Y s b < 20000) {n s0 R : Nat} (hs : s0 < 20000) : ∀ i, wk Y n s0 R i < 20000
  | 0 => hs
  | i + 1 => hY _ _ (wk_lt hY hs i)
theorem pow2_10 {n : Nat} (h : n ≤ 10) : 2 ^ n ≤ 1024 := Nat.pow_le_pow_right (n := 2) (by decide) h
section SEENNO
variable {T : Nat} {h : Hp} {V : Nat → Cv} {c : Ch} {m : Mu} {x : Sp}
theorem seen_no (x1 x2 : Int32) (gC : RC T h V c x) (gM : RM m x) (hw : WF x) :
    (∃ e, ¬ e = nI 0 ∧ gX11_seenRefusal h c x1 x2 = some e ∧ gX12_noSeen (mI m 0 (nI 0)) x1 x2 = some e) ∨
    (∃ t p so n w, t < 4 ∧ p < vP (zV x) ∧ x1 = nI t ∧ x2 = nI p ∧ zR x t = some (so, n, w) ∧ 1 ≤ n ∧ n ≤ 10 ∧ gX11_seenRefusal h c x1 x2 = some (nI 0) ∧ gX12_noSeen (mI m 0 (nI 0)) x1 x2 = some (nI 0)) := by
  have i1 : ¬ (1 = 0) := by decide
  have j2 : ¬ (-nI 2 = nI 0) := by decide
  have j3 : ¬ (-nI 3 = nI 0) := by decide
  have j4 : ¬ (-nI 4 = nI 0) := by decide
  have j6 : ¬ (-nI 6 = nI 0) := by decide
  have hP := hw.2.2.1.1
  have N := RD_now gM hw
  obtain ⟨-, -, ⟨a0, a3, -, a3c⟩, a4, -⟩ := gC.1
  unfold gX11_seenRefusal gX11_seenRefusal_15 gX11_seenRefusal_52 gX12_noSeen gX12_noSeen_21
  by_cases h1 : ∃ p, p < 4 ∧ x1 = nI p
  · obtain ⟨t, ht, rfl⟩ := h1
    have y1 := c_tray_y ht
    have cl : (nI t).toNatClampNeg = t := nI_clamp (by omega)
    have ib : inB (nI t) 4 = true := inB_nI ht (by decide)
    by_cases hp : ∃ p, p < vP (zV x) ∧ x2 = nI p
    · obtain ⟨p, hp, rfl⟩ := hp
      have y2 := c_pair_y hP a3 a3c hp
      have y3 := q_pair_y hP N.1.2.1 hp
      have hc := gC.1.2.2.2.2.2.2.1 t ht
      have hm := (RM_0 gM (nI 0)).2.2.2.2.2.2.2.1 t ht
      have ho := hw.2.2.2.2.2.2.2 t
      unfold trC at hc
      unfold trR at hm
      unfold trOK at ho
      cases hz : zR x t with
      | none =>
        rw [hz] at hc hm
        have hc : c.1 (tadr t) 2 = nI 1 := hc
        refine Or.inl ⟨-nI 6, j6, ?_, ?_⟩
        · simp (disch := omega) only [n_lit, n_of, n_o1, nI_add, pk_mul, nI_ltI, nI_leI, nI_eq, ↓lift_lt, ↓k_mt, ↓k_mp, if_true, if_false, Bool.false_eq_true, Nat.not_lt_zero, Nat.zero_le, Nat.reduceEqDiff, Nat.reduceLeDiff, Nat.reduceLT, y1, i1, y2, ib, iff_t, cl, hc]
        · simp (disch := omega) only [n_lit, n_of, n_o1, nI_add, pk_mul, nI_ltI, nI_leI, nI_eq, ↓lift_lt, ↓k_mt, ↓k_mp, if_true, if_false, Bool.false_eq_true, Nat.not_lt_zero, Nat.zero_le, Nat.reduceEqDiff, Nat.reduceLeDiff, Nat.reduceLT, n_litL, win_y, i1, y3, q_noTray_0 ht hm, j6]
      | some pp =>
        obtain ⟨so, n, w⟩ := pp
        rw [hz] at hc hm ho
        obtain ⟨c2, c1', c3, cw⟩ := hc
        obtain ⟨mso, mn, mw⟩ := hm
        obtain ⟨hso, hn⟩ := ho
        have nt := q_noTray_1 ht hso mso
        by_cases hn1 : 1 ≤ n ∧ n ≤ 10
        · have LC : ∃ r, gX11_seenRefusal_58 h c t (nI 0) = some r ∧ ((r = nI 0 ∧ ∀ i, i < n → gdz (w i)) ∨ (r = -nI 3 ∧ ∃ i, i < n ∧ ¬ gdz (w i))) := by
            unfold gX11_seenRefusal_58
            refine lpw_inv (body := fun q : Int32 => gX11_seenRefusal_58b h c t q) (fun k q => q = nI k ∧ ∀ i, i < k → gdz (w i)) _ n ?_ ?_ (nI 0) ⟨rfl, fun i hi => by omega⟩
            · rintro k q hk ⟨g1, g2⟩
              subst g1
              have k1 : ¬ n ≤ k := by omega
              have ea := c_at (h := h) c3 hn cw hk
              unfold gX11_seenRefusal_58b gX11_seenRefusal_93
              by_cases z : gdz (w k)
              · have z1 : ¬ lg_cmp (w k) (-lN 1) < nI 0 := fun q => Int64.not_lt.mpr z.1 ((lg_l' _ _).mp q)
                have z2 : lg_cmp (w k) (lN 9) ≤ nI 0 := (lg_le' _ _).mpr z.2
                refine Or.inl ⟨nI (k + 1), ?_, rfl, fun i hi => ?_⟩
                · simp (disch := omega) only [n_lit, n_of, n_o1, nI_add, pk_mul, nI_ltI, nI_leI, nI_eq, ↓lift_lt, ↓k_mt, ↓k_mp, if_true, if_false, Bool.false_eq_true, Nat.not_lt_zero, Nat.zero_le, Nat.reduceEqDiff, Nat.reduceLeDiff, Nat.reduceLT, n_litL, c3, k1, ea, z1, z2]
                · by_cases e : i = k
                  · rw [e]; exact z
                  · exact g2 i (by omega)
              · refine Or.inr ⟨-nI 3, ?_, Or.inr ⟨rfl, k, hk, z⟩⟩
                by_cases z1 : lg_cmp (w k) (-lN 1) < nI 0
                · simp (disch := omega) only [n_lit, n_of, n_o1, nI_add, pk_mul, nI_ltI, nI_leI, nI_eq, ↓lift_lt, ↓k_mt, ↓k_mp, if_true, if_false, Bool.false_eq_true, Nat.not_lt_zero, Nat.zero_le, Nat.reduceEqDiff, Nat.reduceLeDiff, Nat.reduceLT, n_litL, c3, k1, ea, z1, Option.map_some]
                · have z2 : ¬ lg_cmp (w k) (lN 9) ≤ nI 0 := fun q => z ⟨Int64.not_lt.mp (fun r => z1 ((lg_l' _ _).mpr r)), (lg_le' _ _).mp q⟩
                  simp (disch := omega) only [n_lit, n_of, n_o1, nI_add, pk_mul, nI_ltI, nI_leI, nI_eq, ↓lift_lt, ↓k_mt, ↓k_mp, if_true, if_false, Bool.false_eq_true, Nat.not_lt_zero, Nat.zero_le, Nat.reduceEqDiff, Nat.reduceLeDiff, Nat.reduceLT, n_litL, c3, k1, ea, z1, z2, Option.map_some]
            · rintro q ⟨g1, g2⟩
              subst g1
              refine ⟨nI 0, ?_, Or.inl ⟨rfl, g2⟩⟩
              unfold gX11_seenRefusal_58b
              simp (disch := omega) only [n_lit, n_of, n_o1, nI_add, pk_mul, nI_ltI, nI_leI, nI_eq, ↓lift_lt, ↓k_mt, ↓k_mp, if_true, if_false, Bool.false_eq_true, Nat.not_lt_zero, Nat.zero_le, Nat.reduceEqDiff, Nat.reduceLeDiff, Nat.reduceLT, c3, Nat.le_refl]
          have LM : ∃ r, gX12_noSeen_59 (mI m 0 (nI 0)) (nI t) (nI 0) = some r ∧ ((r = nI 0 ∧ ∀ i, i < n → gdz (w i)) ∨ (r = -nI 3 ∧ ∃ i, i < n ∧ ¬ gdz (w i))) := by
            unfold gX12_noSeen_59
            refine lpw_inv (body := fun q : Int32 => gX12_noSeen_59b (mI m 0 (nI 0)) (nI t) q) (fun k q => q = nI k ∧ ∀ i, i < k → gdz (w i)) _ n ?_ ?_ (nI 0) ⟨rfl, fun i hi => by omega⟩
            · rintro k q hk ⟨g1, g2⟩
              subst g1
              have k1 : ¬ n ≤ k := by omega
              have ea := mw k hk
              unfold gX12_noSeen_59b
              rcases q_gd (w k) with ⟨z, e⟩ | ⟨z, e⟩
              · refine Or.inl ⟨nI (k + 1), ?_, rfl, fun i hi => ?_⟩
                · simp (disch := omega) only [n_lit, n_of, n_o1, nI_add, pk_mul, nI_ltI, nI_leI, nI_eq, ↓lift_lt, ↓k_mt, ↓k_mp, if_true, if_false, Bool.false_eq_true, Nat.not_lt_zero, Nat.zero_le, Nat.reduceEqDiff, Nat.reduceLeDiff, Nat.reduceLT, n_litL, mA_22, mn, k1, mJ_23, ea, e, i1]
                · by_cases e : i = k
                  · rw [e]; exact z
                  · exact g2 i (by omega)
              · refine Or.inr ⟨-nI 3, ?_, Or.inr ⟨rfl, k, hk, z⟩⟩
                simp (disch := omega) only [n_lit, n_of, n_o1, nI_add, pk_mul, nI_ltI, nI_leI, nI_eq, ↓lift_lt, ↓k_mt, ↓k_mp, if_true, if_false, Bool.false_eq_true, Nat.not_lt_zero, Nat.zero_le, Nat.reduceEqDiff, Nat.reduceLeDiff, Nat.reduceLT, n_litL, mA_22, mn, k1, mJ_23, ea, e]
            · rintro q ⟨g1, g2⟩
              subst g1
              refine ⟨nI 0, ?_, Or.inl ⟨rfl, g2⟩⟩
              unfold gX12_noSeen_59b
              simp (disch := omega) only [n_lit, n_of, n_o1, nI_add, pk_mul, nI_ltI, nI_leI, nI_eq, ↓lift_lt, ↓k_mt, ↓k_mp, if_true, if_false, Bool.false_eq_true, Nat.not_lt_zero, Nat.zero_le, Nat.reduceEqDiff, Nat.reduceLeDiff, Nat.reduceLT, mA_22, mn, Nat.le_refl]
          obtain ⟨r, er, hr⟩ := LC
          obtain ⟨r', er', hr'⟩ := LM
          have n1 : ¬ n < 1 := by omega
          have n10 : n ≤ 10 := hn1.2
          rcases hr with ⟨q1, q2⟩ | ⟨q1, i, q2, q3⟩
          · rcases hr' with ⟨q1', q2'⟩ | ⟨q1', i, q2', q3'⟩
            · subst q1 q1'
              refine Or.inr ⟨t, p, so, n, w, ht, hp, rfl, rfl, hz, hn1.1, hn1.2, ?_, ?_⟩
              · simp (disch := omega) only [n_lit, n_of, n_o1, nI_add, pk_mul, nI_ltI, nI_leI, nI_eq, ↓lift_lt, ↓k_mt, ↓k_mp, if_true, if_false, Bool.false_eq_true, Nat.not_lt_zero, Nat.zero_le, Nat.reduceEqDiff, Nat.reduceLeDiff, Nat.reduceLT, y1, i1, y2, ib, iff_t, cl, c2, c3, n1, n10, er]
              · simp (disch := omega) only [n_lit, n_of, n_o1, nI_add, pk_mul, nI_ltI, nI_leI, nI_eq, ↓lift_lt, ↓k_mt, ↓k_mp, if_true, if_false, Bool.false_eq_true, Nat.not_lt_zero, Nat.zero_le, Nat.reduceEqDiff, Nat.reduceLeDiff, Nat.reduceLT, n_litL, win_y, i1, y3, nt, mA_22, mn, er']
            · exact absurd (q2 i q2') q3'
          · rcases hr' with ⟨q1', q2'⟩ | ⟨q1', -⟩
            · exact absurd (q2' i q2) q3
            · subst q1 q1'
              refine Or.inl ⟨-nI 3, j3, ?_, ?_⟩
              · simp (disch := omega) only [n_lit, n_of, n_o1, nI_add, pk_mul, nI_ltI, nI_leI, nI_eq, ↓lift_lt, ↓k_mt, ↓k_mp, if_true, if_false, Bool.false_eq_true, Nat.not_lt_zero, Nat.zero_le, Nat.reduceEqDiff, Nat.reduceLeDiff, Nat.reduceLT, y1, i1, y2, ib, iff_t, cl, c2, c3, n1, n10, er]
              · simp (disch := omega) only [n_lit, n_of, n_o1, nI_add, pk_mul, nI_ltI, nI_leI, nI_eq, ↓lift_lt, ↓k_mt, ↓k_mp, if_true, if_false, Bool.false_eq_true, Nat.not_lt_zero, Nat.zero_le, Nat.reduceEqDiff, Nat.reduceLeDiff, Nat.reduceLT, n_litL, win_y, i1, y3, nt, mA_22, mn, er']
        · have wn := win_n (x := nI n) (l := 1) (u := 10) (by decide) (by decide) (fun ⟨p, q1, q2, q3⟩ => hn1 (by
            have := (nI_eq (by omega) (by omega)).mp q3
            omega))
          refine Or.inl ⟨-nI 4, j4, ?_, ?_⟩
          · by_cases n1 : n < 1
            · simp (disch := omega) only [n_lit, n_of, n_o1, nI_add, pk_mul, nI_ltI, nI_leI, nI_eq, ↓lift_lt, ↓k_mt, ↓k_mp, if_true, if_false, Bool.false_eq_true, Nat.not_lt_zero, Nat.zero_le, Nat.reduceEqDiff, Nat.reduceLeDiff, Nat.reduceLT, y1, i1, y2, ib, iff_t, cl, c2, c3, n1]
            · have n10 : ¬ n ≤ 10 := by omega
              simp (disch := omega) only [n_lit, n_of, n_o1, nI_add, pk_mul, nI_ltI, nI_leI, nI_eq, ↓lift_lt, ↓k_mt, ↓k_mp, if_true, if_false, Bool.false_eq_true, Nat.not_lt_zero, Nat.zero_le, Nat.reduceEqDiff, Nat.reduceLeDiff, Nat.reduceLT, y1, i1, y2, ib, iff_t, cl, c2, c3, n1, n10]
          · simp (disch := omega) only [n_lit, n_of, n_o1, nI_add, pk_mul, nI_ltI, nI_leI, nI_eq, ↓lift_lt, ↓k_mt, ↓k_mp, if_true, if_false, Bool.false_eq_true, Nat.not_lt_zero, Nat.zero_le, Nat.reduceEqDiff, Nat.reduceLeDiff, Nat.reduceLT, n_litL, win_y, i1, y3, nt, mA_22, mn, wn]
    · refine Or.inl ⟨-nI 2, j2, ?_, ?_⟩
      · simp (disch := omega) only [n_lit, n_of, n_o1, nI_add, pk_mul, nI_ltI, nI_leI, nI_eq, ↓lift_lt, ↓k_mt, ↓k_mp, if_true, if_false, Bool.false_eq_true, Nat.not_lt_zero, Nat.zero_le, Nat.reduceEqDiff, Nat.reduceLeDiff, Nat.reduceLT, y1, i1, c_pair_n hP a3 a3c hp]
      · simp (disch := omega) only [n_lit, n_of, n_o1, nI_add, pk_mul, nI_ltI, nI_leI, nI_eq, ↓lift_lt, ↓k_mt, ↓k_mp, if_true, if_false, Bool.false_eq_true, Nat.not_lt_zero, Nat.zero_le, Nat.reduceEqDiff, Nat.reduceLeDiff, Nat.reduceLT, n_litL, win_y, i1, q_pair_n hP N.1.2.1 hp]
  · have w := wi_n (u := 3) h1 (by decide) (by decide)
    refine Or.inl ⟨-nI 2, j2, ?_, ?_⟩
    · simp (disch := omega) only [n_lit, n_of, n_o1, nI_add, pk_mul, nI_ltI, nI_leI, nI_eq, ↓lift_lt, ↓k_mt, ↓k_mp, if_true, if_false, Bool.false_eq_true, Nat.not_lt_zero, Nat.zero_le, Nat.reduceEqDiff, Nat.reduceLeDiff, Nat.reduceLT, c_tray_n h1]
    · simp (disch := omega) only [n_lit, n_of, n_o1, nI_add, pk_mul, nI_ltI, nI_leI, nI_eq, ↓lift_lt, ↓k_mt, ↓k_mp, if_true, if_false, Bool.false_eq_true, Nat.not_lt_zero, Nat.zero_le, Nat.reduceEqDiff, Nat.reduceLeDiff, Nat.reduceLT, n_litL, w]
end SEENNO
section QSEEN
variable {v : Cv} {s : St} {m : Mu} {t n : Nat} {w : Nat → Int64} {p : Nat}
/-- the reference, as it is asked what was seen -/
def SQ (v : Cv) (s : St) (t n : Nat) (w : Nat → Int64) (m : Mu) : Prop := RD m v s ∧ m.2.1 22 t = nI n ∧ ∀ i, i < n → m.2.2 23 (40 * t + i) = w i
theorem SQ_fr {m' : Mu} (H : SQ v s t n w m) (f : mfr Ar56 m m') : SQ v s t n w m' := by
  obtain ⟨h1, h2, h3⟩ := H
  refine ⟨?_, by rw [f.2.2 22 rfl]; exact h2, by rw [f.2.1]; exact h3⟩
  unfold RD at *
  rw [f.2.2 1 rfl]
  exact h1
theorem q_dryIn {R i : Nat} (h22 : m.2.1 22 t = nI n) (ht : t < 4) (hn : n ≤ 10) (hi : i < n) (hR : R < 2 ^ 31) : gX12_dryIn m (nI t) (nI R) (nI i) = some (nI (R / 2 ^ (n - 1 - i) % 2)) := by
  unfold gX12_dryIn
  simp (disch := omega) only [n_lit, n_of, n_o1, nI_add, pk_mul, nI_ltI, nI_leI, nI_eq, ↓lift_lt, ↓k_mt, ↓k_mp, if_true, if_false, Bool.false_eq_true, Nat.not_lt_zero, Nat.zero_le, Nat.reduceEqDiff, Nat.reduceLeDiff, Nat.reduceLT, mA_22, h22, pk_sub, n_and, n_shrN, Nat.and_one_is_mod]
theorem q_isSeen {Y : Nat → Nat → Nat} {R : Nat} (hY : Y = fun u b => Yr v s.2.1 u s.2.2.1 b) (H : SQ v s t n w m) (ht : t < 4) (hn : n ≤ 10) (hp : p < 4) (hR : R < 2 ^ 31) :
    ∃ m', gX12_isSeen m (nI t) (nI p) (nI R) = some (nI (ib (SN Y w p n s.1 R)), m') ∧ mfr Ar56 m m' := by
  have hP := H.1.2.2.1.1
  have hs := H.1.2.2.2.1
  have p5 := pow5_le hP
  have hl : s.2.2.1 < 2 ^ 31 := by have := H.1.2.2.2.2.2.2.1; omega
  have hYl : ∀ s b, s < 20000 → Y s b < 20000 := fun u b hu => by rw [hY]; exact Yr_lt hP hu _ _ _
  have wl := wk_lt (R := R) (n := n) hYl hs
  have K := lpw_inv (body := fun q : Int32 × Int32 × Mu => gX12_isSeen_9b q.2.2 (nI t) (nI p) (nI R) q.1 q.2.1)
    (fun k q => q.1 = nI (wk Y n s.1 R k) ∧ q.2.1 = nI k ∧ mfr Ar56 m q.2.2 ∧ ∀ i, i < k → fit w p i (wk Y n s.1 R (i + 1)))
    (fun r => r.1 = nI (ib (SN Y w p n s.1 R)) ∧ mfr Ar56 m r.2) n ?_ ?_ (nI s.1, nI 0, m) ⟨rfl, rfl, mfr_rfl _ m, fun i hi => by omega⟩
  · obtain ⟨r, e, e1, e2⟩ := K
    refine ⟨r.2, ?_, e2⟩
    have e' : gX12_isSeen_9 m (nI t) (nI p) (nI R) (nI s.1) (nI 0) = some (nI (ib (SN Y w p n s.1 R)), r.2) := by
      unfold gX12_isSeen_9
      rw [e]
      exact congrArg some (Prod.ext e1 rfl)
    unfold gX12_isSeen
    simp (disch := omega) only [n_lit, n_of, n_o1, nI_add, pk_mul, nI_ltI, nI_leI, nI_eq, ↓lift_lt, ↓k_mt, ↓k_mp, if_true, if_false, Bool.false_eq_true, Nat.not_lt_zero, Nat.zero_le, Nat.reduceEqDiff, Nat.reduceLeDiff, Nat.reduceLT, q_nowD H.1, e']
  · rintro k ⟨z1, z2, z3⟩ hk ⟨g1, g2, g3, g4⟩
    have g1 : z1 = nI (wk Y n s.1 R k) := g1
    have g2 : z2 = nI k := g2
    subst g1 g2
    have g3 : mfr Ar56 m z3 := g3
    have H3 := SQ_fr H g3
    have k1 : ¬ n ≤ k := by omega
    have wk0 := wl k
    have wk1 := wl (k + 1)
    have z22 := H3.2.1
    have z23 : z3.2.1 1 23 = nI s.2.2.1 := H3.1.2.1.2.2.1
    have hb : R / 2 ^ (n - 1 - k) % 2 < 2 := Nat.mod_lt _ (by decide)
    obtain ⟨m1, e1, f1⟩ := q_yearTo (m := z3) (v := v) (ch := s.2.1) (s := wk Y n s.1 R k) (l := s.2.2.1) (dry := R / 2 ^ (n - 1 - k) % 2) H3.1.2.2.1 H3.1.1 (fun p hp => by rw [show 19 + p = 15 + (4 + p) by omega]; exact H3.1.2.1.2.1 p hp) wk0 hl hb
    have eY : Yr v s.2.1 (wk Y n s.1 R k) s.2.2.1 (R / 2 ^ (n - 1 - k) % 2) = wk Y n s.1 R (k + 1) := by
      show _ = Y (wk Y n s.1 R k) (R / 2 ^ (n - 1 - k) % 2)
      rw [hY]
    rw [eY] at e1
    have ew : m1.2.2 23 (40 * t + k) = w k := by rw [f1.2.1]; exact H3.2.2 k hk
    have ed := q_dryIn (m := z3) z22 ht hn hk hR
    have hdg := dg_lt (wk Y n s.1 R (k + 1)) p
    have nl : (nI (dg (wk Y n s.1 R (k + 1)) p)).toInt64 = lN (dg (wk Y n s.1 R (k + 1)) p) := nI_l (by omega)
    have eg := q_gapIn (s := wk Y n s.1 R (k + 1)) (p := p) (by omega) (by omega)
    show (∃ s', gX12_isSeen_9b z3 (nI t) (nI p) (nI R) (nI (wk Y n s.1 R k)) (nI k) = some (.inl s') ∧ _) ∨ (∃ r, gX12_isSeen_9b z3 (nI t) (nI p) (nI R) (nI (wk Y n s.1 R k)) (nI k) = some (.inr r) ∧ _)
    unfold gX12_isSeen_9b gX12_isSeen_87
    have keep : ∀ (z : fit w p k (wk Y n s.1 R (k + 1))), ∀ i, i < k + 1 → fit w p i (wk Y n s.1 R (i + 1)) := fun z i hi => by
      by_cases e : i = k
      · rw [e]; exact z
      · exact g4 i (by omega)
    by_cases z1 : w k = -lN 1
    · have c1 : lg_cmp (w k) (-lN 1) = nI 0 := (lg_e' _ _).mpr z1
      refine Or.inl ⟨(nI (wk Y n s.1 R (k + 1)), nI (k + 1), m1), ?_, rfl, rfl, mfr_tr g3 f1, keep (Or.inl z1)⟩
      simp (disch := omega) only [n_lit, n_of, n_o1, nI_add, pk_mul, nI_ltI, nI_leI, nI_eq, ↓lift_lt, ↓k_mt, ↓k_mp, if_true, if_false, Bool.false_eq_true, Nat.not_lt_zero, Nat.zero_le, Nat.reduceEqDiff, Nat.reduceLeDiff, Nat.reduceLT, n_litL, mA_22, z22, k1, mA_1, z23, ed, e1, mJ_23, ew, c1]
    · have c1 : ¬ lg_cmp (w k) (-lN 1) = nI 0 := fun q => z1 ((lg_e' _ _).mp q)
      by_cases z2 : w k = lN (dg (wk Y n s.1 R (k + 1)) p)
      · have c2 : lg_cmp (w k) (lN (dg (wk Y n s.1 R (k + 1)) p)) = nI 0 := (lg_e' _ _).mpr z2
        refine Or.inl ⟨(nI (wk Y n s.1 R (k + 1)), nI (k + 1), m1), ?_, rfl, rfl, mfr_tr g3 f1, keep (Or.inr z2)⟩
        simp (disch := omega) only [n_lit, n_of, n_o1, nI_add, pk_mul, nI_ltI, nI_leI, nI_eq, ↓lift_lt, ↓k_mt, ↓k_mp, if_true, if_false, Bool.false_eq_true, Nat.not_lt_zero, Nat.zero_le, Nat.reduceEqDiff, Nat.reduceLeDiff, Nat.reduceLT, n_litL, mA_22, z22, k1, mA_1, z23, ed, e1, mJ_23, ew, c1, eg, nl, c2]
      · have c2 : ¬ lg_cmp (w k) (lN (dg (wk Y n s.1 R (k + 1)) p)) = nI 0 := fun q => z2 ((lg_e' _ _).mp q)
        have no : ¬ SN Y w p n s.1 R := fun q => (q k hk).elim z1 z2
        refine Or.inr ⟨(nI 0, m1), ?_, by rw [ib_f no], mfr_tr g3 f1⟩
        simp (disch := omega) only [n_lit, n_of, n_o1, nI_add, pk_mul, nI_ltI, nI_leI, nI_eq, ↓lift_lt, ↓k_mt, ↓k_mp, if_true, if_false, Bool.false_eq_true, Nat.not_lt_zero, Nat.zero_le, Nat.reduceEqDiff, Nat.reduceLeDiff, Nat.reduceLT, n_litL, mA_22, z22, k1, mA_1, z23, ed, e1, mJ_23, ew, c1, eg, nl, c2]
  · rintro ⟨z1, z2, z3⟩ ⟨g1, g2, g3, g4⟩
    have g2 : z2 = nI n := g2
    subst g2
    have g3 : mfr Ar56 m z3 := g3
    have z22 := (SQ_fr H g3).2.1
    have yes : SN Y w p n s.1 R := g4
    show ∃ r, gX12_isSeen_9b z3 (nI t) (nI p) (nI R) z1 (nI n) = some (.inr r) ∧ _
    unfold gX12_isSeen_9b
    refine ⟨(nI 1, z3), ?_, by rw [ib_t yes], g3⟩
    simp (disch := omega) only [n_lit, n_of, n_o1, nI_add, pk_mul, nI_ltI, nI_leI, nI_eq, ↓lift_lt, ↓k_mt, ↓k_mp, if_true, if_false, Bool.false_eq_true, Nat.not_lt_zero, Nat.zero_le, Nat.reduceEqDiff, Nat.reduceLeDiff, Nat.reduceLT, mA_22, z22, Nat.le_refl]
end QSEEN
