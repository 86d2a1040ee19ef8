/-! the class: how much a pair grows, whether the roof falls, a year; what is kept of them -/
/-- growths that are kept: by met, pair, drops, gap, dry -/
def GC (v : Cv) (ch : Nat) (f : Nat → Int32) : Prop := ∀ k, k < 2000 → f k = nI 0 ∨ (vg v ≠ none ∧ f k = nI 10 + grw (vg v) ch (k / 100 % 4) (k / 20 % 5) (k / 2 % 10) (k / 400) (k % 2))
def FC (v : Cv) (f : Nat → Int32) : Prop := ∀ k, k < 20000 → f k = nI 0 ∨ (vf v ≠ none ∧ f k = if roof (vf v) (vP v) (k % 10000) (k / 10000) = true then nI 1 else -nI 1)
/-- the course is tuned to a cave and chalk -/
def CT (h : Hp) (V : Nat → Cv) (c : Ch) (a ch : Nat) : Prop := c.2.2.1 108 5 = some a ∧ CaveAt h a (V a) ∧ wV (V a) ∧ c.1 108 6 = nI ch ∧ ch < 10000 ∧ GC (V a) ch (c.2.2.2.1 111) ∧ FC (V a) (c.2.2.2.1 112)
def A112 (r : Nat) : Bool := decide (109 ≤ r) && decide (r < 113)
theorem A112_10 {r : Nat} (h : A112 r = false) : A110 r = false := by
  unfold A112 at h
  unfold A110
  cases e : decide (r = 110) with
  | false => rfl
  | true =>
    have := of_decide_eq_true e
    subst this
    cases h
theorem cl9_b (x : Int32) : ∃ n : Nat, 1 ≤ n ∧ n < 20 ∧ nI 10 + cl9 x = nI n ∧ (nI n).toInt8.toInt32 = nI n := by
  have key : ∀ n : Nat, n < 20 → (nI n).toInt8.toInt32 = nI n := by decide
  unfold cl9
  by_cases h1 : x < -9
  · rw [if_pos h1]; exact ⟨1, by decide, by decide, by decide, by decide⟩
  · rw [if_neg h1]
    by_cases h2 : 9 < x
    · rw [if_pos h2]; exact ⟨19, by decide, by decide, by decide, by decide⟩
    · rw [if_neg h2]
      have a1 : ¬ x.toInt < -9 := fun q => h1 (Int32.lt_iff_toInt_lt.mpr (by have : (-9 : Int32).toInt = -9 := by decide
                                                                             omega))
      have a2 : ¬ 9 < x.toInt := fun q => h2 (Int32.lt_iff_toInt_lt.mpr (by have : (9 : Int32).toInt = 9 := by decide
                                                                            omega))
      refine ⟨(10 + x.toInt).toNat, by omega, by omega, ?_, key _ (by omega)⟩
      apply Int32.toInt_inj.mp
      rw [nI_toInt (by omega), Int32.toInt_add, nI_toInt (by decide)]
      have : ((10 : Nat) + x.toInt : Int).bmod (2 ^ 32) = 10 + x.toInt := Int.bmod_eq_of_le (by omega) (by omega)
      omega
theorem clmm (x : Int32) : imax (-9 : Int32) (imin (9 : Int32) x) = cl9 x := by
  unfold imax imin cl9
  by_cases h1 : x < -9
  · have h2 : x < 9 := Int32.lt_trans h1 (by decide)
    rw [if_pos h2, if_pos h1, if_neg (Int32.not_lt.mpr (Int32.le_of_lt h1))]
  · rw [if_neg h1]
    by_cases h2 : 9 < x
    · rw [if_neg (Int32.not_lt.mpr (Int32.le_of_lt h2)), if_pos h2, if_pos (by decide)]
    · rw [if_neg h2]
      by_cases h3 : x < 9
      · rw [if_pos h3]
        by_cases h4 : -9 < x
        · rw [if_pos h4]
        · rw [if_neg h4]
          exact Int32.le_antisymm (Int32.not_lt.mp h1) (Int32.not_lt.mp h4)
      · have h5 : x = 9 := Int32.le_antisymm (Int32.not_lt.mp h2) (Int32.not_lt.mp h3)
        rw [if_neg h3, h5, if_pos (by decide)]
theorem clmm' (x : Int32) : imax (-nI 9) (imin (nI 9) x) = cl9 x := clmm x
theorem k_know {h : Hp} {c : Ch} (x : Int32) (j : Nat) (y : Int32) (hj : j < 8) (hx : (-1 : Int32) - x = nI j) : gX1_know h c x y = some (cS c 109 j y) := by
  unfold gX1_know fX3_placeOf
  rw [hx, k_bs, cW0_g c y hj (by decide), k_bs]
theorem k_know1 (h : Hp) (c : Ch) (y : Int32) : gX1_know h c (-nI 1) y = some (cS c 109 0 y) := k_know _ 0 y (by decide) rfl
theorem k_know2 (h : Hp) (c : Ch) (y : Int32) : gX1_know h c (-nI 2) y = some (cS c 109 1 y) := k_know _ 1 y (by decide) rfl
theorem k_know3 (h : Hp) (c : Ch) (y : Int32) : gX1_know h c (-nI 3) y = some (cS c 109 2 y) := k_know _ 2 y (by decide) rfl
theorem k_know4 (h : Hp) (c : Ch) (y : Int32) : gX1_know h c (-nI 4) y = some (cS c 109 3 y) := k_know _ 3 y (by decide) rfl
theorem k_know5 (h : Hp) (c : Ch) (y : Int32) : gX1_know h c (-nI 5) y = some (cS c 109 4 y) := k_know _ 4 y (by decide) rfl
theorem k_know6 (h : Hp) (c : Ch) (y : Int32) : gX1_know h c (-nI 6) y = some (cS c 109 5 y) := k_know _ 5 y (by decide) rfl
theorem k_know7 (h : Hp) (c : Ch) (y : Int32) : gX1_know h c (-nI 7) y = some (cS c 109 6 y) := k_know _ 6 y (by decide) rfl
theorem k_know8 (h : Hp) (c : Ch) (y : Int32) : gX1_know h c (-nI 8) y = some (cS c 109 7 y) := k_know _ 7 y (by decide) rfl
section COURSE
variable {h : Hp} {V : Nat → Cv} {c : Ch} {a ch : Nat}
theorem CT_fr {A : Nat → Bool} {c' : Ch} (H : CT h V c a ch) (hf : cfr A c c') (h1 : A 111 = false) (h2 : A 112 = false) : CT h V c' a ch := by
  obtain ⟨e1, e2, e3, e4, e5, e6, e7⟩ := H
  exact ⟨by rw [hf.2.2.1]; exact e1, e2, e3, by rw [hf.1]; exact e4, e5, by rw [hf.2.2.2.1 111 h1]; exact e6, by rw [hf.2.2.2.1 112 h2]; exact e7⟩
theorem c_growth {p drops gap met dry : Nat} (H : CT h V c a ch) (hp : p < 4) (hr : drops < 5) (hg : gap < 10) (hm : met < 5) (hd : dry < 2) :
    ∃ c', gX1_growth h c (nI p) (nI drops) (nI gap) (nI met) (nI dry) = some (grw (vg (V a)) ch p drops gap met dry, c') ∧ CT h V c' a ch ∧ cfr A112 c c' := by
  obtain ⟨e1, hC, hW, e4, e5, e6, e7⟩ := H
  obtain ⟨o, ho, hL⟩ := cv_g hC
  have hty := hW.2.2.2.2.2.2.2.1
  unfold gX1_growth gX1_growth_21
  rw [e1, k_bs, ho, k_bs]
  cases hgl : vg (V a) with
  | none =>
    rw [hgl] at hL
    have hL : o = none := hL
    subst hL
    refine ⟨c, ?_, ⟨e1, hC, hW, e4, e5, e6, e7⟩, cfr_rfl _ c⟩
    simp (disch := omega) only [n_lit, n_of, n_o1, nI_add, pk_mul, nI_ltI, nI_leI, nI_eq, ↓lift_lt, ↓k_mt, ↓k_mp, if_true, if_false, Bool.false_eq_true, Nat.not_lt_zero, Nat.zero_le]
    show _ = some ((if dry = 1 then 0 else nI drops), c)
    by_cases e : dry = 1
    · rw [if_pos e, if_pos e]; rfl
    · rw [if_neg e, if_neg e]
  | some code =>
    rw [hgl] at hL
    obtain ⟨ix, hix⟩ : ∃ ix, ix = ((((met * 4 + p) * 5 + drops) * 10 + gap) * 2 + dry) := ⟨_, rfl⟩
    have hixb : ix < 2000 := by omega
    have d1 : ix / 100 % 4 = p := by omega
    have d2 : ix / 20 % 5 = drops := by omega
    have d3 : ix / 2 % 10 = gap := by omega
    have d4 : ix / 400 = met := by omega
    have d5' : ix % 2 = dry := by omega
    have hv := e6 ix hixb
    rw [d1, d2, d3, d4, d5', hgl] at hv
    have hc1 : ¬ ix < 0 := by omega
    obtain ⟨lo, pa, f, e0, f1, f2, q1, q2, hcode⟩ := hL
    subst e0
    obtain ⟨n, n1, n2, n3, n4⟩ := cl9_b (lawv (wG p (dg ch p) drops gap met dry) code)
    have hgw : grw (some code) ch p drops gap met dry = cl9 (lawv (wG p (dg ch p) drops gap met dry) code) := rfl
    have hfin : nI n - nI 10 = cl9 (lawv (wG p (dg ch p) drops gap met dry) code) := by
      rw [← n3, Int32.add_comm, Int32.add_sub_cancel]
    rw [hgw] at hv ⊢
    unfold gX1_growth_164
    rcases hv with hv | ⟨-, hv⟩
    · obtain ⟨c6, ec6⟩ : ∃ c6, c6 = cS (cS (cS (cS (cS (cS c 109 0 (nI met)) 109 1 (nI dry)) 109 2 (nI p)) 109 3 (nI (dg ch p))) 109 4 (nI drops)) 109 5 (nI gap) := ⟨_, rfl⟩
      have f6 : cfr A112 c c6 := by
        rw [ec6]
        exact cfr_S (cfr_S (cfr_S (cfr_S (cfr_S (cfr_S (cfr_rfl _ c) rfl) rfl) rfl) rfl) rfl) rfl
      have r6 : ∀ j, okw true j = true → c6.2.2.2.1 109 j = wG p (dg ch p) drops gap met dry j := by
        intro j hj
        have hj : j < 6 := by
          unfold okw at hj
          rw [if_pos rfl] at hj
          exact of_decide_eq_true hj
        rw [ec6]
        match j, hj with
        | 0, _ => rfl
        | 1, _ => rfl
        | 2, _ => rfl
        | 3, _ => rfl
        | 4, _ => rfl
        | 5, _ => rfl
      obtain ⟨n', c7, ee, hO, ht, f7⟩ := c_tell (c := c6) (w := wG p (dg ch p) drops gap met dry) (g := true) (b := false) (o := some lo) ⟨lo, pa, f, rfl, f1, f2, q1, q2, hcode⟩ (hty code hgl).2 r6 (hty code hgl).1
      obtain rfl := Option.some.inj ee
      have k108 : c6.2.2.1 108 5 = some a := by rw [f6.2.2.1]; exact e1
      have r111 : c7.2.2.2.1 111 = c.2.2.2.1 111 := by rw [f7.2.2.2.1 111 rfl, ec6]; rfl
      have r112 : c7.2.2.2.1 112 = c.2.2.2.1 112 := by rw [f7.2.2.2.1 112 rfl, ec6]; rfl
      have fin : cfr A112 c (cS c7 111 ix (nI n)) := cfr_S (cfr_tr f6 (cfr_le f7 (fun r hr => A112_10 hr))) rfl
      refine ⟨cS c7 111 ix (nI n), ?_, ⟨by rw [fin.2.2.1]; exact e1, hC, hW, by rw [fin.1]; exact e4, e5, ?_, ?_⟩, fin⟩
      · have b1 : ch < 2 ^ 31 := by omega
        simp (disch := omega) only [n_lit, n_of, n_o1, nI_add, pk_mul, nI_ltI, nI_leI, nI_eq, ↓lift_lt, ↓k_mt, ↓k_mp, if_true, if_false, Bool.false_eq_true, Nat.not_lt_zero, Nat.zero_le, ← hix, hc1, hixb, cA_g, hv, k_know1, k_know2, k_know3, k_know4, k_know5, k_know6, cS_1, cS_3, e4, c_digit, e1, ho, ← ec6, k108, hO, ht, clmm', n3, n4, cW1_g, cS_4, hfin]
      · intro k hk
        rw [cS_4, if_pos rfl]
        by_cases e : k = ix
        · rw [if_pos e, e, d1, d2, d3, d4, d5', hgl, hgw, n3]
          exact Or.inr ⟨(by intro q; cases q), rfl⟩
        · rw [if_neg e, r111]
          exact e6 k hk
      · rw [cS_n c7 (by decide), r112]
        exact e7
    · refine ⟨c, ?_, ⟨e1, hC, hW, e4, e5, e6, e7⟩, cfr_rfl _ c⟩
      rw [n3] at hv
      have c0 : ¬ n = 0 := by omega
      simp (disch := omega) only [n_lit, n_of, n_o1, nI_add, pk_mul, nI_ltI, nI_leI, nI_eq, ↓lift_lt, ↓k_mt, ↓k_mp, if_true, if_false, Bool.false_eq_true, Nat.not_lt_zero, Nat.zero_le, ← hix, hc1, hixb, cA_g, hv, c0, hfin]
theorem c_collapses {s dry : Nat} (H : CT h V c a ch) (hs : s < 10000) (hd : dry < 2) :
    ∃ c', gX1_collapses h c (nI s) (nI dry) = some (if roof (vf (V a)) (vP (V a)) s dry = true then nI 1 else nI 0, c') ∧ CT h V c' a ch ∧ cfr A112 c c' := by
  obtain ⟨e1, hC, hW, e4, e5, e6, e7⟩ := H
  obtain ⟨o, ho, hL⟩ := cv_f hC
  have hP := hW.1
  have hty := hW.2.2.2.2.2.2.2.2
  unfold gX1_collapses
  rw [e1, k_bs, ho, k_bs]
  cases hgl : vf (V a) with
  | none =>
    rw [hgl] at hL
    have hL : o = none := hL
    subst hL
    exact ⟨c, rfl, ⟨e1, hC, hW, e4, e5, e6, e7⟩, cfr_rfl _ c⟩
  | some code =>
    rw [hgl] at hL
    obtain ⟨ix, hix⟩ : ∃ ix, ix = s + dry * 10000 := ⟨_, rfl⟩
    have hixb : ix < 20000 := by omega
    have d1 : ix % 10000 = s := by omega
    have d2 : ix / 10000 = dry := by omega
    have hv := e7 ix hixb
    rw [d1, d2, hgl] at hv
    have hc1 : ¬ ix < 0 := by omega
    obtain ⟨lo, pa, f, e0, f1, f2, q1, q2, hcode⟩ := hL
    subst e0
    have hrf : roof (some code) (vP (V a)) s dry = decide (lawv (wF (mets (vP (V a)) s) dry (gsum (vP (V a)) s) (gwid (vP (V a)) s)) code = 1) := rfl
    unfold gX1_collapses_124 gX1_collapses_126 gX1_collapses_141
    have b1 : (nI 1).toInt8.toInt32 = nI 1 := by decide
    have b2 : (-nI 1).toInt8.toInt32 = -nI 1 := by decide
    have b3 : ¬ (-nI 1 = nI 1) := by decide
    have b4 : ¬ (-nI 1 = nI 0) := by decide
    have b5 : ¬ ((1 : Nat) = 0) := by decide
    rcases hv with hv | ⟨-, hv⟩
    · obtain ⟨c6, ec6⟩ : ∃ c6, c6 = cS (cS (cS (cS c 109 0 (nI (mets (vP (V a)) s))) 109 1 (nI dry)) 109 6 (nI (gsum (vP (V a)) s))) 109 7 (nI (gwid (vP (V a)) s)) := ⟨_, rfl⟩
      have f6 : cfr A112 c c6 := by
        rw [ec6]
        exact cfr_S (cfr_S (cfr_S (cfr_S (cfr_rfl _ c) rfl) rfl) rfl) rfl
      have r6 : ∀ j, okw false j = true → c6.2.2.2.1 109 j = wF (mets (vP (V a)) s) dry (gsum (vP (V a)) s) (gwid (vP (V a)) s) j := by
        intro j hj
        have hj : j < 2 ∨ j = 6 ∨ j = 7 := by
          unfold okw at hj
          simp at hj
          omega
        rw [ec6]
        rcases hj with hj | hj | hj
        · match j, hj with
          | 0, _ => rfl
          | 1, _ => rfl
        · subst hj; rfl
        · subst hj; rfl
      obtain ⟨n', c7, ee, hO, ht, f7⟩ := c_tell (c := c6) (w := wF (mets (vP (V a)) s) dry (gsum (vP (V a)) s) (gwid (vP (V a)) s)) (g := false) (b := true) (o := some lo) ⟨lo, pa, f, rfl, f1, f2, q1, q2, hcode⟩ (hty code hgl).2 r6 (hty code hgl).1
      obtain rfl := Option.some.inj ee
      have k108 : c6.2.2.1 108 5 = some a := by rw [f6.2.2.1]; exact e1
      have r111 : c7.2.2.2.1 111 = c.2.2.2.1 111 := by rw [f7.2.2.2.1 111 rfl, ec6]; rfl
      have r112 : c7.2.2.2.1 112 = c.2.2.2.1 112 := by rw [f7.2.2.2.1 112 rfl, ec6]; rfl
      have fin : ∀ x, cfr A112 c (cS c7 112 ix x) := fun x => cfr_S (cfr_tr f6 (cfr_le f7 (fun r hr => A112_10 hr))) rfl
      have cF : ∀ x, x = (if roof (some code) (vP (V a)) s dry = true then nI 1 else -nI 1) → CT h V (cS c7 112 ix x) a ch := by
        intro x hx
        refine ⟨by rw [(fin x).2.2.1]; exact e1, hC, hW, by rw [(fin x).1]; exact e4, e5, ?_, ?_⟩
        · rw [cS_n c7 (by decide), r111]
          exact e6
        · intro k hk
          rw [cS_4, if_pos rfl]
          by_cases e : k = ix
          · rw [if_pos e, e, d1, d2, hgl, hx]
            exact Or.inr ⟨(by intro q; cases q), rfl⟩
          · rw [if_neg e, r112]
            exact e7 k hk
      have hs31 : s < 2 ^ 31 := by omega
      by_cases hh : lawv (wF (mets (vP (V a)) s) dry (gsum (vP (V a)) s) (gwid (vP (V a)) s)) code = nI 1
      · have hr : roof (some code) (vP (V a)) s dry = true := by rw [hrf]; exact decide_eq_true hh
        refine ⟨cS c7 112 ix (nI 1), ?_, cF _ (by rw [if_pos hr]), fin _⟩
        simp (disch := omega) only [n_lit, n_of, n_o1, nI_add, pk_mul, nI_ltI, nI_leI, nI_eq, ↓lift_lt, ↓k_mt, ↓k_mp, if_true, if_false, Bool.false_eq_true, Nat.not_lt_zero, Nat.zero_le, ← hix, hc1, hixb, cA_g, hv, k_know1, k_know2, k_know7, k_know8, cS_3, e1, cv_O hC, c_metCount hC hP hs31, c_gapSum hC hP hs31, c_widestGap hC hP hs31, ho, ← ec6, k108, hO, ht, hh, b1, cW1_g, cS_4, n_bl1, hr]
      · have hr : ¬ roof (some code) (vP (V a)) s dry = true := by rw [hrf]; exact fun q => hh (of_decide_eq_true q)
        refine ⟨cS c7 112 ix (-nI 1), ?_, cF _ (by rw [if_neg hr]), fin _⟩
        simp (disch := omega) only [n_lit, n_of, n_o1, nI_add, pk_mul, nI_ltI, nI_leI, nI_eq, ↓lift_lt, ↓k_mt, ↓k_mp, if_true, if_false, Bool.false_eq_true, Nat.not_lt_zero, Nat.zero_le, ← hix, hc1, hixb, cA_g, hv, k_know1, k_know2, k_know7, k_know8, cS_3, e1, cv_O hC, c_metCount hC hP hs31, c_gapSum hC hP hs31, c_widestGap hC hP hs31, ho, ← ec6, k108, hO, ht, hh, b2, b3, cW1_g, cS_4, n_bl0, hr]
    · refine ⟨c, ?_, ⟨e1, hC, hW, e4, e5, e6, e7⟩, cfr_rfl _ c⟩
      by_cases hr : roof (some code) (vP (V a)) s dry = true
      · rw [if_pos hr] at hv
        simp (disch := omega) only [n_lit, n_of, n_o1, nI_add, pk_mul, nI_ltI, nI_leI, nI_eq, ↓lift_lt, ↓k_mt, ↓k_mp, if_true, if_false, Bool.false_eq_true, Nat.not_lt_zero, Nat.zero_le, ← hix, hc1, hixb, cA_g, hv, b5, n_bl1, hr]
      · rw [if_neg hr] at hv
        simp (disch := omega) only [n_lit, n_of, n_o1, nI_add, pk_mul, nI_ltI, nI_leI, nI_eq, ↓lift_lt, ↓k_mt, ↓k_mp, if_true, if_false, Bool.false_eq_true, Nat.not_lt_zero, Nat.zero_le, ← hix, hc1, hixb, cA_g, hv, b3, b4, n_bl0, hr]
theorem c_after {s l dry : Nat} (H : CT h V c a ch) (hs : s < 20000) (hl : l < 2 ^ 31) (hd : dry < 2) :
    ∃ c', gX1_after h c (nI s) (nI l) (nI dry) = some (nI (Yr (V a) ch s l dry), c') ∧ CT h V c' a ch ∧ cfr A112 c c' := by
  have hC := H.2.1
  have hW := H.2.2.1
  have hP := hW.1
  unfold gX1_after
  by_cases hF : 10000 ≤ s
  · have hF' : ¬ s < 10000 := by omega
    refine ⟨c, ?_, H, cfr_rfl _ c⟩
    simp (disch := omega) only [n_lit, n_of, n_o1, nI_add, pk_mul, nI_ltI, nI_leI, nI_eq, ↓lift_lt, ↓k_mt, ↓k_mp, if_true, if_false, Bool.false_eq_true, Nat.not_lt_zero, Nat.zero_le, hF']
    rw [Yr_fallen hF]
  · have hF' : s < 10000 := by omega
    have hm4 := mets_le (vP (V a)) s
    simp (disch := omega) only [n_lit, n_of, n_o1, nI_add, pk_mul, nI_ltI, nI_leI, nI_eq, ↓lift_lt, ↓k_mt, ↓k_mp, if_true, if_false, Bool.false_eq_true, Nat.not_lt_zero, Nat.zero_le, hF', H.1, cv_O hC, c_metCount hC hP (show s < 2 ^ 31 by omega)]
    unfold gX1_after_25
    have K := lpw_all (body := fun q : Int32 × Int32 × Ch => gX1_after_25b h q.2.2 (nI s) (nI l) (nI dry) (nI (mets (vP (V a)) s)) q.1 q.2.1)
      (fun k q => q.1 = nI (cod (ygap (grw (vg (V a)) ch) (vP (V a)) s l dry) k) ∧ q.2.1 = nI k ∧ CT h V q.2.2 a ch ∧ cfr A112 c q.2.2)
      (fun r => r.1 = nI (Yr (V a) ch s l dry) ∧ CT h V r.2 a ch ∧ cfr A112 c r.2) (vP (V a)) ?_ ?_ (nI 0, nI 0, c) ⟨rfl, rfl, H, cfr_rfl _ c⟩
    · obtain ⟨r, e, h1, h2, h3⟩ := K
      exact ⟨r.2, by rw [← h1]; exact e, h2, h3⟩
    · intro k q hk ⟨e1, e2, hT, hfr⟩
      have h2 : ¬ vP (V a) ≤ k := by omega
      have hdg := dg_lt s k
      have h5 := d5_lt l k
      have cE : cod (ygap (grw (vg (V a)) ch) (vP (V a)) s l dry) (k + 1) = cod (ygap (grw (vg (V a)) ch) (vP (V a)) s l dry) k + ygap (grw (vg (V a)) ch) (vP (V a)) s l dry k * 10 ^ k := rfl
      show ∃ s', gX1_after_25b h q.2.2 (nI s) (nI l) (nI dry) (nI (mets (vP (V a)) s)) q.1 q.2.1 = some (.inl s') ∧ _
      rw [e1, e2]
      unfold gX1_after_25b gX1_after_85
      by_cases h0 : dg s k = 0
      · have h0' : dg s k ≤ 0 := by omega
        simp (disch := omega) only [n_lit, n_of, n_o1, nI_add, pk_mul, nI_ltI, nI_leI, nI_eq, ↓lift_lt, ↓k_mt, ↓k_mp, if_true, if_false, Bool.false_eq_true, Nat.not_lt_zero, Nat.zero_le, hT.1, cv_P hC, h2, c_digit, h0']
        refine ⟨_, rfl, ?_, rfl, hT, hfr⟩
        have y0 : ygap (grw (vg (V a)) ch) (vP (V a)) s l dry k = 0 := if_pos h0
        rw [cE, y0, Nat.zero_mul]
        rfl
      · have h0' : ¬ dg s k ≤ 0 := by omega
        obtain ⟨c1, ec1, hT1, fr1⟩ := c_growth (p := k) (drops := d5 l k) (gap := dg s k) (met := mets (vP (V a)) s) (dry := dry) hT (by omega) h5 hdg (by omega) hd
        simp (disch := omega) only [n_lit, n_of, n_o1, nI_add, pk_mul, nI_ltI, nI_leI, nI_eq, ↓lift_lt, ↓k_mt, ↓k_mp, if_true, if_false, Bool.false_eq_true, Nat.not_lt_zero, Nat.zero_le, hT.1, cv_P hC, h2, c_digit, h0', c_dropsOf, ec1, c_kept, n_tT1]
        refine ⟨_, rfl, ?_, rfl, hT1, cfr_tr hfr fr1⟩
        have y0 : ygap (grw (vg (V a)) ch) (vP (V a)) s l dry k = kN (nI (dg s k) - grw (vg (V a)) ch k (d5 l k) (dg s k) (mets (vP (V a)) s) dry) := if_neg h0
        rw [cE, y0]
    · intro q ⟨e1, e2, hT, hfr⟩
      have hlt : yto (grw (vg (V a)) ch) (vP (V a)) s l dry < 10 ^ vP (V a) := cod_lt _ (fun p => ygap_lt _ _ _ _ _ p) _
      have hp10 := pow10_le hP
      obtain ⟨c1, ec1, hT1, fr1⟩ := c_collapses (s := yto (grw (vg (V a)) ch) (vP (V a)) s l dry) (dry := dry) hT (by omega) hd
      show ∃ r, gX1_after_25b h q.2.2 (nI s) (nI l) (nI dry) (nI (mets (vP (V a)) s)) q.1 q.2.1 = some (.inr r) ∧ _
      rw [e1, e2]
      have hY : cod (ygap (grw (vg (V a)) ch) (vP (V a)) s l dry) (vP (V a)) = yto (grw (vg (V a)) ch) (vP (V a)) s l dry := rfl
      rw [hY]
      unfold gX1_after_25b gX1_after_91 gX1_after_112
      have b5 : ¬ ((1 : Nat) = 0) := by decide
      by_cases hr : roof (vf (V a)) (vP (V a)) (yto (grw (vg (V a)) ch) (vP (V a)) s l dry) dry = true
      · rw [if_pos hr] at ec1
        simp (disch := omega) only [n_lit, n_of, n_o1, nI_add, pk_mul, nI_ltI, nI_leI, nI_eq, ↓lift_lt, ↓k_mt, ↓k_mp, if_true, if_false, Bool.false_eq_true, Nat.not_lt_zero, Nat.zero_le, hT.1, cv_P hC, Nat.le_refl, ec1, b5]
        refine ⟨_, rfl, ?_, hT1, cfr_tr hfr fr1⟩
        unfold Yr yr
        rw [if_neg hF, if_pos hr]
      · rw [if_neg hr] at ec1
        simp (disch := omega) only [n_lit, n_of, n_o1, nI_add, pk_mul, nI_ltI, nI_leI, nI_eq, ↓lift_lt, ↓k_mt, ↓k_mp, if_true, if_false, Bool.false_eq_true, Nat.not_lt_zero, Nat.zero_le, hT.1, cv_P hC, Nat.le_refl, ec1]
        refine ⟨_, rfl, ?_, hT1, cfr_tr hfr fr1⟩
        unfold Yr yr
        rw [if_neg hF, if_neg hr]
/-- the course is tuned anew -/
theorem c_tune {a' ch' : Nat} (H : CT h V c a ch) (hC' : CaveAt h a' (V a')) (hW' : wV (V a')) (hch' : ch' < 10000) :
    ∃ c', gX1_tune h c a' (nI ch') = some c' ∧ CT h V c' a' ch' ∧ (∀ r, ¬ r = 108 → c'.1 r = c.1 r) ∧ c'.2.1 = c.2.1 ∧ (∀ r, ¬ r = 108 → c'.2.2.1 r = c.2.2.1 r) ∧ (∀ r, A112 r = false → c'.2.2.2.1 r = c.2.2.2.1 r) ∧ c'.2.2.2.2 = c.2.2.2.2 := by
  obtain ⟨e1, hC, hW, e4, e5, e6, e7⟩ := H
  obtain ⟨og, hog, hLg⟩ := cv_g hC
  obtain ⟨of_, hof, hLf⟩ := cv_f hC
  have hi1 : 80 ≤ a := by rcases hC.1 with q | q <;> omega
  have hi2 : 80 ≤ a' := by rcases hC'.1 with q | q <;> omega
  have hH : ∀ {α : Type} (x : Option α), gH2 (some a) (some a') x = x := by
    intro α x
    unfold gH2 hiB
    rw [if_pos ⟨decide_eq_true hi1, decide_eq_true hi2⟩]
  -- what is left of the course's rows
  have fin : ∀ c1 : Ch, c1.1 = c.1 → c1.2.1 = c.2.1 → c1.2.2.1 = c.2.2.1 → (∀ r, A112 r = false → c1.2.2.2.1 r = c.2.2.2.1 r) → c1.2.2.2.2 = c.2.2.2.2 → GC (V a') ch' (c1.2.2.2.1 111) → FC (V a') (c1.2.2.2.1 112) →
      ∃ c', gX1_tune_60 h c1 a' (nI ch') = some c' ∧ CT h V c' a' ch' ∧ (∀ r, ¬ r = 108 → c'.1 r = c.1 r) ∧ c'.2.1 = c.2.1 ∧ (∀ r, ¬ r = 108 → c'.2.2.1 r = c.2.2.1 r) ∧ (∀ r, A112 r = false → c'.2.2.2.1 r = c.2.2.2.1 r) ∧ c'.2.2.2.2 = c.2.2.2.2 := by
    intro c1 k1 k2 k3 k4 k5 k6 k7
    refine ⟨cI (cR c1 108 5 (some a')) 108 6 (nI ch'), rfl, ⟨rfl, hC', hW', rfl, hch', k6, k7⟩, ?_, k2, ?_, k4, k5⟩
    · intro r hr
      rw [cI_n _ hr, ← k1]
      rfl
    · intro r hr
      rw [← k3]
      exact u2_ne _ _ hr
  have z111 : ∀ f : Nat → Int32, (∀ k, k < 2000 → f k = nI 0) → GC (V a') ch' f := fun f hf k hk => Or.inl (hf k hk)
  have z112 : ∀ f : Nat → Int32, (∀ k, k < 20000 → f k = nI 0) → FC (V a') f := fun f hf k hk => Or.inl (hf k hk)
  -- chalk or cave is another one: the growths
  have s42 : ∀ c1 : Ch, c1.1 = c.1 → c1.2.1 = c.2.1 → c1.2.2.1 = c.2.2.1 → (∀ r, A112 r = false → c1.2.2.2.1 r = c.2.2.2.1 r) → c1.2.2.2.2 = c.2.2.2.2 → c1.2.2.2.1 111 = c.2.2.2.1 111 → FC (V a') (c1.2.2.2.1 112) →
      ∃ c', gX1_tune_42 h c1 a' (nI ch') = some c' ∧ CT h V c' a' ch' ∧ (∀ r, ¬ r = 108 → c'.1 r = c.1 r) ∧ c'.2.1 = c.2.1 ∧ (∀ r, ¬ r = 108 → c'.2.2.1 r = c.2.2.1 r) ∧ (∀ r, A112 r = false → c'.2.2.2.1 r = c.2.2.2.1 r) ∧ c'.2.2.2.2 = c.2.2.2.2 := by
    intro c1 k1 k2 k3 k4 k5 k6 k7
    unfold gX1_tune_42
    rw [k3, e1, k_bs, hog, k_bs]
    cases og with
    | none =>
      have hn : vg (V a) = none := by
        cases hg : vg (V a) with
        | none => rfl
        | some code => rw [hg] at hLg; obtain ⟨_, _, _, q, -⟩ := hLg; cases q
      refine fin c1 k1 k2 k3 k4 k5 (z111 _ (fun k hk => ?_)) k7
      rw [k6]
      exact (e6 k hk).resolve_right (fun q => q.1 hn)
    | some n =>
      show ∃ c', (gfill_111 c1 0).bind _ = some c' ∧ _
      unfold gfill_111
      rw [k_bs]
      refine fin (cFA c1 1 111 0 2000) k1 k2 k3 (fun r hr => ?_) k5 (z111 _ (fun k hk => ?_)) ?_
      · have : ¬ r = 111 := fun q => by subst q; cases hr
        rw [← k4 r hr]
        exact if_neg this
      · show (if 111 = 111 then (fun i => if i < 2000 then nar 1 0 else c1.2.2.2.1 111 i) else c1.2.2.2.1 111) k = nI 0
        rw [if_pos rfl]
        show (if k < 2000 then nar 1 0 else c1.2.2.2.1 111 k) = nI 0
        rw [if_pos hk]
        decide
      · exact k7
  have s26 : ∀ c1 : Ch, c1.1 = c.1 → c1.2.1 = c.2.1 → c1.2.2.1 = c.2.2.1 → (∀ r, A112 r = false → c1.2.2.2.1 r = c.2.2.2.1 r) → c1.2.2.2.2 = c.2.2.2.2 → c1.2.2.2.1 111 = c.2.2.2.1 111 → (a = a' → c1.2.2.2.1 112 = c.2.2.2.1 112) → FC (V a') (c1.2.2.2.1 112) →
      ∃ c', gX1_tune_26 h c1 a' (nI ch') = some c' ∧ CT h V c' a' ch' ∧ (∀ r, ¬ r = 108 → c'.1 r = c.1 r) ∧ c'.2.1 = c.2.1 ∧ (∀ r, ¬ r = 108 → c'.2.2.1 r = c.2.2.1 r) ∧ (∀ r, A112 r = false → c'.2.2.2.1 r = c.2.2.2.1 r) ∧ c'.2.2.2.2 = c.2.2.2.2 := by
    intro c1 k1 k2 k3 k4 k5 k6 k6' k7
    unfold gX1_tune_26
    rw [k3, e1, k_bs, hH, k1, e4]
    by_cases q : a = a'
    · subst q
      rw [if_pos rfl]
      by_cases q2 : ch = ch'
      · subst q2
        rw [if_pos rfl]
        exact fin c1 k1 k2 k3 k4 k5 (by rw [k6]; exact e6) k7
      · rw [if_neg (fun z => q2 ((nI_eq (by omega) (by omega)).mp z))]
        exact s42 c1 k1 k2 k3 k4 k5 k6 k7
    · rw [if_neg (fun z => q (Option.some.inj z))]
      exact s42 c1 k1 k2 k3 k4 k5 k6 k7
  unfold gX1_tune
  rw [e1, k_bs, hH]
  by_cases q : a = a'
  · rw [if_pos (by rw [q])]
    exact s26 c rfl rfl rfl (fun _ _ => rfl) rfl rfl (fun _ => rfl) (by rw [← q]; exact e7)
  · rw [if_neg (fun z => q (Option.some.inj z)), k_bs, hof, k_bs]
    cases of_ with
    | none =>
      have hn : vf (V a) = none := by
        cases hg : vf (V a) with
        | none => rfl
        | some code => rw [hg] at hLf; obtain ⟨_, _, _, q, -⟩ := hLf; cases q
      exact s26 c rfl rfl rfl (fun _ _ => rfl) rfl rfl (fun _ => rfl) (z112 _ (fun k hk => (e7 k hk).resolve_right (fun q => q.1 hn)))
    | some n =>
      show ∃ c', (gfill_112 c 0).bind _ = some c' ∧ _
      unfold gfill_112
      rw [k_bs]
      refine s26 (cFA c 1 112 0 20000) rfl rfl rfl (fun r hr => ?_) rfl rfl (fun z => absurd z q) (z112 _ (fun k hk => ?_))
      · have : ¬ r = 112 := fun q => by subst q; cases hr
        exact if_neg this
      · show (if 112 = 112 then (fun i => if i < 20000 then nar 1 0 else c.2.2.2.1 112 i) else c.2.2.2.1 112) k = nI 0
        rw [if_pos rfl]
        show (if k < 20000 then nar 1 0 else c.2.2.2.1 112 k) = nI 0
        rw [if_pos hk]
        decide
end COURSE
