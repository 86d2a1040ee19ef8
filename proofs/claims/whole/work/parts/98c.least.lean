/-! by the pair's gap alone: it takes so many years at least -/
def kgr (v : Cv) (ch p g met dr dry : Nat) : Nat := kN (nI g - grw (vg v) ch p dr g met dry)
def Agm (v : Cv) (ch p : Nat) : Nat → Nat → Prop
  | 0, g => g = 0
  | n + 1, g => g = 0 ∨ ∃ met dr, met < vP v ∧ dr ≤ vD v ∧ Agm v ch p n (kgr v ch p g met dr 0) ∧ Agm v ch p n (kgr v ch p g met dr 1)
section LSTA
variable {v : Cv} {ch p : Nat}
theorem Agm_up : ∀ {n g : Nat}, Agm v ch p n g → Agm v ch p (n + 1) g
  | 0, g, h => Or.inl h
  | n + 1, g, h => by
    rcases h with h | ⟨met, dr, k1, k2, k3, k4⟩
    · exact Or.inl h
    · exact Or.inr ⟨met, dr, k1, k2, Agm_up k3, Agm_up k4⟩
theorem Agm_le {n m g : Nat} (h : n ≤ m) (H : Agm v ch p n g) : Agm v ch p m g := by
  obtain ⟨d, rfl⟩ : ∃ d, m = n + d := ⟨m - n, by omega⟩
  clear h
  induction d with
  | zero => exact H
  | succ d ih => exact Agm_up ih
theorem Agm_fix {j : Nat} (hj : ∀ g, g < 10 → Agm v ch p (j + 1) g → Agm v ch p j g) : ∀ n g, g < 10 → Agm v ch p n g → Agm v ch p j g
  | 0, g, hg, h => by
    have h : g = 0 := h
    exact Agm_le (Nat.zero_le j) h
  | n + 1, g, hg, h => by
    rcases h with h | ⟨met, dr, k1, k2, k3, k4⟩
    · exact Agm_le (Nat.zero_le j) h
    · exact hj g hg (Or.inr ⟨met, dr, k1, k2, Agm_fix hj n _ (kN_lt _) k3, Agm_fix hj n _ (kN_lt _) k4⟩)
/-- nine years tell it -/
theorem Agm_9 {n g : Nat} (hg : g < 10) (h : Agm v ch p n g) : Agm v ch p 9 g := by
  apply Classical.byContradiction
  intro hc
  have ex : ∀ j, ∃ g', j < 10 → (g' < 10 ∧ Agm v ch p (j + 1) g' ∧ ¬ Agm v ch p j g') := fun j => by
    by_cases hj : j < 10
    · apply Classical.byContradiction
      intro hc2
      have fx : ∀ g, g < 10 → Agm v ch p (j + 1) g → Agm v ch p j g := fun g' hg' h' => by
        apply Classical.byContradiction
        intro hc3
        exact hc2 ⟨g', fun _ => ⟨hg', h', hc3⟩⟩
      exact hc (Agm_le (show j ≤ 9 by omega) (Agm_fix fx n g hg h))
    · exact ⟨0, fun w => absurd w hj⟩
  obtain ⟨e, he⟩ := Classical.axiomOfChoice ex
  have le : 10 ≤ 9 := inj_le (f := fun j => e j - 1) (n := 10) (B := 9) (fun i j hij hj q => by
    obtain ⟨a1, a2, a3⟩ := he i (by omega)
    obtain ⟨b1, b2, b3⟩ := he j hj
    have ne : ∀ y, y < 10 → ¬ e y = 0 := fun y hy z => (he y hy).2.2 (Agm_le (n := 0) (Nat.zero_le y) z)
    have n1 := ne i (by omega)
    have n2 := ne j hj
    have q : e i - 1 = e j - 1 := q
    have q2 : e i = e j := by omega
    rw [← q2] at b3
    exact b3 (Agm_le (show i + 1 ≤ j by omega) a2)) (fun i hi => by
    have a1 := (he i hi).1
    show e i - 1 < 9
    omega)
  omega
theorem mets_lt {P s : Nat} (hp : p < P) (h : ¬ dg s p = 0) : mets P s < P := by
  induction P with
  | zero => omega
  | succ P ih =>
    have l := mets_le P s
    show mets P s + (if dg s P = 0 then 1 else 0) < P + 1
    by_cases e : p = P
    · subst e
      rw [if_neg h]
      omega
    · have := ih (by omega)
      split <;> omega
theorem d5_sum {P l : Nat} (hp : p < P) : d5 l p ≤ dsum P l := by
  induction P with
  | zero => omega
  | succ P ih =>
    show d5 l p ≤ dsum P l + d5 l P
    by_cases e : p = P
    · subst e; omega
    · have := ih (by omega)
      omega
theorem dg_Yr {s l dry : Nat} (hP : vP v ≤ 4) (hp : p < vP v) (hs : s < 10000) (h0 : ¬ dg s p = 0) : dg (Yr v ch s l dry) p = kgr v ch p (dg s p) (mets (vP v) s) (d5 l p) dry := by
  unfold Yr yr
  rw [if_neg (by omega)]
  have e : dg (yto (grw (vg v) ch) (vP v) s l dry) p = kgr v ch p (dg s p) (mets (vP v) s) (d5 l p) dry := by
    unfold yto
    rw [dg_cod (fun p => ygap_lt _ _ _ _ _ p) _ _ hp]
    exact if_neg h0
  split
  · rw [dg_up (by omega)]; exact e
  · exact e
theorem Fc_Ag (hP : vP v ≤ 4) (hp : p < vP v) : ∀ n s, Fcd (nxt v ch) (nxd v ch) (nL v) (fun t => dg t p) n s → Agm v ch p n (dg s p)
  | 0, s, h => h
  | n + 1, s, h => by
    rcases h with h | ⟨k, k1, k2, k3⟩
    · exact Or.inl h
    · by_cases z : dg s p = 0
      · exact Or.inl z
      · have a2 := Fc_Ag hP hp n _ k2
        have a3 := Fc_Ag hP hp n _ k3
        by_cases zf : s < 10000
        · refine Or.inr ⟨mets (vP v) s, d5 (ld v k) p, mets_lt hp z, ?_, ?_, ?_⟩
          · have h1 := (ld_isL k1).1.2 (by omega)
            have h2 := d5_sum (l := ld v k) hp
            omega
          · have e : dg (nxt v ch k s) p = kgr v ch p (dg s p) (mets (vP v) s) (d5 (ld v k) p) 0 := dg_Yr hP hp zf z
            rw [← e]; exact a2
          · have e : dg (nxd v ch k s) p = kgr v ch p (dg s p) (mets (vP v) s) (d5 (ld v k) p) 1 := dg_Yr hP hp zf z
            rw [← e]; exact a3
        · rw [nxt_ab v ch k s (by omega)] at a2
          exact Agm_up a2
end LSTA
section LSTC
variable {c : Ch} {h : Hp} {V : Nat → Cv} {a ch p : Nat} {lst : Nat → Nat}
def A124 (r : Nat) : Bool := A112 r || decide (r = 124)
theorem A124_112 {r : Nat} (h : A124 r = false) : A112 r = false := by
  unfold A124 at h
  rw [Bool.or_eq_false_iff] at h
  exact h.1
def LSx (c : Ch) (lst : Nat → Nat) : Prop := ∀ g, g < 10 → c.2.2.2.1 124 g = nI (lst g) ∧ lst g ≤ 20000
/-- whether by some met and drops both are near enough -/
theorem c_may {g y : Nat} (hp : p < 4) (hS : c.2.2.1 116 1 = some a) (hT : CT h V c a ch) (hl : LSx c lst) (hg : g < 10) (hy : y < 2 ^ 31) :
    ∃ (b : Nat) (c' : Ch), gX7_mayBeForced h c (nI p) (nI g) (nI y) = some (nI b, c') ∧ CT h V c' a ch ∧ cfr A112 c c' ∧ (b = 0 ∨ b = 1) ∧ (b = 0 → ∀ met dr, met < vP (V a) → dr ≤ vD (V a) → ¬ (lst (kgr (V a) ch p g met dr 0) ≤ y ∧ lst (kgr (V a) ch p g met dr 1) ≤ y)) := by
  have hW := hT.2.2.1
  have hC := hT.2.1
  have hP := hW.1
  have hD := hW.2.1
  show ∃ (b : Nat) (c' : Ch), gX7_mayBeForced_3 h c (nI p) (nI g) (nI y) (nI 0) = some (nI b, c') ∧ _
  unfold gX7_mayBeForced_3
  have K := lpw_inv (body := fun z : Int32 × Ch => gX7_mayBeForced_3b h z.2 (nI p) (nI g) (nI y) z.1)
    (fun met z => z.1 = nI met ∧ CT h V z.2 a ch ∧ cfr A112 c z.2 ∧ ∀ m' dr, m' < met → dr ≤ vD (V a) → ¬ (lst (kgr (V a) ch p g m' dr 0) ≤ y ∧ lst (kgr (V a) ch p g m' dr 1) ≤ y))
    (fun r => ∃ (b : Nat) (c' : Ch), r = (nI b, c') ∧ CT h V c' a ch ∧ cfr A112 c c' ∧ (b = 0 ∨ b = 1) ∧ (b = 0 → ∀ met dr, met < vP (V a) → dr ≤ vD (V a) → ¬ (lst (kgr (V a) ch p g met dr 0) ≤ y ∧ lst (kgr (V a) ch p g met dr 1) ≤ y))) (vP (V a)) ?_ ?_ (nI 0, c) ⟨rfl, hT, cfr_rfl _ c, fun m' dr h0 => by omega⟩
  · obtain ⟨r, e, b, c', e2, rest⟩ := K
    subst e2
    exact ⟨b, c', e, rest⟩
  · rintro met ⟨z1, z2⟩ hm ⟨g1, g2, g3, g4⟩
    have g1 : z1 = nI met := g1
    subst g1
    have g2 : CT h V z2 a ch := g2
    have g3 : cfr A112 c z2 := g3
    have s2 : z2.2.2.1 116 1 = some a := by rw [g3.2.2.1]; exact hS
    have m1 : ¬ vP (V a) ≤ met := by omega
    show (∃ s', gX7_mayBeForced_3b h z2 (nI p) (nI g) (nI y) (nI met) = some (.inl s') ∧ _) ∨ (∃ r, gX7_mayBeForced_3b h z2 (nI p) (nI g) (nI y) (nI met) = some (.inr r) ∧ _)
    have e3 : gX7_mayBeForced_3b h z2 (nI p) (nI g) (nI y) (nI met) = gX7_mayBeForced_18 h z2 (nI p) (nI g) (nI y) (nI met) (nI 0) := by
      unfold gX7_mayBeForced_3b
      simp (disch := omega) only [n_lit, n_of, n_o1, nI_add, pk_mul, nI_ltI, nI_leI, nI_eq, ↓lift_lt, ↓k_mt, ↓k_mp, if_true, if_false, Bool.false_eq_true, Nat.not_lt_zero, Nat.zero_le, Nat.reduceEqDiff, Nat.reduceLeDiff, Nat.reduceLT, s2, cv_P hC, m1]
    rw [e3]
    have J := lpw_inv (body := fun z : Int32 × Ch => gX7_mayBeForced_18b h z.2 (nI p) (nI g) (nI y) (nI met) z.1)
      (fun dr z => z.1 = nI dr ∧ CT h V z.2 a ch ∧ cfr A112 c z.2 ∧ ∀ d', d' < dr → ¬ (lst (kgr (V a) ch p g met d' 0) ≤ y ∧ lst (kgr (V a) ch p g met d' 1) ≤ y))
      (fun r => (∃ c', r = .inl (nI (met + 1), c') ∧ CT h V c' a ch ∧ cfr A112 c c' ∧ ∀ d', d' ≤ vD (V a) → ¬ (lst (kgr (V a) ch p g met d' 0) ≤ y ∧ lst (kgr (V a) ch p g met d' 1) ≤ y)) ∨ (∃ c', r = .inr (nI 1, c') ∧ CT h V c' a ch ∧ cfr A112 c c')) (vD (V a) + 1) ?_ ?_ (nI 0, z2) ⟨rfl, g2, g3, fun d' h0 => by omega⟩
    · obtain ⟨r, er, hr⟩ := J
      have er : gX7_mayBeForced_18 h z2 (nI p) (nI g) (nI y) (nI met) (nI 0) = some r := er
      rcases hr with ⟨c', rfl, a1, a2, a3⟩ | ⟨c', rfl, a1, a2⟩
      · refine Or.inl ⟨_, er, rfl, a1, a2, fun m' dr h1 h2 => ?_⟩
        by_cases z : m' = met
        · subst z; exact a3 dr h2
        · exact g4 m' dr (by omega) h2
      · exact Or.inr ⟨_, er, 1, c', rfl, a1, a2, Or.inr rfl, fun h0 => by omega⟩
    · rintro dr ⟨y1, y2⟩ hdr ⟨b1, b2, b3, b4⟩
      have b1 : y1 = nI dr := b1
      subst b1
      have b2 : CT h V y2 a ch := b2
      have b3 : cfr A112 c y2 := b3
      have s3 : y2.2.2.1 116 1 = some a := by rw [b3.2.2.1]; exact hS
      obtain ⟨c5, e5, T5, f5⟩ := c_growth (p := p) (drops := dr) (gap := g) (met := met) (dry := 0) b2 hp (by omega) hg (by omega) (by decide)
      obtain ⟨c6, e6, T6, f6⟩ := c_growth (p := p) (drops := dr) (gap := g) (met := met) (dry := 1) T5 hp (by omega) hg (by omega) (by decide)
      have F6 : cfr A112 c c6 := cfr_tr b3 (cfr_tr f5 f6)
      have l0 := kN_lt (nI g - grw (vg (V a)) ch p dr g met 0)
      have l1 := kN_lt (nI g - grw (vg (V a)) ch p dr g met 1)
      obtain ⟨v0, w0⟩ := hl (kgr (V a) ch p g met dr 0) l0
      obtain ⟨v1, w1⟩ := hl (kgr (V a) ch p g met dr 1) l1
      have v0 : c6.2.2.2.1 124 (kN (nI g - grw (vg (V a)) ch p dr g met 0)) = nI (lst (kgr (V a) ch p g met dr 0)) := by rw [F6.2.2.2.1 124 rfl]; exact v0
      have v1 : c6.2.2.2.1 124 (kN (nI g - grw (vg (V a)) ch p dr g met 1)) = nI (lst (kgr (V a) ch p g met dr 1)) := by rw [F6.2.2.2.1 124 rfl]; exact v1
      have d1 : ¬ vD (V a) < dr := by omega
      have kpt0 := c_kept (nI g - grw (vg (V a)) ch p dr g met 0)
      have kpt1 := c_kept (nI g - grw (vg (V a)) ch p dr g met 1)
      show (∃ s', gX7_mayBeForced_18b h y2 (nI p) (nI g) (nI y) (nI met) (nI dr) = some (.inl s') ∧ _) ∨ (∃ r, gX7_mayBeForced_18b h y2 (nI p) (nI g) (nI y) (nI met) (nI dr) = some (.inr r) ∧ _)
      unfold gX7_mayBeForced_18b gX7_mayBeForced_96
      have more : ∀ d', d' < dr + 1 → (y < lst (kgr (V a) ch p g met dr 0) ∨ y < lst (kgr (V a) ch p g met dr 1)) → ¬ (lst (kgr (V a) ch p g met d' 0) ≤ y ∧ lst (kgr (V a) ch p g met d' 1) ≤ y) := fun d' hd' hc => by
        by_cases z : d' = dr
        · subst z; omega
        · exact b4 d' (by omega)
      by_cases z0 : y < lst (kgr (V a) ch p g met dr 0)
      · refine Or.inl ⟨(nI (dr + 1), c6), ?_, rfl, T6, F6, fun d' hd' => more d' hd' (Or.inl z0)⟩
        simp (disch := omega) only [n_lit, n_of, n_o1, nI_add, pk_mul, nI_ltI, nI_leI, nI_eq, ↓lift_lt, ↓k_mt, ↓k_mp, if_true, if_false, Bool.false_eq_true, Nat.not_lt_zero, Nat.zero_le, Nat.reduceEqDiff, Nat.reduceLeDiff, Nat.reduceLT, s3, cv_D hC, d1, e5, kpt0, e6, kpt1, cA_g, v0, z0]
      · by_cases z1 : y < lst (kgr (V a) ch p g met dr 1)
        · refine Or.inl ⟨(nI (dr + 1), c6), ?_, rfl, T6, F6, fun d' hd' => more d' hd' (Or.inr z1)⟩
          simp (disch := omega) only [n_lit, n_of, n_o1, nI_add, pk_mul, nI_ltI, nI_leI, nI_eq, ↓lift_lt, ↓k_mt, ↓k_mp, if_true, if_false, Bool.false_eq_true, Nat.not_lt_zero, Nat.zero_le, Nat.reduceEqDiff, Nat.reduceLeDiff, Nat.reduceLT, s3, cv_D hC, d1, e5, kpt0, e6, kpt1, cA_g, v0, z0, v1, z1]
        · refine Or.inr ⟨.inr (nI 1, c6), ?_, Or.inr ⟨c6, rfl, T6, F6⟩⟩
          simp (disch := omega) only [n_lit, n_of, n_o1, nI_add, pk_mul, nI_ltI, nI_leI, nI_eq, ↓lift_lt, ↓k_mt, ↓k_mp, if_true, if_false, Bool.false_eq_true, Nat.not_lt_zero, Nat.zero_le, Nat.reduceEqDiff, Nat.reduceLeDiff, Nat.reduceLT, s3, cv_D hC, d1, e5, kpt0, e6, kpt1, cA_g, v0, z0, v1, z1]
    · rintro ⟨y1, y2⟩ ⟨b1, b2, b3, b4⟩
      have b1 : y1 = nI (vD (V a) + 1) := b1
      subst b1
      have b2 : CT h V y2 a ch := b2
      have b3 : cfr A112 c y2 := b3
      have s3 : y2.2.2.1 116 1 = some a := by rw [b3.2.2.1]; exact hS
      have d1 : vD (V a) < vD (V a) + 1 := by omega
      show ∃ r, gX7_mayBeForced_18b h y2 (nI p) (nI g) (nI y) (nI met) (nI (vD (V a) + 1)) = some (.inr r) ∧ _
      refine ⟨.inl (nI (met + 1), y2), ?_, Or.inl ⟨y2, rfl, b2, b3, fun d' hd' => b4 d' (by omega)⟩⟩
      unfold gX7_mayBeForced_18b gX7_mayBeForced_102
      simp (disch := omega) only [n_lit, n_of, n_o1, nI_add, pk_mul, nI_ltI, nI_leI, nI_eq, ↓lift_lt, ↓k_mt, ↓k_mp, if_true, if_false, Bool.false_eq_true, Nat.not_lt_zero, Nat.zero_le, Nat.reduceEqDiff, Nat.reduceLeDiff, Nat.reduceLT, s3, cv_D hC, d1, Option.map_some]
  · rintro ⟨z1, z2⟩ ⟨g1, g2, g3, g4⟩
    have g1 : z1 = nI (vP (V a)) := g1
    subst g1
    have g2 : CT h V z2 a ch := g2
    have g3 : cfr A112 c z2 := g3
    have s2 : z2.2.2.1 116 1 = some a := by rw [g3.2.2.1]; exact hS
    show ∃ r, gX7_mayBeForced_3b h z2 (nI p) (nI g) (nI y) (nI (vP (V a))) = some (.inr r) ∧ _
    refine ⟨(nI 0, z2), ?_, 0, z2, rfl, g2, g3, Or.inl rfl, fun _ => g4⟩
    unfold gX7_mayBeForced_3b
    simp (disch := omega) only [n_lit, n_of, n_o1, nI_add, pk_mul, nI_ltI, nI_leI, nI_eq, ↓lift_lt, ↓k_mt, ↓k_mp, if_true, if_false, Bool.false_eq_true, Nat.not_lt_zero, Nat.zero_le, Nat.reduceEqDiff, Nat.reduceLeDiff, Nat.reduceLT, s2, cv_P hC, Nat.le_refl]
/-- what is told behind y years, the gaps below g once more -/
def LTx (v : Cv) (ch p : Nat) (lst : Nat → Nat) (y g : Nat) : Prop := lst 0 = 0 ∧ (∀ x, x < 10 → lst x = 20000 ∨ lst x ≤ y + 1) ∧ (∀ n x, n ≤ y → x < 10 → Agm v ch p n x → lst x ≤ n) ∧ ∀ x, x < g → x < 10 → Agm v ch p (y + 1) x → lst x ≤ y + 1
theorem c_tellLeast (hp : p < vP (V a)) (hS : c.2.2.1 116 1 = some a) (hT : CT h V c a ch) :
    ∃ (c' : Ch) (lst : Nat → Nat), gX7_tellLeastYears h c (nI p) = some c' ∧ CT h V c' a ch ∧ cfr A124 c c' ∧ LSx c' lst ∧ lst 0 = 0 ∧ ∀ n g, g < 10 → Agm (V a) ch p n g → lst g ≤ n ∧ lst g < 20000 := by
  have hW := hT.2.2.1
  have hP := hW.1
  obtain ⟨cf, ecf⟩ : ∃ cf, cf = cFA c 0 124 (nI 20000) 10 := ⟨_, rfl⟩
  have fr : ∀ r, ¬ r = 124 → cf.2.2.2.1 r = c.2.2.2.1 r := fun r hr => by rw [ecf]; exact if_neg hr
  have fy : ∀ i, i < 10 → cf.2.2.2.1 124 i = nI 20000 := fun i hi => by
    rw [ecf]
    show (if 124 = 124 then (fun i => if i < 10 then nar 0 (nI 20000) else c.2.2.2.1 124 i) else c.2.2.2.1 124) i = _
    rw [if_pos rfl]
    show (if i < 10 then nar 0 (nI 20000) else c.2.2.2.1 124 i) = _
    rw [if_pos hi]
    rfl
  have g0 : gfill_124 c (nI 20000) = some cf := by rw [ecf]; rfl
  have ff : cfr A124 c cf := ⟨by rw [ecf]; rfl, by rw [ecf]; rfl, by rw [ecf]; rfl, fun r hr => fr r (fun e => by rw [e] at hr; cases hr), by rw [ecf]; rfl⟩
  obtain ⟨c2, e2⟩ : ∃ c2, c2 = cS cf 124 0 (nI 0) := ⟨_, rfl⟩
  have x2 : cWA cf 0 124 10 (nI 0) (nI 0) = some c2 := by rw [e2]; exact cW0_g cf _ (by decide) (by decide)
  have f2 : cfr A124 c c2 := by rw [e2]; exact cfr_S ff rfl
  have Tf : CT h V cf a ch := by
    obtain ⟨t1, t2, t3, t4, t5, t6, t7⟩ := hT
    exact ⟨by rw [ecf]; exact t1, t2, t3, by rw [ecf]; exact t4, t5, by rw [fr 111 (by decide)]; exact t6, by rw [fr 112 (by decide)]; exact t7⟩
  have T2 : CT h V c2 a ch := by rw [e2]; exact CT_w Tf (by decide) (by decide)
  have L2 : LSx c2 (fun x => if x = 0 then 0 else 20000) := fun x hx => by
    show _ = nI (if x = 0 then 0 else 20000) ∧ (if x = 0 then 0 else 20000) ≤ 20000
    rw [e2, cS_4, if_pos rfl]
    by_cases z : x = 0
    · rw [if_pos z, if_pos z]; exact ⟨rfl, by decide⟩
    · rw [if_neg z, if_neg z]; exact ⟨fy x hx, Nat.le_refl _⟩
  have B2 : LTx (V a) ch p (fun x => if x = 0 then 0 else 20000) 0 0 := by
    refine ⟨rfl, fun x hx => ?_, fun n x hn hx hA => ?_, fun x h0 => by omega⟩
    · show (if x = 0 then 0 else 20000) = 20000 ∨ (if x = 0 then 0 else 20000) ≤ 1
      split <;> omega
    · have e : n = 0 := by omega
      subst e
      have hA : x = 0 := hA
      show (if x = 0 then 0 else 20000) ≤ 0
      rw [if_pos hA]
      exact Nat.le_refl _
  -- a year: all gaps
  have year : ∀ (y : Nat) (c3 : Ch) (lst : Nat → Nat), y < 9 → CT h V c3 a ch → cfr A124 c c3 → LSx c3 lst → LTx (V a) ch p lst y 0 → ∃ (c4 : Ch) (lst' : Nat → Nat), gX7_tellLeastYears_27 h c3 (nI p) (nI (y + 1)) (nI 1) = some (.inl (nI (y + 1 + 1), c4)) ∧ CT h V c4 a ch ∧ cfr A124 c c4 ∧ LSx c4 lst' ∧ LTx (V a) ch p lst' (y + 1) 0 := by
    intro y c3 lst hy T3 f3 l3 b3
    have J := lpw_all (body := fun z : Int32 × Ch => gX7_tellLeastYears_27b h z.2 (nI p) (nI (y + 1)) z.1)
      (fun i z => z.1 = nI (i + 1) ∧ CT h V z.2 a ch ∧ cfr A124 c z.2 ∧ ∃ lst' : Nat → Nat, LSx z.2 lst' ∧ LTx (V a) ch p lst' y (i + 1))
      (fun r => ∃ (c4 : Ch) (lst' : Nat → Nat), r = .inl (nI (y + 1 + 1), c4) ∧ CT h V c4 a ch ∧ cfr A124 c c4 ∧ LSx c4 lst' ∧ LTx (V a) ch p lst' (y + 1) 0) 9 ?_ ?_ (nI 1, c3) ⟨rfl, T3, f3, lst, l3, b3.1, b3.2.1, b3.2.2.1, fun x hx _ _ => by
        have e : x = 0 := by omega
        rw [e, b3.1]
        omega⟩
    · obtain ⟨r, er, c4, lst', e2, rest⟩ := J
      subst e2
      exact ⟨c4, lst', er, rest⟩
    · rintro i ⟨z1, z2⟩ hi ⟨g1, g2, g3, lst1, g4, g5⟩
      have g1 : z1 = nI (i + 1) := g1
      subst g1
      have g2 : CT h V z2 a ch := g2
      have g3 : cfr A124 c z2 := g3
      have g4 : LSx z2 lst1 := g4
      have s2 : z2.2.2.1 116 1 = some a := by rw [g3.2.2.1]; exact hS
      obtain ⟨v1, v2⟩ := g4 (i + 1) (by omega)
      have i9 : ¬ 9 < i + 1 := by omega
      obtain ⟨b0, b1, b2, b3'⟩ := g5
      show ∃ s', gX7_tellLeastYears_27b h z2 (nI p) (nI (y + 1)) (nI (i + 1)) = some (.inl s') ∧ _
      by_cases zN : lst1 (i + 1) = 20000
      · obtain ⟨b, c5, e5, T5, f5, hb, hb0⟩ := c_may (p := p) (g := i + 1) (y := y) (by omega) s2 g2 g4 (by omega) (by omega)
        have F5 : cfr A124 c c5 := cfr_tr g3 (cfr_le f5 (fun r hr => A124_112 hr))
        have L5 : LSx c5 lst1 := fun x hx => by rw [f5.2.2.2.1 124 rfl]; exact g4 x hx
        have sb : nI (y + 1) - nI 1 = nI y := dn_s y
        rcases hb with hb | hb
        · subst hb
          refine ⟨(nI (i + 1 + 1), c5), ?_, rfl, T5, F5, lst1, L5, b0, b1, b2, fun x hx hx2 hA => ?_⟩
          · unfold gX7_tellLeastYears_27b gX7_tellLeastYears_64
            simp (disch := omega) only [n_lit, n_of, n_o1, nI_add, pk_mul, nI_ltI, nI_leI, nI_eq, ↓lift_lt, ↓k_mt, ↓k_mp, if_true, if_false, Bool.false_eq_true, Nat.not_lt_zero, Nat.zero_le, Nat.reduceEqDiff, Nat.reduceLeDiff, Nat.reduceLT, i9, cA_g, v1, eq_true zN, sb, e5]
          · by_cases zx : x = i + 1
            · exfalso
              subst zx
              rcases hA with hA | ⟨met, dr, k1, k2, k3, k4⟩
              · omega
              · exact hb0 rfl met dr k1 k2 ⟨b2 y _ (Nat.le_refl _) (kN_lt _) k3, b2 y _ (Nat.le_refl _) (kN_lt _) k4⟩
            · exact b3' x (by omega) hx2 hA
        · subst hb
          have i1 : ¬ (1 = 0) := by decide
          obtain ⟨c6, e6⟩ : ∃ c6, c6 = cS c5 124 (i + 1) (nI (y + 1)) := ⟨_, rfl⟩
          have x6 : cWA c5 0 124 10 (nI (i + 1)) (nI (y + 1)) = some c6 := by rw [e6]; exact cW0_g c5 _ (by omega) (by decide)
          refine ⟨(nI (i + 1 + 1), c6), ?_, rfl, by rw [e6]; exact CT_w T5 (by decide) (by decide), by rw [e6]; exact cfr_S F5 rfl, fun x => if x = i + 1 then y + 1 else lst1 x, fun x hx => ?_, ?_, fun x hx => ?_, fun n x hn hx hA => ?_, fun x hx hx2 hA => ?_⟩
          · unfold gX7_tellLeastYears_27b gX7_tellLeastYears_64
            simp (disch := omega) only [n_lit, n_of, n_o1, nI_add, pk_mul, nI_ltI, nI_leI, nI_eq, ↓lift_lt, ↓k_mt, ↓k_mp, if_true, if_false, Bool.false_eq_true, Nat.not_lt_zero, Nat.zero_le, Nat.reduceEqDiff, Nat.reduceLeDiff, Nat.reduceLT, i9, cA_g, v1, eq_true zN, sb, e5, i1, x6]
          · show _ = nI (if x = i + 1 then y + 1 else lst1 x) ∧ (if x = i + 1 then y + 1 else lst1 x) ≤ 20000
            rw [e6, cS_4, if_pos rfl]
            by_cases z : x = i + 1
            · rw [if_pos z, if_pos z]; exact ⟨rfl, by omega⟩
            · rw [if_neg z, if_neg z]; exact L5 x hx
          · show (if 0 = i + 1 then y + 1 else lst1 0) = 0
            rw [if_neg (by omega)]; exact b0
          · show (if x = i + 1 then y + 1 else lst1 x) = 20000 ∨ (if x = i + 1 then y + 1 else lst1 x) ≤ y + 1
            by_cases z : x = i + 1
            · rw [if_pos z]; exact Or.inr (Nat.le_refl _)
            · rw [if_neg z]; exact b1 x hx
          · show (if x = i + 1 then y + 1 else lst1 x) ≤ n
            have q := b2 n x hn hx hA
            by_cases z : x = i + 1
            · rw [z, zN] at q; omega
            · rw [if_neg z]; exact q
          · show (if x = i + 1 then y + 1 else lst1 x) ≤ y + 1
            by_cases z : x = i + 1
            · rw [if_pos z]; exact Nat.le_refl _
            · rw [if_neg z]; exact b3' x (by omega) hx2 hA
      · refine ⟨(nI (i + 1 + 1), z2), ?_, rfl, g2, g3, lst1, g4, b0, b1, b2, fun x hx hx2 hA => ?_⟩
        · unfold gX7_tellLeastYears_27b gX7_tellLeastYears_64
          simp (disch := omega) only [n_lit, n_of, n_o1, nI_add, pk_mul, nI_ltI, nI_leI, nI_eq, ↓lift_lt, ↓k_mt, ↓k_mp, if_true, if_false, Bool.false_eq_true, Nat.not_lt_zero, Nat.zero_le, Nat.reduceEqDiff, Nat.reduceLeDiff, Nat.reduceLT, i9, cA_g, v1, zN]
        · by_cases zx : x = i + 1
          · subst zx
            have := b1 (i + 1) hx2
            omega
          · exact b3' x (by omega) hx2 hA
    · rintro ⟨z1, z2⟩ ⟨g1, g2, g3, lst1, g4, g5⟩
      have g1 : z1 = nI (9 + 1) := g1
      subst g1
      show ∃ r, gX7_tellLeastYears_27b h z2 (nI p) (nI (y + 1)) (nI (9 + 1)) = some (.inr r) ∧ _
      refine ⟨.inl (nI (y + 1 + 1), z2), ?_, z2, lst1, rfl, g2, g3, g4, g5.1, fun x hx => ?_, fun n x hn hx hA => ?_, fun x h0 => by omega⟩
      · have i9 : 9 < 9 + 1 := by decide
        unfold gX7_tellLeastYears_27b gX7_tellLeastYears_70
        simp (disch := omega) only [n_lit, n_of, n_o1, nI_add, pk_mul, nI_ltI, nI_leI, nI_eq, ↓lift_lt, ↓k_mt, ↓k_mp, if_true, if_false, Bool.false_eq_true, Nat.not_lt_zero, Nat.zero_le, Nat.reduceEqDiff, Nat.reduceLeDiff, Nat.reduceLT, i9, Option.map_some]
      · have := g5.2.1 x hx
        omega
      · by_cases z : n = y + 1
        · subst z
          exact g5.2.2.2 x (by omega) hx hA
        · exact g5.2.2.1 n x (by omega) hx hA
  have J := lpw_all (body := fun z : Int32 × Ch => gX7_tellLeastYears_19b h z.2 (nI p) z.1)
    (fun y z => z.1 = nI (y + 1) ∧ CT h V z.2 a ch ∧ cfr A124 c z.2 ∧ ∃ lst' : Nat → Nat, LSx z.2 lst' ∧ LTx (V a) ch p lst' y 0)
    (fun c' => CT h V c' a ch ∧ cfr A124 c c' ∧ ∃ lst' : Nat → Nat, LSx c' lst' ∧ LTx (V a) ch p lst' 9 0) 9 ?_ ?_ (nI 1, c2) ⟨rfl, T2, f2, _, L2, B2⟩
  · obtain ⟨c', e, a1, a2, lst', a3, a4⟩ := J
    have e : gX7_tellLeastYears_19 h c2 (nI p) (nI 1) = some c' := e
    refine ⟨c', lst', ?_, a1, a2, a3, a4.1, fun n g hg hA => ?_⟩
    · unfold gX7_tellLeastYears
      simp (disch := omega) only [n_lit, n_of, n_o1, nI_add, pk_mul, nI_ltI, nI_leI, nI_eq, ↓lift_lt, ↓k_mt, ↓k_mp, if_true, if_false, Bool.false_eq_true, Nat.not_lt_zero, Nat.zero_le, Nat.reduceEqDiff, Nat.reduceLeDiff, Nat.reduceLT, g0, x2, e]
    · have h9 := a4.2.2.1 9 g (Nat.le_refl _) hg (Agm_9 hg hA)
      by_cases z : n ≤ 9
      · exact ⟨a4.2.2.1 n g z hg hA, by omega⟩
      · exact ⟨by omega, by omega⟩
  · rintro y ⟨z1, z2⟩ hy ⟨g1, g2, g3, lst1, g4, g5⟩
    have g1 : z1 = nI (y + 1) := g1
    subst g1
    obtain ⟨c4, lst', e, a1, a2, a3, a4⟩ := year y z2 lst1 hy g2 g3 g4 g5
    have i9 : ¬ 9 < y + 1 := by omega
    show ∃ s', gX7_tellLeastYears_19b h z2 (nI p) (nI (y + 1)) = some (.inl s') ∧ _
    refine ⟨(nI (y + 1 + 1), c4), ?_, rfl, a1, a2, lst', a3, a4⟩
    unfold gX7_tellLeastYears_19b
    simp (disch := omega) only [n_lit, n_of, n_o1, nI_add, pk_mul, nI_ltI, nI_leI, nI_eq, ↓lift_lt, ↓k_mt, ↓k_mp, if_true, if_false, Bool.false_eq_true, Nat.not_lt_zero, Nat.zero_le, Nat.reduceEqDiff, Nat.reduceLeDiff, Nat.reduceLT, i9, e]
  · rintro ⟨z1, z2⟩ ⟨g1, g2, g3, lst1, g4, g5⟩
    have g1 : z1 = nI (9 + 1) := g1
    subst g1
    show ∃ r, gX7_tellLeastYears_19b h z2 (nI p) (nI (9 + 1)) = some (.inr r) ∧ _
    refine ⟨z2, ?_, g2, g3, lst1, g4, g5⟩
    have i9 : 9 < 9 + 1 := by decide
    unfold gX7_tellLeastYears_19b
    simp (disch := omega) only [n_lit, n_of, n_o1, nI_add, pk_mul, nI_ltI, nI_leI, nI_eq, ↓lift_lt, ↓k_mt, ↓k_mp, if_true, if_false, Bool.false_eq_true, Nat.not_lt_zero, Nat.zero_le, Nat.reduceEqDiff, Nat.reduceLeDiff, Nat.reduceLT, i9]
end LSTC
