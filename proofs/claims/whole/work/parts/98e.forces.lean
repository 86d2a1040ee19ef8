/-! forces, best -/
abbrev Fq (v : Cv) (ch p n t : Nat) : Prop := Fcd (nxt v ch) (nxd v ch) (nL v) (fun t => dg t p) n t
abbrev FqS (v : Cv) (ch p n t : Nat) : Prop := Fst (nxt v ch) (nxd v ch) (nL v) (fun t => dg t p) n t
def cnl (lk : Nat → Nat) (R : Nat) : Nat := csum (fun j => if lk j = 0 then 0 else 1) R
theorem cnl_le (lk : Nat → Nat) (R : Nat) : cnl lk R ≤ R := csum_b (fun i => by
  show (if lk i = 0 then 0 else 1) ≤ 1
  split <;> omega) R
section FRC
variable {c0 c : Ch} {h : Hp} {V : Nat → Cv} {a ch p s0 st : Nat} {lst u lk : Nat → Nat} {R e : Nat}
def RLx (v : Cv) (ch p : Nat) (u lk : Nat → Nat) (R e i : Nat) : Prop := ∀ j, j < R → lk j ≤ e + 1 ∧ (¬ lk j = 0 → FqS v ch p (lk j) (u j)) ∧ (lk j = 0 → ¬ Fq v ch p e (u j)) ∧ (j < i → lk j = 0 → ¬ Fq v ch p (e + 1) (u j))
theorem RLx_LK {v : Cv} {i : Nat} (he : e ≤ 20000) (H : RLx v ch p u lk R e i) : LKx v ch p u lk R e := by
  intro j hj
  obtain ⟨h1, h2, h3, -⟩ := H j hj
  refine ⟨by omega, fun w => Fcd_le w.2 (h2 w.1).1, fun w => ?_⟩
  have n0 : ¬ lk j = 0 := fun z => h3 z w
  refine ⟨n0, ?_⟩
  apply Classical.byContradiction
  intro hc
  exact (h2 n0).2 e (by omega) w
theorem Fq_FB {v : Cv} {s : Nat} (h0 : ¬ dg s p = 0) : Fq v ch p (e + 1) s ↔ ∃ k, k < nL v ∧ FBx v ch p e k s := by
  constructor
  · rintro (w | ⟨k, k1, k2, k3⟩)
    · exact absurd w h0
    · exact ⟨k, k1, k2, k3⟩
  · rintro ⟨k, k1, k2, k3⟩
    exact Or.inr ⟨k, k1, k2, k3⟩
theorem GVx_lk {i y : Nat} (H : GVx p lst st c u lk R) (hi : i < R) : GVx p lst st (cS c 119 (u i) (nI y)) u (fun j => if j = i then y else lk j) R := by
  obtain ⟨h1, h2, h3, h4, h5, h6⟩ := H
  refine ⟨h1, h2, fun j hj => ?_, h4, by rw [cS_n _ (by decide)]; exact h5, by unfold LSx at *; rw [cS_n _ (by decide)]; exact h6⟩
  show u j < 10000 ∧ 0 < dg (u j) p ∧ (cS c 119 (u i) (nI y)).2.2.2.1 118 j = nI (u j) ∧ (cS c 119 (u i) (nI y)).2.2.2.1 119 (u j) = nI (if j = i then y else lk j)
  rw [cS_n _ (by decide), cS_4, if_pos rfl]
  obtain ⟨a1, a2, a3, a4⟩ := h3 j hj
  by_cases z : j = i
  · subst z
    rw [if_pos rfl, if_pos rfl]
    exact ⟨a1, a2, a3, rfl⟩
  · have ne : ¬ u j = u i := fun w => by
      rcases Nat.lt_trichotomy j i with l | l | l
      · exact h4 j i l hi w
      · exact z l
      · exact h4 i j l hj w.symm
    rw [if_neg z, if_neg ne]
    exact ⟨a1, a2, a3, a4⟩
/-- one year -/
theorem fw_year (hp : p < vP (V a)) (hst : st < 2 ^ 31) (he : e ≤ 20000) (K : KSx c0 h V a ch c) (H : GVx p lst st c u lk R) (h0 : 0 < R) (hu : u 0 = s0) (hC : CLx (V a) ch p lst u R R 0) (hA : ∀ n g, g < 10 → Agm (V a) ch p n g → lst g ≤ n ∧ lst g < 20000) (hL : RLx (V a) ch p u lk R e 0) :
    ∃ (c' : Ch) (lk' : Nat → Nat) (b : Nat), gX7_forcedWithin_65 h c (nI s0) (nI p) (nI 0) (nI (e + 1)) (nI 0) = some (if lk' 0 = 0 then .inl (nI b, nI (e + 1 + 1), c') else .inr (nI (e + 1), c')) ∧ KSx c0 h V a ch c' ∧ GVx p lst st c' u lk' R ∧ RLx (V a) ch p u lk' R e R ∧ ((b = 0 ∧ lk' = lk) ∨ (b = 1 ∧ cnl lk R < cnl lk' R)) := by
  have hW := K.2.1.2.2.1
  have hP := hW.1
  obtain ⟨hL0, hL35⟩ := nL_b hW
  have Rb := GVx_R H
  unfold gX7_forcedWithin_65
  have J := lpw_all (body := fun z : Int32 × Int32 × Ch => gX7_forcedWithin_65b h z.2.2 (nI s0) (nI p) (nI (e + 1)) z.1 z.2.1)
    (fun i z => ∃ (b : Nat) (lk' : Nat → Nat), z.1 = nI b ∧ z.2.1 = nI i ∧ KSx c0 h V a ch z.2.2 ∧ GVx p lst st z.2.2 u lk' R ∧ RLx (V a) ch p u lk' R e i ∧ ((b = 0 ∧ lk' = lk) ∨ (b = 1 ∧ cnl lk R < cnl lk' R)))
    (fun r => ∃ (c' : Ch) (lk' : Nat → Nat) (b : Nat), r = (if lk' 0 = 0 then .inl (nI b, nI (e + 1 + 1), c') else .inr (nI (e + 1), c')) ∧ KSx c0 h V a ch c' ∧ GVx p lst st c' u lk' R ∧ RLx (V a) ch p u lk' R e R ∧ ((b = 0 ∧ lk' = lk) ∨ (b = 1 ∧ cnl lk R < cnl lk' R))) R ?_ ?_ (nI 0, nI 0, c) ⟨0, lk, rfl, rfl, K, H, hL, Or.inl ⟨rfl, rfl⟩⟩
  · obtain ⟨r, er, c', lk', b, e2, rest⟩ := J
    subst e2
    exact ⟨c', lk', b, er, rest⟩
  · rintro i ⟨z1, z2, z3⟩ hi ⟨b, lk1, g1, g2, g3o, g4o, g5, g6⟩
    have g1 : z1 = nI b := g1
    have g2 : z2 = nI i := g2
    subst g1
    subst g2
    have g3 : KSx c0 h V a ch z3 := g3o
    have g4 : GVx p lst st z3 u lk1 R := g4o
    have x12 := g4.1
    obtain ⟨o1, o2, o3, o4⟩ := g4.2.2.1 i hi
    obtain ⟨l1, l2, l3, l4⟩ := g5 i hi
    have dc := c_digit (s := u i) (p := p) (by omega) (by omega)
    have dl := dg_lt (u i) p
    obtain ⟨t1, t2⟩ := g4.2.2.2.2.2 (dg (u i) p) dl
    have k1 : ¬ R ≤ i := by omega
    have lo := c_linkOf (h := h) (c := z3) (show u i < 20000 by omega)
    rw [o4] at lo
    have i1 : ¬ (1 = 0) := by decide
    have skip : ∀ {c5 : Ch}, KSx c0 h V a ch c5 → GVx p lst st c5 u lk1 R → ¬ Fq (V a) ch p (e + 1) (u i) ∨ ¬ lk1 i = 0 → ∃ (b' : Nat) (lk' : Nat → Nat), nI b = nI b' ∧ nI (i + 1) = nI (i + 1) ∧ KSx c0 h V a ch c5 ∧ GVx p lst st c5 u lk' R ∧ RLx (V a) ch p u lk' R e (i + 1) ∧ ((b' = 0 ∧ lk' = lk) ∨ (b' = 1 ∧ cnl lk R < cnl lk' R)) := fun {c5} q1 q2 q3 => ⟨b, lk1, rfl, rfl, q1, q2, fun j hj => by
      obtain ⟨a1, a2, a3, a4⟩ := g5 j hj
      refine ⟨a1, a2, a3, fun hji h0 => ?_⟩
      by_cases z : j = i
      · subst z
        rcases q3 with q3 | q3
        · exact q3
        · exact absurd h0 q3
      · exact a4 (by omega) h0, g6⟩
    show ∃ s', gX7_forcedWithin_65b h z3 (nI s0) (nI p) (nI (e + 1)) (nI b) (nI i) = some (.inl s') ∧ _
    by_cases y0 : lk1 i = 0
    · by_cases y1 : e + 1 < lst (dg (u i) p)
      · refine ⟨(nI b, nI (i + 1), z3), ?_, skip g3 g4 (Or.inl (fun w => by have := (hA _ _ dl (Fc_Ag hP hp _ _ w)).1; omega))⟩
        unfold gX7_forcedWithin_65b gX7_forcedWithin_112 gX7_forcedWithin_113 gX7_forcedWithin_146
        simp (disch := omega) only [n_lit, n_of, n_o1, nI_add, pk_mul, nI_ltI, nI_leI, nI_eq, ↓lift_lt, ↓k_mt, ↓k_mp, if_true, if_false, Bool.false_eq_true, Nat.not_lt_zero, Nat.zero_le, Nat.reduceEqDiff, Nat.reduceLeDiff, Nat.reduceLT, x12, k1, cA_g, o3, lo, eq_true y0, dc, t1, y1]
      · obtain ⟨y, c5, e5, T5, f5, X⟩ := c_forcing (s := u i) (e := e) hp hst (by omega) o1 g3.2.2.1 g3.2.1 g4 hA (RLx_LK he g5) (fun k hk => hC i k hi hk (Or.inl hi))
        have K5 := KSx_w g3 T5 f5
        have V5 : GVx p lst st c5 u lk1 R := GVx_w f5 g4
        have sb : nI (e + 1) - nI 1 = nI e := dn_s e
        rcases X with ⟨k, w1, w2, w3, w4⟩ | ⟨w1, w2⟩
        · subst w4
          have ldb := (ld_isL w1).2
          have n1 := nI_ne1 (n := ld (V a) k) (by omega)
          have x6 : cWA c5 0 119 20000 (nI (u i)) (nI (e + 1)) = some (cS c5 119 (u i) (nI (e + 1))) := cW0_g c5 _ (by omega) (by decide)
          refine ⟨(nI 1, nI (i + 1), cS c5 119 (u i) (nI (e + 1))), ?_, 1, fun j => if j = i then e + 1 else lk1 j, rfl, rfl, KSx_S K5 (by omega), GVx_lk V5 hi, fun j hj => ?_, Or.inr ⟨rfl, ?_⟩⟩
          · unfold gX7_forcedWithin_65b gX7_forcedWithin_113 gX7_forcedWithin_146
            simp (disch := omega) only [n_lit, n_of, n_o1, nI_add, pk_mul, nI_ltI, nI_leI, nI_eq, ↓lift_lt, ↓k_mt, ↓k_mp, if_true, if_false, Bool.false_eq_true, Nat.not_lt_zero, Nat.zero_le, Nat.reduceEqDiff, Nat.reduceLeDiff, Nat.reduceLT, x12, k1, cA_g, o3, lo, eq_true y0, dc, t1, y1, i1, sb, e5, n1, x6]
          · show (if j = i then e + 1 else lk1 j) ≤ e + 1 ∧ (¬ (if j = i then e + 1 else lk1 j) = 0 → FqS (V a) ch p (if j = i then e + 1 else lk1 j) (u j)) ∧ ((if j = i then e + 1 else lk1 j) = 0 → ¬ Fq (V a) ch p e (u j)) ∧ (j < i + 1 → (if j = i then e + 1 else lk1 j) = 0 → ¬ Fq (V a) ch p (e + 1) (u j))
            by_cases z : j = i
            · subst z
              rw [if_pos rfl]
              refine ⟨Nat.le_refl _, fun _ => ⟨(Fq_FB (by omega)).mpr ⟨k, w1, w2⟩, fun n hn w => l3 y0 (Fcd_le (show n ≤ e by omega) w)⟩, fun w => by omega, fun _ w => by omega⟩
            · rw [if_neg z]
              obtain ⟨a1, a2, a3, a4⟩ := g5 j hj
              exact ⟨a1, a2, a3, fun hji h0 => a4 (by omega) h0⟩
          · have c1 := csum_one (f := fun j => if lk1 j = 0 then 0 else 1) (g := fun j => if (if j = i then e + 1 else lk1 j) = 0 then 0 else 1) (k := i) (by
              show (if (if i = i then e + 1 else lk1 i) = 0 then 0 else 1) = (if lk1 i = 0 then 0 else 1) + 1
              rw [if_pos rfl, if_neg (by omega), if_pos y0]) (fun t ht => by
              show (if (if t = i then e + 1 else lk1 t) = 0 then 0 else 1) = (if lk1 t = 0 then 0 else 1)
              rw [if_neg ht]) R
            rw [if_pos hi] at c1
            have c2 : cnl (fun j => if j = i then e + 1 else lk1 j) R = cnl lk1 R + 1 := c1
            rw [c2]
            rcases g6 with ⟨-, q⟩ | ⟨-, q⟩
            · rw [q]; omega
            · omega
        · subst w2
          refine ⟨(nI b, nI (i + 1), c5), ?_, skip K5 V5 (Or.inl (fun w => ?_))⟩
          · unfold gX7_forcedWithin_65b gX7_forcedWithin_113 gX7_forcedWithin_146
            simp (disch := omega) only [n_lit, n_of, n_o1, nI_add, pk_mul, nI_ltI, nI_leI, nI_eq, ↓lift_lt, ↓k_mt, ↓k_mp, if_true, if_false, Bool.false_eq_true, Nat.not_lt_zero, Nat.zero_le, Nat.reduceEqDiff, Nat.reduceLeDiff, Nat.reduceLT, x12, k1, cA_g, o3, lo, eq_true y0, dc, t1, y1, i1, sb, e5]
          · obtain ⟨k, q1, q2⟩ := (Fq_FB (by omega)).mp w
            exact w1 k q1 q2
    · refine ⟨(nI b, nI (i + 1), z3), ?_, skip g3 g4 (Or.inr y0)⟩
      unfold gX7_forcedWithin_65b gX7_forcedWithin_112 gX7_forcedWithin_113 gX7_forcedWithin_146
      simp (disch := omega) only [n_lit, n_of, n_o1, nI_add, pk_mul, nI_ltI, nI_leI, nI_eq, ↓lift_lt, ↓k_mt, ↓k_mp, if_true, if_false, Bool.false_eq_true, Nat.not_lt_zero, Nat.zero_le, Nat.reduceEqDiff, Nat.reduceLeDiff, Nat.reduceLT, x12, k1, cA_g, o3, lo, y0]
  · rintro ⟨z1, z2, z3⟩ ⟨b, lk1, g1, g2, g3o, g4o, g5, g6⟩
    have g1 : z1 = nI b := g1
    have g2 : z2 = nI R := g2
    subst g1
    subst g2
    have g3 : KSx c0 h V a ch z3 := g3o
    have g4 : GVx p lst st z3 u lk1 R := g4o
    have x12 := g4.1
    obtain ⟨o1, o2, o3, o4⟩ := g4.2.2.1 0 h0
    obtain ⟨l1, -⟩ := g5 0 h0
    rw [hu] at o4 o1
    have lo := c_linkOf (h := h) (c := z3) (show s0 < 20000 by omega)
    rw [o4] at lo
    show ∃ r, gX7_forcedWithin_65b h z3 (nI s0) (nI p) (nI (e + 1)) (nI b) (nI R) = some (.inr r) ∧ _
    refine ⟨if lk1 0 = 0 then .inl (nI b, nI (e + 1 + 1), z3) else .inr (nI (e + 1), z3), ?_, z3, lk1, b, rfl, g3, g4, g5, g6⟩
    unfold gX7_forcedWithin_65b gX7_forcedWithin_152
    by_cases z : lk1 0 = 0
    · rw [if_pos z]
      simp (disch := omega) only [n_lit, n_of, n_o1, nI_add, pk_mul, nI_ltI, nI_leI, nI_eq, ↓lift_lt, ↓k_mt, ↓k_mp, if_true, if_false, Bool.false_eq_true, Nat.not_lt_zero, Nat.zero_le, Nat.reduceEqDiff, Nat.reduceLeDiff, Nat.reduceLT, x12, Nat.le_refl, lo, eq_true z, Option.map_some]
    · rw [if_neg z]
      simp (disch := omega) only [n_lit, n_of, n_o1, nI_add, pk_mul, nI_ltI, nI_leI, nI_eq, ↓lift_lt, ↓k_mt, ↓k_mp, if_true, if_false, Bool.false_eq_true, Nat.not_lt_zero, Nat.zero_le, Nat.reduceEqDiff, Nat.reduceLeDiff, Nat.reduceLT, x12, Nat.le_refl, lo, z, Option.map_some]
/-- nothing came by a year: nothing will -/
theorem fw_fix (hP : vP (V a) ≤ 4) (hp : p < vP (V a)) (hA : ∀ n g, g < 10 → Agm (V a) ch p n g → lst g ≤ n ∧ lst g < 20000) (hC : CLx (V a) ch p lst u R R 0) (hf : ∀ j, j < R → Fq (V a) ch p (e + 1) (u j) → Fq (V a) ch p e (u j)) : ∀ n j, j < R → Fq (V a) ch p n (u j) → Fq (V a) ch p e (u j)
  | 0, j, _, h => Fcd_le (Nat.zero_le e) h
  | n + 1, j, hj, h => by
    rcases h with h | ⟨k, k1, k2, k3⟩
    · exact Fcd_0 (gp := fun t => dg t p) h e
    · have one : ∀ t, Clx p lst u R t → Fq (V a) ch p n t → Fq (V a) ch p e t := fun t hcl w => by
        by_cases z0 : dg t p = 0
        · exact Fcd_0 (gp := fun t => dg t p) z0 e
        · rcases hcl with q | q | q | ⟨i, i1, i2⟩
          · exact absurd (Fcd_fall n t q w) z0
          · exact absurd q z0
          · have := (hA n _ (dg_lt t p) (Fc_Ag hP hp n t w)).2
            omega
          · rw [← i2] at w ⊢
            exact fw_fix hP hp hA hC hf n i i1 w
      obtain ⟨q1, q2⟩ := hC j k hj k1 (Or.inl hj)
      exact hf j hj (Or.inr ⟨k, k1, one _ q1 k2, one _ q2 k3⟩)
/-- all years -/
theorem fw_years (hp : p < vP (V a)) (hst : st < 2 ^ 31) (K : KSx c0 h V a ch c) (H : GVx p lst st c u (fun _ => 0) R) (h0 : 0 < R) (hu : u 0 = s0) (hC : CLx (V a) ch p lst u R R 0) (hA : ∀ n g, g < 10 → Agm (V a) ch p n g → lst g ≤ n ∧ lst g < 20000) :
    ∃ (y : Int32) (c' : Ch), gX7_forcedWithin_48 h c (nI s0) (nI p) (nI 1) (nI 1) = some (y, c') ∧ KSx c0 h V a ch c' ∧ ∃ lk : Nat → Nat, GVx p lst st c' u lk R ∧ ((y = -nI 1 ∧ ∀ n, ¬ Fq (V a) ch p n s0) ∨ ∃ e, e ≤ 20000 ∧ y = nI (e + 1) ∧ FqS (V a) ch p (e + 1) s0 ∧ LKx (V a) ch p u lk R e) := by
  have hW := K.2.1.2.2.1
  have hP := hW.1
  have Rb := GVx_R H
  unfold gX7_forcedWithin_48
  have J := lpw_inv (body := fun z : Int32 × Int32 × Ch => gX7_forcedWithin_48b h z.2.2 (nI s0) (nI p) z.1 z.2.1)
    (fun e z => ∃ (b : Nat) (lk : Nat → Nat), z.1 = nI b ∧ z.2.1 = nI (e + 1) ∧ KSx c0 h V a ch z.2.2 ∧ GVx p lst st z.2.2 u lk R ∧ (∀ j, j < R → lk j ≤ e ∧ (¬ lk j = 0 → FqS (V a) ch p (lk j) (u j)) ∧ (lk j = 0 → ¬ Fq (V a) ch p e (u j))) ∧ lk 0 = 0 ∧ ((b = 1 ∧ e ≤ cnl lk R) ∨ (b = 0 ∧ ∀ n, ¬ Fq (V a) ch p n s0)))
    (fun r => ∃ (y : Int32) (c' : Ch), r = (y, c') ∧ KSx c0 h V a ch c' ∧ ∃ lk : Nat → Nat, GVx p lst st c' u lk R ∧ ((y = -nI 1 ∧ ∀ n, ¬ Fq (V a) ch p n s0) ∨ ∃ e, e ≤ 20000 ∧ y = nI (e + 1) ∧ FqS (V a) ch p (e + 1) s0 ∧ LKx (V a) ch p u lk R e)) 10002 ?_ ?_ (nI 1, nI 1, c) ⟨1, fun _ => 0, rfl, rfl, K, H, fun j hj => ⟨Nat.le_refl _, fun w => absurd rfl w, fun _ w => by
      have := (H.2.2.1 j hj).2.1
      have w : dg (u j) p = 0 := w
      omega⟩, rfl, Or.inl ⟨rfl, Nat.zero_le _⟩⟩
  · obtain ⟨r, er, y, c', e2, rest⟩ := J
    subst e2
    exact ⟨y, c', er, rest⟩
  · rintro e ⟨z1, z2, z3⟩ hi ⟨b, lk, g1, g2, g3o, g4o, g5, g6, g7⟩
    have g1 : z1 = nI b := g1
    have g2 : z2 = nI (e + 1) := g2
    subst g1
    subst g2
    have g3 : KSx c0 h V a ch z3 := g3o
    have g4 : GVx p lst st z3 u lk R := g4o
    have e2 : ¬ 20000 < e + 1 := by omega
    show (∃ s', gX7_forcedWithin_48b h z3 (nI s0) (nI p) (nI b) (nI (e + 1)) = some (.inl s') ∧ _) ∨ (∃ r, gX7_forcedWithin_48b h z3 (nI s0) (nI p) (nI b) (nI (e + 1)) = some (.inr r) ∧ _)
    rcases g7 with ⟨w1, w2⟩ | ⟨w1, w2⟩
    · have hL : RLx (V a) ch p u lk R e 0 := fun j hj => ⟨by have := (g5 j hj).1; omega, (g5 j hj).2.1, (g5 j hj).2.2, fun w => by omega⟩
      obtain ⟨c', lk', b', ey, a1, a2, a3, a4⟩ := fw_year hp hst (show e ≤ 20000 by omega) g3 g4 h0 hu hC hA hL
      have i1 : ¬ (1 = 0) := by decide
      have eb : gX7_forcedWithin_48b h z3 (nI s0) (nI p) (nI b) (nI (e + 1)) = some (if lk' 0 = 0 then .inl (nI b', nI (e + 1 + 1), c') else .inr (nI (e + 1), c')) := by
        rw [w1]
        unfold gX7_forcedWithin_48b
        simp (disch := omega) only [n_lit, n_of, n_o1, nI_add, pk_mul, nI_ltI, nI_leI, nI_eq, ↓lift_lt, ↓k_mt, ↓k_mp, if_true, if_false, Bool.false_eq_true, Nat.not_lt_zero, Nat.zero_le, Nat.reduceEqDiff, Nat.reduceLeDiff, Nat.reduceLT, e2, i1, ey]
      rw [eb]
      have n0 : ¬ Fq (V a) ch p e s0 := by rw [← hu]; exact (g5 0 h0).2.2 g6
      by_cases z : lk' 0 = 0
      · rw [if_pos z]
        refine Or.inl ⟨_, rfl, b', lk', rfl, rfl, a1, a2, fun j hj => ⟨(a3 j hj).1, (a3 j hj).2.1, (a3 j hj).2.2.2 hj⟩, z, ?_⟩
        rcases a4 with ⟨q1, q2⟩ | ⟨q1, q2⟩
        · refine Or.inr ⟨q1, fun n w => ?_⟩
          rw [← hu] at w n0
          refine n0 (fw_fix hP hp hA hC (fun j hj wq => ?_) n 0 h0 w)
          subst q2
          apply Classical.byContradiction
          intro hc
          have n2 : ¬ lk' j = 0 := fun y => (a3 j hj).2.2.2 hj y wq
          have := (g5 j hj).1
          exact hc (Fcd_le this ((g5 j hj).2.1 n2).1)
        · exact Or.inl ⟨q1, by omega⟩
      · rw [if_neg z]
        refine Or.inr ⟨_, rfl, nI (e + 1), c', rfl, a1, lk', a2, Or.inr ⟨e, by omega, rfl, ?_, RLx_LK (by omega) a3⟩⟩
        have q := (a3 0 h0).2.1 z
        rw [hu] at q
        have l := (a3 0 h0).1
        have : lk' 0 = e + 1 := by
          apply Classical.byContradiction
          intro hc
          exact n0 (Fcd_le (show lk' 0 ≤ e by omega) q.1)
        rw [this] at q
        exact q
    · refine Or.inr ⟨(-nI 1, z3), ?_, -nI 1, z3, rfl, g3, lk, g4, Or.inl ⟨rfl, w2⟩⟩
      rw [w1]
      unfold gX7_forcedWithin_48b gX7_forcedWithin_169
      simp (disch := omega) only [n_lit, n_of, n_o1, nI_add, pk_mul, nI_ltI, nI_leI, nI_eq, ↓lift_lt, ↓k_mt, ↓k_mp, if_true, if_false, Bool.false_eq_true, Nat.not_lt_zero, Nat.zero_le, Nat.reduceEqDiff, Nat.reduceLeDiff, Nat.reduceLT, e2, Option.map_some]
  · rintro ⟨z1, z2, z3⟩ ⟨b, lk, g1, g2, g3o, g4o, g5, g6, g7⟩
    have g1 : z1 = nI b := g1
    have g2 : z2 = nI (10002 + 1) := g2
    subst g1
    subst g2
    rcases g7 with ⟨w1, w2⟩ | ⟨w1, w2⟩
    · have := cnl_le lk R
      omega
    · show ∃ r, gX7_forcedWithin_48b h z3 (nI s0) (nI p) (nI b) (nI (10002 + 1)) = some (.inr r) ∧ _
      refine ⟨(-nI 1, z3), ?_, -nI 1, z3, rfl, g3o, lk, g4o, Or.inl ⟨rfl, w2⟩⟩
      have e2 : ¬ 20000 < 10002 + 1 := by decide
      rw [w1]
      unfold gX7_forcedWithin_48b gX7_forcedWithin_169
      simp (disch := omega) only [n_lit, n_of, n_o1, nI_add, pk_mul, nI_ltI, nI_leI, nI_eq, ↓lift_lt, ↓k_mt, ↓k_mp, if_true, if_false, Bool.false_eq_true, Nat.not_lt_zero, Nat.zero_le, Nat.reduceEqDiff, Nat.reduceLeDiff, Nat.reduceLT, e2, Option.map_some]
theorem SE_124 {B : Nat} {c' : Ch} (hS : SE B h V c a ch) (hT : CT h V c' a ch) (f : cfr A124 c c') : SE B h V c' a ch := by
  obtain ⟨h1, h2, h3, st, h4, h5, h6, h7⟩ := hS
  have a7 := f.2.2.2.1 117 rfl
  have a8 := f.2.2.2.1 118 rfl
  have a9 := f.2.2.2.1 119 rfl
  have a0 := f.2.2.2.1 120 rfl
  refine ⟨by rw [f.2.2.1]; exact h1, by rw [f.1]; exact h2, hT, st, by rw [f.1]; exact h4, h5, by rw [a7]; exact h6, ?_⟩
  unfold EXP QB ENT at *
  rw [f.1, a7, a8, a9, a0]
  exact h7
theorem sfr_124 {c' : Ch} (f : cfr A124 c c') : sfr c c' := ⟨fun r _ _ => by rw [f.1], fun r _ _ => by rw [f.2.2.1], fun r hr => f.2.2.2.1 r (by
  have h1 := (scs_f hr).1
  unfold scr at h1
  unfold A124 A112
  simp only [Bool.or_eq_false_iff, Bool.and_eq_false_iff, decide_eq_false_iff_not] at h1 ⊢
  omega), fun r _ => by rw [f.2.2.2.2], by rw [f.2.2.2.2]⟩
theorem c_forcedWithin {B : Nat} (hS : SE B h V c a ch) (hB : B < 2 ^ 30) (hp : p < vP (V a)) (hs : s0 < 20000) (hg : ¬ dg s0 p = 0) :
    ∃ (y : Int32) (c' : Ch), gX7_forcedWithin h c (nI s0) (nI p) = some (y, c') ∧ sfr c c' ∧ SE (B + 1) h V c' a ch ∧ ((y = -nI 1 ∧ ∀ n, ¬ Fq (V a) ch p n s0) ∨
      ∃ (e : Nat) (lst u lk : Nat → Nat) (R st : Nat), e ≤ 20000 ∧ y = nI (e + 1) ∧ FqS (V a) ch p (e + 1) s0 ∧ s0 < 10000 ∧ LKx (V a) ch p u lk R e ∧ st < 2 ^ 31 ∧ GVx p lst st c' u lk R ∧ (∀ n g, g < 10 → Agm (V a) ch p n g → lst g ≤ n ∧ lst g < 20000) ∧ ∀ k, k < nL (V a) → Clx p lst u R (nxt (V a) ch k s0) ∧ Clx p lst u R (nxd (V a) ch k s0)) := by
  have hS' := hS
  obtain ⟨b1, b2, b3, st, b4, b5, b6, -⟩ := hS'
  have hW := b3.2.2.1
  have hP := hW.1
  obtain ⟨c1, lst, e1, T1, f1, L1, l0, hA⟩ := c_tellLeast hp b1 b3
  have S1 := SE_124 hS T1 f1
  have i1 : ¬ (1 = 0) := by decide
  have dc := c_digit (s := s0) (p := p) (by omega) (by omega)
  have dl := dg_lt s0 p
  obtain ⟨v1, v2⟩ := L1 (dg s0 p) dl
  unfold gX7_forcedWithin gX7_forcedWithin_35
  by_cases z1 : 10000 ≤ s0
  · refine ⟨-nI 1, c1, ?_, sfr_124 f1, SE_B (by omega) S1, Or.inl ⟨rfl, fun n w => hg (Fcd_fall n s0 z1 w)⟩⟩
    simp (disch := omega) only [n_lit, n_of, n_o1, nI_add, pk_mul, nI_ltI, nI_leI, nI_eq, ↓lift_lt, ↓k_mt, ↓k_mp, if_true, if_false, Bool.false_eq_true, Nat.not_lt_zero, Nat.zero_le, Nat.reduceEqDiff, Nat.reduceLeDiff, Nat.reduceLT, e1, c_isState hs, i1, z1]
  · by_cases z2 : lst (dg s0 p) = 20000
    · refine ⟨-nI 1, c1, ?_, sfr_124 f1, SE_B (by omega) S1, Or.inl ⟨rfl, fun n w => by have := (hA n _ dl (Fc_Ag hP hp n s0 w)).2; omega⟩⟩
      simp (disch := omega) only [n_lit, n_of, n_o1, nI_add, pk_mul, nI_ltI, nI_leI, nI_eq, ↓lift_lt, ↓k_mt, ↓k_mp, if_true, if_false, Bool.false_eq_true, Nat.not_lt_zero, Nat.zero_le, Nat.reduceEqDiff, Nat.reduceLeDiff, Nat.reduceLT, e1, c_isState hs, i1, z1, dc, cA_g, v1, eq_true z2]
    · obtain ⟨c2, u, R, e2, K2, G2, r0, u0, C2⟩ := c_byTurns (B := B) (p := p) (s0 := s0) (by omega) hB (by omega) (by omega) (by rw [f1.2.2.1]; exact b1) (by rw [f1.1]; exact b2) T1 (by rw [f1.1]; exact b4) b5 (by rw [f1.2.2.2.1 117 rfl]; exact b6) L1
      obtain ⟨y, c3, e3, K3, lk, G3, X⟩ := fw_years hp (show st + 1 < 2 ^ 31 by omega) K2 G2 r0 u0 C2 hA
      refine ⟨y, c3, ?_, sfr_tr (sfr_124 f1) K3.1, ⟨K3.2.2.1, K3.2.2.2.1, K3.2.1, st + 1, G3.2.1, by omega, fun i hi => ?_, Or.inl K3.2.2.2.2⟩, ?_⟩
      · simp (disch := omega) only [n_lit, n_of, n_o1, nI_add, pk_mul, nI_ltI, nI_leI, nI_eq, ↓lift_lt, ↓k_mt, ↓k_mp, if_true, if_false, Bool.false_eq_true, Nat.not_lt_zero, Nat.zero_le, Nat.reduceEqDiff, Nat.reduceLeDiff, Nat.reduceLT, e1, c_isState hs, i1, z1, dc, cA_g, v1, z2, e2, e3]
      · rcases G3.2.2.2.2.1 i hi with ⟨m1, -⟩ | ⟨⟨z, q1, q2⟩, -⟩
        · exact ⟨st + 1, Nat.le_refl _, m1⟩
        · exact ⟨z, by omega, q2⟩
      · rcases X with X | ⟨e, x1, x2, x3, x4⟩
        · exact Or.inl X
        · refine Or.inr ⟨e, lst, u, lk, R, st + 1, x1, x2, x3, by omega, x4, by omega, G3, hA, fun k hk => ?_⟩
          rw [← u0]
          exact C2 0 k r0 hk (Or.inl r0)
end FRC
section OPS19
variable {T : Nat} {h : Hp} {V : Nat → Cv} {c : Ch} {m : Mu} {x : Sp}
theorem op_forces (gC : RC T h V c x) (gM : RM m x) (hw : WF x) (hT : T ≤ 1000) (x1 : Int32) : OKs T h V (gX11_forces h c x1) (gX12_forces m x1) := by
  have hP := hw.2.2.1.1
  have hs := hw.2.2.2.1
  have hs1 := hs.1
  have i1 : ¬ (1 = 0) := by decide
  obtain ⟨-, -, ⟨a0, a3, a3b, hC⟩, a4, -⟩ := gC.1
  have s0 : c.1 (sadr 0) 0 = nI (zS x).1 := a4.1
  have r1 : (mI m 0 (nI 0)).2.1 1 1 = nI (vP (zV x)) := by rw [mI_a]; exact gM.2.2.1.2.1
  unfold gX11_forces gX12_forces gX12_forces_27
  by_cases hx : ∃ p, p < vP (zV x) ∧ x1 = nI p
  · obtain ⟨p, hp, rfl⟩ := hx
    have cy := c_pair_y (c := c) hP a3 hC hp
    have qy := q_pair_y (m := mI m 0 (nI 0)) hP r1 hp
    have dc := c_digit (s := (zS x).1) (p := p) (by omega) (by omega)
    have dl := dg_lt (zS x).1 p
    obtain ⟨m', q', F, n', em, B, A, hD, hV, FR⟩ := q_laysForced (p := p) (RD_now gM hw) (by omega)
    have RM2 : RM m' x := RM_kp (RM_0 gM (nI 0)) (mfs_kp B.2.2.2.2)
    have F0' := FR 0 A.1
    rw [A.2.1] at F0'
    by_cases z : dg (zS x).1 p = 0
    · have f0 : F 0 = 0 := by
        rcases F0' with ⟨-, w⟩ | ⟨-, w⟩
        · exact absurd (show Fq (zV x) (zS x).2.1 p 0 (zS x).1 from z) (w 0)
        · apply Classical.byContradiction
          intro hc
          exact w.2 0 (by omega) z
      rw [f0] at em
      refine ⟨nI 0, c, m', x, ?_, ?_, RC_T (by omega) gC, RM2, hw⟩
      · simp (disch := omega) only [n_lit, n_of, n_o1, nI_add, pk_mul, nI_ltI, nI_leI, nI_eq, ↓lift_lt, ↓k_mt, ↓k_mp, if_true, if_false, Bool.false_eq_true, Nat.not_lt_zero, Nat.zero_le, Nat.reduceEqDiff, Nat.reduceLeDiff, Nat.reduceLT, cy, i1, s0, dc, eq_true z]
      · simp (disch := omega) only [n_lit, n_of, n_o1, nI_add, pk_mul, nI_ltI, nI_leI, nI_eq, ↓lift_lt, ↓k_mt, ↓k_mp, if_true, if_false, Bool.false_eq_true, Nat.not_lt_zero, Nat.zero_le, Nat.reduceEqDiff, Nat.reduceLeDiff, Nat.reduceLT, qy, i1, em, q_told]
    · obtain ⟨a, c1, e1, eV, f1, S1, k80, s1, C1⟩ := c_searching gC hw
      obtain ⟨y, c2, e2, f2, S2, X⟩ := c_forcedWithin (p := p) S1 (by omega) (by rw [eV]; exact hp) hs.1 z
      rw [eV] at X
      have RC2 := RC_s gC (sfr_tr f1 f2) (SE_B (by omega) S2)
      rcases X with ⟨r1', r2⟩ | ⟨e, lst, u, lk, R, st, x1', x2, x3, -⟩
      · rcases F0' with ⟨w1, w2⟩ | ⟨w1, w2⟩
        · rw [w1] at em
          rw [r1'] at e2
          refine ⟨-nI 1, c2, m', x, ?_, ?_, RC2, RM2, hw⟩
          · simp (disch := omega) only [n_lit, n_of, n_o1, nI_add, pk_mul, nI_ltI, nI_leI, nI_eq, ↓lift_lt, ↓k_mt, ↓k_mp, if_true, if_false, Bool.false_eq_true, Nat.not_lt_zero, Nat.zero_le, Nat.reduceEqDiff, Nat.reduceLeDiff, Nat.reduceLT, cy, i1, s0, dc, z, e1, s1.1, e2]
          · simp (disch := omega) only [n_lit, n_of, n_o1, nI_add, pk_mul, nI_ltI, nI_leI, nI_eq, ↓lift_lt, ↓k_mt, ↓k_mp, if_true, if_false, Bool.false_eq_true, Nat.not_lt_zero, Nat.zero_le, Nat.reduceEqDiff, Nat.reduceLeDiff, Nat.reduceLT, qy, i1, em, q_told_no]
        · exact absurd w2.1 (r2 _)
      · rcases F0' with ⟨w1, w2⟩ | ⟨w1, w2⟩
        · exact absurd x3.1 (w2 _)
        · have ed : F 0 = e + 1 := Fst_one w2 x3
          rw [ed] at em w1
          rw [x2] at e2
          refine ⟨nI (e + 1), c2, m', x, ?_, ?_, RC2, RM2, hw⟩
          · simp (disch := omega) only [n_lit, n_of, n_o1, nI_add, pk_mul, nI_ltI, nI_leI, nI_eq, ↓lift_lt, ↓k_mt, ↓k_mp, if_true, if_false, Bool.false_eq_true, Nat.not_lt_zero, Nat.zero_le, Nat.reduceEqDiff, Nat.reduceLeDiff, Nat.reduceLT, cy, i1, s0, dc, z, e1, s1.1, e2]
          · simp (disch := omega) only [n_lit, n_of, n_o1, nI_add, pk_mul, nI_ltI, nI_leI, nI_eq, ↓lift_lt, ↓k_mt, ↓k_mp, if_true, if_false, Bool.false_eq_true, Nat.not_lt_zero, Nat.zero_le, Nat.reduceEqDiff, Nat.reduceLeDiff, Nat.reduceLT, qy, i1, em, q_told]
  · have cy := c_pair_n (c := c) hP a3 hC hx
    have qy := q_pair_n (m := mI m 0 (nI 0)) hP r1 hx
    refine ⟨-nI 2, c, mI m 0 (nI 0), x, ?_, ?_, RC_T (by omega) gC, RM_0 gM _, hw⟩
    · simp (disch := omega) only [n_lit, n_of, n_o1, nI_add, pk_mul, nI_ltI, nI_leI, nI_eq, ↓lift_lt, ↓k_mt, ↓k_mp, if_true, if_false, Bool.false_eq_true, Nat.not_lt_zero, Nat.zero_le, Nat.reduceEqDiff, Nat.reduceLeDiff, Nat.reduceLT, cy]
    · simp (disch := omega) only [n_lit, n_of, n_o1, nI_add, pk_mul, nI_ltI, nI_leI, nI_eq, ↓lift_lt, ↓k_mt, ↓k_mp, if_true, if_false, Bool.false_eq_true, Nat.not_lt_zero, Nat.zero_le, Nat.reduceEqDiff, Nat.reduceLeDiff, Nat.reduceLT, qy]
/-- the reference: the first leading by which it is forced in time -/
theorem q_best {v : Cv} {s : St} {m m0 : Mu} {q F : Nat → Nat} {n p e k : Nat} (B : MBx m0 v s m) (A : ALd v s m q n) (hD : DRx v s.2.1 m q n) (hV : FV m q n F) (FR : FRD v s.2.1 p q n F) (hF : F 0 = e + 1) (he : e + 1 < 20001) (hf : FqS v s.2.1 p (e + 1) s.1) (hk : k < nL v) (h1 : FBx v s.2.1 p e k s.1) (h2 : ∀ k', k' < k → ¬ FBx v s.2.1 p e k' s.1) :
    gX12_best_25 m (nI (e + 1)) (nI 0) = some (nI (ld v k), m) := by
  have hW := B.1.2.2.1
  obtain ⟨hL0, hL⟩ := nL_b hW
  have hn := A.2.2.1
  have h0 := A.1
  have nw := q_nowD B.1
  have e0 : ¬ e + 1 ≤ 0 := by omega
  have e1 : ¬ 268435456 ≤ e + 1 := by omega
  have fin : ∀ j, j < n → F j ≤ 268435456 := fun j hj => (hV j hj).1
  have by1 : ∀ kk, kk < nL v → ∃ y, gX12_forcedBy m (nI s.1) (nI kk) = some (nI y) ∧ y ≤ 268435456 ∧ (y = e + 1 ↔ FBx v s.2.1 p e kk s.1) := fun kk hkk => by
    obtain ⟨-, ⟨j, j1, j2⟩, j', j1', j2'⟩ := A.2.2.2.2.2.2 0 kk h0 hkk
    have fb := q_forcedBy A hD hV h0 hkk hL j1 j1' j2 j2'
    rw [A.2.1] at fb j2 j2'
    have g := mx2_ge (F j) (F j')
    refine ⟨_, fb, ?_, ?_⟩
    · have a1 := fin j j1
      have a2 := fin j' j1'
      have mb : mx2 (F j) (F j') ≤ 268435456 := by
        unfold mx2
        split <;> omega
      by_cases z : mx2 (F j) (F j') = 268435456
      · have : fbv (F j) (F j') = 268435456 := if_pos z
        omega
      · have : fbv (F j) (F j') = mx2 (F j) (F j') + 1 := if_neg z
        omega
    · constructor
      · intro hy
        have nm : ¬ mx2 (F j) (F j') = 268435456 := fun z => by
          have : fbv (F j) (F j') = 268435456 := if_pos z
          omega
        have em : fbv (F j) (F j') = mx2 (F j) (F j') + 1 := if_neg nm
        have le1 : F j ≤ e := by omega
        have le2 : F j' ≤ e := by omega
        refine ⟨?_, ?_⟩
        · rw [← j2]
          rcases FR j j1 with ⟨w, -⟩ | ⟨-, w⟩
          · omega
          · exact Fcd_le le1 w.1
        · rw [← j2']
          rcases FR j' j1' with ⟨w, -⟩ | ⟨-, w⟩
          · omega
          · exact Fcd_le le2 w.1
      · rintro ⟨w1, w2⟩
        rw [← j2] at w1
        rw [← j2'] at w2
        have le1 : F j ≤ e := by
          rcases FR j j1 with ⟨-, w⟩ | ⟨-, w⟩
          · exact absurd w1 (w e)
          · apply Classical.byContradiction
            intro hc
            exact w.2 e (by omega) w1
        have le2 : F j' ≤ e := by
          rcases FR j' j1' with ⟨-, w⟩ | ⟨-, w⟩
          · exact absurd w2 (w e)
          · apply Classical.byContradiction
            intro hc
            exact w.2 e (by omega) w2
        have m1 : mx2 (F j) (F j') ≤ e := by
          unfold mx2
          split <;> omega
        have em : fbv (F j) (F j') = mx2 (F j) (F j') + 1 := if_neg (by omega)
        have ge : e ≤ mx2 (F j) (F j') := by
          apply Classical.byContradiction
          intro hc
          -- then it would be forced a year earlier
          have f1 : Fq v s.2.1 p (mx2 (F j) (F j')) (q j) := by
            rcases FR j j1 with ⟨w, -⟩ | ⟨-, w⟩
            · omega
            · exact Fcd_le g.1 w.1
          have f2 : Fq v s.2.1 p (mx2 (F j) (F j')) (q j') := by
            rcases FR j' j1' with ⟨w, -⟩ | ⟨-, w⟩
            · omega
            · exact Fcd_le g.2 w.1
          have f3 : Fq v s.2.1 p (mx2 (F j) (F j') + 1) s.1 := Or.inr ⟨kk, hkk, by rw [← j2]; exact f1, by rw [← j2']; exact f2⟩
          exact hf.2 _ (by omega) f3
        omega
  have key : ∀ k', k' ≤ k → gX12_best_25 m (nI (e + 1)) (nI 0) = gX12_best_25 m (nI (e + 1)) (nI k') := by
    intro k'
    induction k' with
    | zero => intro _; rfl
    | succ k' ih =>
      intro hk'
      rw [ih (by omega)]
      obtain ⟨y, y1, y2, y3⟩ := by1 k' (by omega)
      have ne : ¬ y = e + 1 := fun z => h2 k' (by omega) (y3.mp z)
      have k1 : ¬ nL v ≤ k' := by omega
      have eb : gX12_best_25b m (nI (e + 1)) (nI k') = some (.inl (nI (k' + 1))) := by
        unfold gX12_best_25b
        simp (disch := omega) only [n_lit, n_of, n_o1, nI_add, pk_mul, nI_ltI, nI_leI, nI_eq, ↓lift_lt, ↓k_mt, ↓k_mp, if_true, if_false, Bool.false_eq_true, Nat.not_lt_zero, Nat.zero_le, Nat.reduceEqDiff, Nat.reduceLeDiff, Nat.reduceLT, B.2.2.1, k1, e0, e1, nw, y1, ne]
      unfold gX12_best_25
      exact lpw_l eb
  rw [key k (Nat.le_refl _)]
  obtain ⟨y, y1, y2, y3⟩ := by1 k hk
  have ye := y3.mpr h1
  have k1 : ¬ nL v ≤ k := by omega
  have eb : gX12_best_25b m (nI (e + 1)) (nI k) = some (.inr (nI (ld v k), m)) := by
    unfold gX12_best_25b
    rw [ye] at y1
    simp (disch := omega) only [n_lit, n_of, n_o1, nI_add, pk_mul, nI_ltI, nI_leI, nI_eq, ↓lift_lt, ↓k_mt, ↓k_mp, if_true, if_false, Bool.false_eq_true, Nat.not_lt_zero, Nat.zero_le, Nat.reduceEqDiff, Nat.reduceLeDiff, Nat.reduceLT, B.2.2.1, k1, e0, e1, nw, y1, mA_9, B.2.2.2.1 k hk]
  unfold gX12_best_25
  exact lpw_r eb
theorem op_best (gC : RC T h V c x) (gM : RM m x) (hw : WF x) (hT : T ≤ 1000) (x1 : Int32) : OKs T h V (gX11_best h c x1) (gX12_best m x1) := by
  have hP := hw.2.2.1.1
  have hs := hw.2.2.2.1
  have hs1 := hs.1
  have i1 : ¬ (1 = 0) := by decide
  obtain ⟨hL0, hL⟩ := nL_b hw.2.2.1
  obtain ⟨-, -, ⟨a0, a3, a3b, hC⟩, a4, -⟩ := gC.1
  have s0 : c.1 (sadr 0) 0 = nI (zS x).1 := a4.1
  have r1 : (mI m 0 (nI 0)).2.1 1 1 = nI (vP (zV x)) := by rw [mI_a]; exact gM.2.2.1.2.1
  unfold gX11_best gX11_best_69 gX12_best
  by_cases hx : ∃ p, p < vP (zV x) ∧ x1 = nI p
  · obtain ⟨p, hp, rfl⟩ := hx
    have cy := c_pair_y (c := c) hP a3 hC hp
    have qy := q_pair_y (m := mI m 0 (nI 0)) hP r1 hp
    have dc := c_digit (s := (zS x).1) (p := p) (by omega) (by omega)
    have dl := dg_lt (zS x).1 p
    obtain ⟨m', q', F, n', em, B, A, hD, hV, FR⟩ := q_laysForced (p := p) (RD_now gM hw) (by omega)
    have RM2 : RM m' x := RM_kp (RM_0 gM (nI 0)) (mfs_kp B.2.2.2.2)
    have F0' := FR 0 A.1
    rw [A.2.1] at F0'
    have k0 : ¬ nL (zV x) ≤ 0 := by omega
    by_cases z : dg (zS x).1 p = 0
    · have f0 : F 0 = 0 := by
        rcases F0' with ⟨-, w⟩ | ⟨-, w⟩
        · exact absurd (show Fq (zV x) (zS x).2.1 p 0 (zS x).1 from z) (w 0)
        · apply Classical.byContradiction
          intro hc
          exact w.2 0 (by omega) z
      rw [f0] at em
      have eb : gX12_best_25 m' (nI 0) (nI 0) = some (-nI 1, m') := by
        have eb2 : gX12_best_25b m' (nI 0) (nI 0) = some (.inr (-nI 1, m')) := by
          unfold gX12_best_25b gX12_best_70
          simp (disch := omega) only [n_lit, n_of, n_o1, nI_add, pk_mul, nI_ltI, nI_leI, nI_eq, ↓lift_lt, ↓k_mt, ↓k_mp, if_true, if_false, Bool.false_eq_true, Nat.not_lt_zero, Nat.zero_le, Nat.reduceEqDiff, Nat.reduceLeDiff, Nat.reduceLT, B.2.2.1, k0, Nat.le_refl, Option.map_some]
        unfold gX12_best_25
        exact lpw_r eb2
      refine ⟨-nI 1, c, m', x, ?_, ?_, RC_T (by omega) gC, RM2, hw⟩
      · simp (disch := omega) only [n_lit, n_of, n_o1, nI_add, pk_mul, nI_ltI, nI_leI, nI_eq, ↓lift_lt, ↓k_mt, ↓k_mp, if_true, if_false, Bool.false_eq_true, Nat.not_lt_zero, Nat.zero_le, Nat.reduceEqDiff, Nat.reduceLeDiff, Nat.reduceLT, cy, i1, s0, dc, eq_true z]
      · simp (disch := omega) only [n_lit, n_of, n_o1, nI_add, pk_mul, nI_ltI, nI_leI, nI_eq, ↓lift_lt, ↓k_mt, ↓k_mp, if_true, if_false, Bool.false_eq_true, Nat.not_lt_zero, Nat.zero_le, Nat.reduceEqDiff, Nat.reduceLeDiff, Nat.reduceLT, qy, i1, em, eb]
    · obtain ⟨a, c1, e1, eV, f1, S1, k80, s1, C1⟩ := c_searching gC hw
      obtain ⟨y, c2, e2, f2, S2, X⟩ := c_forcedWithin (p := p) S1 (by omega) (by rw [eV]; exact hp) hs.1 z
      have RC2 := RC_s gC (sfr_tr f1 f2) (SE_B (by omega) S2)
      rcases X with ⟨r1', r2⟩ | ⟨e, lst, u, lk, R, st, x1', x2, x3, x4, x5, x6, x7, x8, x9⟩
      · rw [eV] at r2
        rcases F0' with ⟨w1, w2⟩ | ⟨w1, w2⟩
        · rw [w1] at em
          rw [r1'] at e2
          have eb : gX12_best_25 m' (nI 268435456) (nI 0) = some (-nI 1, m') := by
            have n0 : ¬ 268435456 ≤ 0 := by decide
            have eb2 : gX12_best_25b m' (nI 268435456) (nI 0) = some (.inr (-nI 1, m')) := by
              unfold gX12_best_25b gX12_best_70
              simp (disch := omega) only [n_lit, n_of, n_o1, nI_add, pk_mul, nI_ltI, nI_leI, nI_eq, ↓lift_lt, ↓k_mt, ↓k_mp, if_true, if_false, Bool.false_eq_true, Nat.not_lt_zero, Nat.zero_le, Nat.reduceEqDiff, Nat.reduceLeDiff, Nat.reduceLT, B.2.2.1, k0, n0, Nat.le_refl, Option.map_some]
            unfold gX12_best_25
            exact lpw_r eb2
          refine ⟨-nI 1, c2, m', x, ?_, ?_, RC2, RM2, hw⟩
          · simp (disch := omega) only [n_lit, n_of, n_o1, nI_add, pk_mul, nI_ltI, nI_leI, nI_eq, ↓lift_lt, ↓k_mt, ↓k_mp, if_true, if_false, Bool.false_eq_true, Nat.not_lt_zero, Nat.zero_le, Nat.reduceEqDiff, Nat.reduceLeDiff, Nat.reduceLT, cy, i1, s0, dc, z, e1, s1.1, e2]
          · simp (disch := omega) only [n_lit, n_of, n_o1, nI_add, pk_mul, nI_ltI, nI_leI, nI_eq, ↓lift_lt, ↓k_mt, ↓k_mp, if_true, if_false, Bool.false_eq_true, Nat.not_lt_zero, Nat.zero_le, Nat.reduceEqDiff, Nat.reduceLeDiff, Nat.reduceLT, qy, i1, em, eb]
        · exact absurd w2.1 (r2 _)
      · obtain ⟨y', c3, e3, T3, f3, Y⟩ := c_forcing (s := (zS x).1) (e := e) (by rw [eV]; exact hp) x6 (by omega) x4 S2.1 S2.2.2.1 x7 x8 x5 x9
        rw [eV] at x3 Y
        rcases F0' with ⟨w1, w2⟩ | ⟨w1, w2⟩
        · exact absurd x3.1 (w2 _)
        · have ed : F 0 = e + 1 := Fst_one w2 x3
          rw [ed] at em w1
          rcases Y with ⟨k, k1, k2, k3, k4⟩ | ⟨k1, -⟩
          · have qb := q_best B A hD hV FR ed w1 x3 k1 k2 k3
            have s2 : c2.1 (sadr 0) 0 = nI (zS x).1 := RC2.1.2.2.2.1.1
            have n1 := nI_ne1 (n := e + 1) (by omega)
            have sb : nI (e + 1) - nI 1 = nI e := dn_s e
            have S3 : SE (10 * T + 1) h V c3 a (zS x).2.1 := by
              obtain ⟨h1, h2, h3, st', h4, h5, h6, h7⟩ := S2
              refine ⟨by rw [f3.2.2.1]; exact h1, by rw [f3.1]; exact h2, T3, st', by rw [f3.1]; exact h4, h5, by rw [f3.2.2.2.1 117 rfl]; exact h6, ?_⟩
              unfold EXP QB ENT at *
              rw [f3.1, f3.2.2.2.1 117 rfl, f3.2.2.2.1 118 rfl, f3.2.2.2.1 119 rfl, f3.2.2.2.1 120 rfl]
              exact h7
            rw [x2] at e2
            refine ⟨nI (ld (zV x) k), c3, m', x, ?_, ?_, RC_s gC (sfr_tr (sfr_tr f1 f2) (sfr_w f3)) (SE_B (by omega) S3), RM2, hw⟩
            · rw [k4] at e3
              simp (disch := omega) only [n_lit, n_of, n_o1, nI_add, pk_mul, nI_ltI, nI_leI, nI_eq, ↓lift_lt, ↓k_mt, ↓k_mp, if_true, if_false, Bool.false_eq_true, Nat.not_lt_zero, Nat.zero_le, Nat.reduceEqDiff, Nat.reduceLeDiff, Nat.reduceLT, cy, i1, s0, dc, z, e1, s1.1, e2, n1, s2, sb, e3]
            · simp (disch := omega) only [n_lit, n_of, n_o1, nI_add, pk_mul, nI_ltI, nI_leI, nI_eq, ↓lift_lt, ↓k_mt, ↓k_mp, if_true, if_false, Bool.false_eq_true, Nat.not_lt_zero, Nat.zero_le, Nat.reduceEqDiff, Nat.reduceLeDiff, Nat.reduceLT, qy, i1, em, qb]
          · obtain ⟨k, q1, q2⟩ := (Fq_FB z).mp x3.1
            exact absurd q2 (k1 k q1)
  · have cy := c_pair_n (c := c) hP a3 hC hx
    have qy := q_pair_n (m := mI m 0 (nI 0)) hP r1 hx
    refine ⟨-nI 2, c, mI m 0 (nI 0), x, ?_, ?_, RC_T (by omega) gC, RM_0 gM _, hw⟩
    · simp (disch := omega) only [n_lit, n_of, n_o1, nI_add, pk_mul, nI_ltI, nI_leI, nI_eq, ↓lift_lt, ↓k_mt, ↓k_mp, if_true, if_false, Bool.false_eq_true, Nat.not_lt_zero, Nat.zero_le, Nat.reduceEqDiff, Nat.reduceLeDiff, Nat.reduceLT, cy]
    · simp (disch := omega) only [n_lit, n_of, n_o1, nI_add, pk_mul, nI_ltI, nI_leI, nI_eq, ↓lift_lt, ↓k_mt, ↓k_mp, if_true, if_false, Bool.false_eq_true, Nat.not_lt_zero, Nat.zero_le, Nat.reduceEqDiff, Nat.reduceLeDiff, Nat.reduceLT, qy]
end OPS19
