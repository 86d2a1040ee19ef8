/-! the cave that was told, made -/
def cvT (z : Tl) : Cv := (z.1, z.2.1, z.2.2.1, z.2.2.2.1, z.2.2.2.2.1, z.2.2.2.2.2.1, z.2.2.2.2.2.2.1.getD (if 0 < z.1 then z.2.1 else 0), z.2.2.2.2.2.2.2)
theorem isL_un0 : ∀ P : Fin 5, ∀ D : Fin 5, isLb P.1 D.1 (if 0 < P.1 then D.1 else 0) = true := by decide +kernel
theorem cvT_w {z : Tl} (O : okT z) (hn : z.2.2.2.1 < 2 ^ 31) : wV (cvT z) := by
  obtain ⟨P, D, Y, ln, G, Ck, L, gl, fl⟩ := z
  obtain ⟨o1, o2, o3, o4, o5, o6, o7, o8⟩ := O
  refine ⟨o1, o2, o3, hn, o4, o5, ?_, o7, o8⟩
  cases L with
  | none => exact (isLb_iff _ _ _).mp (isL_un0 ⟨P, Nat.lt_succ_of_le o1⟩ ⟨D, Nat.lt_succ_of_le o2⟩)
  | some l => exact (o6 l rfl).2
section CVN
variable {g : Hp} {x1 : Nat} {ps : List Value} {z : Tl} {og of_ : Option Nat}
theorem g_cave (hn : ∀ a, g.1 ≤ a → g.2.2 a = none) (hx : x1 < g.1) (hp : g.2.2 x1 = some (.inr (4, ps))) (O : okT z) (p7 : ps[7]? = some (.int (nI z.2.2.2.1))) (p8 : ps[8]? = some (.int (nI z.1))) (p9 : ps[9]? = some (.int (nI z.2.1))) (p10 : ps[10]? = some (.int (nI z.2.2.1))) (p11 : ps[11]? = some (.int (nI z.2.2.2.2.1))) (p12 : ps[12]? = some (.int (nI z.2.2.2.2.2.1))) (p13 : ps[13]? = some (.int (lead1 z.2.2.2.2.2.2.1))) (p14 : ps[14]? = some (va_rf og)) (p15 : ps[15]? = some (va_rf of_)) :
    ∃ f35 fl fs : Nat → Int32, fX0_init (nO g 0 11) g.1 x1 = some (K4 g 4 (11 + 35 + nL (cvT z) + 4 * nL (cvT z)) (some (.inr (0, [.int (nI (vP (cvT z))), .int (nI (vD (cvT z))), .int (nI (vY (cvT z))), .int (nI (vN (cvT z))), .int (nI (vG (cvT z))), .int (nI (vC (cvT z))), .int (nI (vL (cvT z))), va_rf og, va_rf of_, .ref (g.1 + 2), .ref (g.1 + 3)]))) (some (.inl (0, 35, .inl f35))) (some (.inl (0, nL (cvT z), .inl fl))) (some (.inl (0, 4 * nL (cvT z), .inl fs)))) ∧
      (∀ i, i < nL (cvT z) → fl i = nI (ld (cvT z) i)) ∧ ∀ i, i < 4 * nL (cvT z) → fs i = nI (i % 4 * 5 + d5 (ld (cvT z) (i / 4)) (i % 4)) := by
  obtain ⟨P, D, Y, ln, G, Ck, L, gl, fl'⟩ := z
  obtain ⟨o1, o2, o3, o4, o5, o6, o7, o8⟩ := O
  have o1 : P ≤ 4 := o1
  have o2 : D ≤ 4 := o2
  have p7 : ps[7]? = some (.int (nI ln)) := p7
  have p8 : ps[8]? = some (.int (nI P)) := p8
  have p9 : ps[9]? = some (.int (nI D)) := p9
  have p10 : ps[10]? = some (.int (nI Y)) := p10
  have p11 : ps[11]? = some (.int (nI G)) := p11
  have p12 : ps[12]? = some (.int (nI Ck)) := p12
  have p13 : ps[13]? = some (.int (lead1 L)) := p13
  have o6 : ∀ l, L = some l → 0 < P ∧ isL P D l := o6
  have eL : nL (cvT (P, D, Y, ln, G, Ck, L, gl, fl')) = (leadL P D).length := rfl
  have el : ∀ i, ld (cvT (P, D, Y, ln, G, Ck, L, gl, fl')) i = (leadL P D).getD i 0 := fun _ => rfl
  have lisl := @ld_isL (cvT (P, D, Y, ln, G, Ck, L, gl, fl'))
  show ∃ f35 fl fs : Nat → Int32, fX0_init (nO g 0 11) g.1 x1 = some (K4 g 4 (11 + 35 + nL (cvT (P, D, Y, ln, G, Ck, L, gl, fl')) + 4 * nL (cvT (P, D, Y, ln, G, Ck, L, gl, fl'))) (some (.inr (0, [.int (nI P), .int (nI D), .int (nI Y), .int (nI ln), .int (nI G), .int (nI Ck), .int (nI (L.getD (if 0 < P then D else 0))), va_rf og, va_rf of_, .ref (g.1 + 2), .ref (g.1 + 3)]))) (some (.inl (0, 35, .inl f35))) (some (.inl (0, nL (cvT (P, D, Y, ln, G, Ck, L, gl, fl')), .inl fl))) (some (.inl (0, 4 * nL (cvT (P, D, Y, ln, G, Ck, L, gl, fl')), .inl fs)))) ∧ _
  have lb := leadL_b (P := P) (D := D) (by omega) (by omega)
  rw [eL]
  have e1 : nO g 0 11 = K4 g 1 11 (some (.inr (0, dfl 0 11))) none none none := K4_n0 hn 11 _
  obtain ⟨d0, d1, d2, d3, d4, d5', d6, d7, d8, d9, d10, ed⟩ : ∃ d0 d1 d2 d3 d4 d5' d6 d7 d8 d9 d10, dfl 0 11 = [d0, d1, d2, d3, d4, d5', d6, d7, d8, d9, d10] := ⟨_, _, _, _, _, _, _, _, _, _, _, rfl⟩
  rw [ed] at e1
  obtain ⟨KK, eK⟩ : ∃ KK : List Value → Hp, KK = fun l => K4 g 1 11 (some (.inr (0, l))) none none none := ⟨_, rfl⟩
  have sv : ∀ (l l' : List Value) (k : Nat) (v : Value), l.set k v = l' → sV (KK l) 0 g.1 k v = some (KK l') := fun l l' k v e => by rw [eK]; exact K4_sV e
  have gx : ∀ (l : List Value) (k : Nat) (v : Int32), ps[k]? = some (.int v) → gI (KK l) 4 x1 k = some v := fun l k v e => by rw [eK]; exact K4_x hx hp e
  have gxr : ∀ (l : List Value) (k : Nat) (o : Option Nat), ps[k]? = some (va_rf o) → gR (KK l) 4 x1 k = some o := fun l k o e => by rw [eK]; exact K4_xr hx hp e
  have gi : ∀ (l : List Value) (k : Nat) (v : Int32), l[k]? = some (.int v) → gI (KK l) 0 g.1 k = some v := fun l k v e => by rw [eK]; exact K4_gI e
  have e1 : nO g 0 11 = KK [d0, d1, d2, d3, d4, d5', d6, d7, d8, d9, d10] := by rw [eK]; exact e1
  have mnP : imin (nI P) (nI 4) = nI P := by rw [imin_n (by omega) (by decide), show (if 4 < P then 4 else P) = P by rw [if_neg (by omega)]]
  have mnD : imin (nI D) (nI 4) = nI D := by rw [imin_n (by omega) (by decide), show (if 4 < D then 4 else D) = D by rw [if_neg (by omega)]]
  have s0 := sv [d0, d1, d2, d3, d4, d5', d6, d7, d8, d9, d10] [.int (nI P), d1, d2, d3, d4, d5', d6, d7, d8, d9, d10] 0 (.int (nI P)) rfl
  have s1 := sv [.int (nI P), d1, d2, d3, d4, d5', d6, d7, d8, d9, d10] [.int (nI P), .int (nI D), d2, d3, d4, d5', d6, d7, d8, d9, d10] 1 (.int (nI D)) rfl
  have s2 := sv [.int (nI P), .int (nI D), d2, d3, d4, d5', d6, d7, d8, d9, d10] [.int (nI P), .int (nI D), .int (nI Y), d3, d4, d5', d6, d7, d8, d9, d10] 2 (.int (nI Y)) rfl
  have s3 := sv [.int (nI P), .int (nI D), .int (nI Y), d3, d4, d5', d6, d7, d8, d9, d10] [.int (nI P), .int (nI D), .int (nI Y), .int (nI ln), d4, d5', d6, d7, d8, d9, d10] 3 (.int (nI ln)) rfl
  have s4 := sv [.int (nI P), .int (nI D), .int (nI Y), .int (nI ln), d4, d5', d6, d7, d8, d9, d10] [.int (nI P), .int (nI D), .int (nI Y), .int (nI ln), .int (nI G), d5', d6, d7, d8, d9, d10] 4 (.int (nI G)) rfl
  have s5 := sv [.int (nI P), .int (nI D), .int (nI Y), .int (nI ln), .int (nI G), d5', d6, d7, d8, d9, d10] [.int (nI P), .int (nI D), .int (nI Y), .int (nI ln), .int (nI G), .int (nI Ck), d6, d7, d8, d9, d10] 5 (.int (nI Ck)) rfl
  have s7 := sv [.int (nI P), .int (nI D), .int (nI Y), .int (nI ln), .int (nI G), .int (nI Ck), d6, d7, d8, d9, d10] [.int (nI P), .int (nI D), .int (nI Y), .int (nI ln), .int (nI G), .int (nI Ck), d6, va_rf og, d8, d9, d10] 7 (va_rf og) rfl
  have s8 := sv [.int (nI P), .int (nI D), .int (nI Y), .int (nI ln), .int (nI G), .int (nI Ck), d6, va_rf og, d8, d9, d10] [.int (nI P), .int (nI D), .int (nI Y), .int (nI ln), .int (nI G), .int (nI Ck), d6, va_rf og, va_rf of_, d9, d10] 8 (va_rf of_) rfl
  have g0 := gi [.int (nI P), .int (nI D), .int (nI Y), .int (nI ln), .int (nI G), .int (nI Ck), d6, va_rf og, va_rf of_, d9, d10] 0 (nI P) rfl
  have g1 := gi [.int (nI P), .int (nI D), .int (nI Y), .int (nI ln), .int (nI G), .int (nI Ck), d6, va_rf og, va_rf of_, d9, d10] 1 (nI D) rfl
  obtain ⟨lv, elv⟩ : ∃ lv, lv = L.getD (if 0 < P then D else 0) := ⟨_, rfl⟩
  rw [← elv]
  have s6 := sv [.int (nI P), .int (nI D), .int (nI Y), .int (nI ln), .int (nI G), .int (nI Ck), d6, va_rf og, va_rf of_, d9, d10] [.int (nI P), .int (nI D), .int (nI Y), .int (nI ln), .int (nI G), .int (nI Ck), .int (nI lv), va_rf og, va_rf of_, d9, d10] 6 (.int (nI lv)) rfl
  have g0' := gi [.int (nI P), .int (nI D), .int (nI Y), .int (nI ln), .int (nI G), .int (nI Ck), .int (nI lv), va_rf og, va_rf of_, d9, d10] 0 (nI P) rfl
  have g1' := gi [.int (nI P), .int (nI D), .int (nI Y), .int (nI ln), .int (nI G), .int (nI Ck), .int (nI lv), va_rf og, va_rf of_, d9, d10] 1 (nI D) rfl
  obtain ⟨f35, fl, e23, hfl⟩ := g_leadings (g := g) (s := 11) (A := some (.inr (0, [.int (nI P), .int (nI D), .int (nI Y), .int (nI ln), .int (nI G), .int (nI Ck), .int (nI lv), va_rf og, va_rf of_, d9, d10]))) o1 o2
  obtain ⟨n, en⟩ : ∃ n, n = (leadL P D).length := ⟨_, rfl⟩
  rw [← en] at e23 hfl lb
  obtain ⟨S, eS⟩ : ∃ S, S = 11 + 35 + n := ⟨_, rfl⟩
  rw [← eS] at e23
  have e23 : fX0_listLeadings (KK [.int (nI P), .int (nI D), .int (nI Y), .int (nI ln), .int (nI G), .int (nI Ck), .int (nI lv), va_rf og, va_rf of_, d9, d10]) (nI P) (nI D) = some (g.1 + 2, K4 g 3 S (some (.inr (0, [.int (nI P), .int (nI D), .int (nI Y), .int (nI ln), .int (nI G), .int (nI Ck), .int (nI lv), va_rf og, va_rf of_, d9, d10]))) (some (.inl (0, 35, .inl f35))) (some (.inl (0, n, .inl fl))) none) := by rw [eK]; exact e23
  have u9 : sV (K4 g 3 S (some (.inr (0, [.int (nI P), .int (nI D), .int (nI Y), .int (nI ln), .int (nI G), .int (nI Ck), .int (nI lv), va_rf og, va_rf of_, d9, d10]))) (some (.inl (0, 35, .inl f35))) (some (.inl (0, n, .inl fl))) none) 0 g.1 9 (.ref (g.1 + 2)) = some (K4 g 3 S (some (.inr (0, [.int (nI P), .int (nI D), .int (nI Y), .int (nI ln), .int (nI G), .int (nI Ck), .int (nI lv), va_rf og, va_rf of_, .ref (g.1 + 2), d10]))) (some (.inl (0, 35, .inl f35))) (some (.inl (0, n, .inl fl))) none) := K4_sV rfl
  have u9g : gN (K4 g 3 S (some (.inr (0, [.int (nI P), .int (nI D), .int (nI Y), .int (nI ln), .int (nI G), .int (nI Ck), .int (nI lv), va_rf og, va_rf of_, .ref (g.1 + 2), d10]))) (some (.inl (0, 35, .inl f35))) (some (.inl (0, n, .inl fl))) none) 0 g.1 9 = some (g.1 + 2) := K4_gN rfl
  have una : nA 0 (K4 g 3 S (some (.inr (0, [.int (nI P), .int (nI D), .int (nI Y), .int (nI ln), .int (nI G), .int (nI Ck), .int (nI lv), va_rf og, va_rf of_, .ref (g.1 + 2), d10]))) (some (.inl (0, 35, .inl f35))) (some (.inl (0, n, .inl fl))) none) (nI (n * 4)) = some (K4 g 4 (S + 4 * n) (some (.inr (0, [.int (nI P), .int (nI D), .int (nI Y), .int (nI ln), .int (nI G), .int (nI Ck), .int (nI lv), va_rf og, va_rf of_, .ref (g.1 + 2), d10]))) (some (.inl (0, 35, .inl f35))) (some (.inl (0, n, .inl fl))) (some (.inl (0, 4 * n, .inl (fun _ => nI 0))))) := by
    rw [show n * 4 = 4 * n by omega, g_nA (by omega), K4_n3]
  have u10 : sV (K4 g 4 (S + 4 * n) (some (.inr (0, [.int (nI P), .int (nI D), .int (nI Y), .int (nI ln), .int (nI G), .int (nI Ck), .int (nI lv), va_rf og, va_rf of_, .ref (g.1 + 2), d10]))) (some (.inl (0, 35, .inl f35))) (some (.inl (0, n, .inl fl))) (some (.inl (0, 4 * n, .inl (fun _ => nI 0))))) 0 g.1 10 (.ref (g.1 + 3)) = some (K4 g 4 (S + 4 * n) (some (.inr (0, [.int (nI P), .int (nI D), .int (nI Y), .int (nI ln), .int (nI G), .int (nI Ck), .int (nI lv), va_rf og, va_rf of_, .ref (g.1 + 2), .ref (g.1 + 3)]))) (some (.inl (0, 35, .inl f35))) (some (.inl (0, n, .inl fl))) (some (.inl (0, 4 * n, .inl (fun _ => nI 0))))) := K4_sV rfl
  have lvb : ∀ i, i < n → fl i = nI ((leadL P D).getD i 0) ∧ (leadL P D).getD i 0 < 625 := fun i hi => ⟨hfl i hi, (lisl (i := i) (by rw [eL, ← en]; exact hi)).2⟩
  obtain ⟨fs, e142, hfs⟩ := g_shares (g := g) (s := S + 4 * n) (n := n) (fs := [.int (nI P), .int (nI D), .int (nI Y), .int (nI ln), .int (nI G), .int (nI Ck), .int (nI lv), va_rf og, va_rf of_, .ref (g.1 + 2), .ref (g.1 + 3)]) (B := some (.inl (0, 35, .inl f35))) (fl := fl) rfl rfl lb.2 (fun i => (leadL P D).getD i 0) lvb (4 * n) 0 (fun _ => nI 0) (by omega) (fun i hi => absurd hi (by omega))
  refine ⟨f35, fl, fs, ?_, by rw [← en]; exact hfl, by rw [← en]; exact hfs⟩
  rw [← en]
  have aS : 11 + 35 + n + 4 * n = S + 4 * n := by omega
  rw [aS, ← e142]
  have c3 : (K4 g 3 S (some (.inr (0, [.int (nI P), .int (nI D), .int (nI Y), .int (nI ln), .int (nI G), .int (nI Ck), .int (nI lv), va_rf og, va_rf of_, .ref (g.1 + 2), d10]))) (some (.inl (0, 35, .inl f35))) (some (.inl (0, n, .inl fl))) none).1 = g.1 + 3 := rfl
  have e109 : fX0_init_109 (KK [.int (nI P), .int (nI D), .int (nI Y), .int (nI ln), .int (nI G), .int (nI Ck), d6, va_rf og, va_rf of_, d9, d10]) g.1 g.1 (nI lv) = fX0_init_142 (K4 g 4 (S + 4 * n) (some (.inr (0, [.int (nI P), .int (nI D), .int (nI Y), .int (nI ln), .int (nI G), .int (nI Ck), .int (nI lv), va_rf og, va_rf of_, .ref (g.1 + 2), .ref (g.1 + 3)]))) (some (.inl (0, 35, .inl f35))) (some (.inl (0, n, .inl fl))) (some (.inl (0, 4 * n, .inl (fun _ => nI 0))))) g.1 (nI 0) := by
    unfold fX0_init_109
    simp (disch := omega) only [n_lit, n_of, n_o1, nI_add, pk_mul, nI_ltI, nI_leI, nI_eq, ↓lift_lt, ↓k_mt, ↓k_mp, if_true, if_false, Bool.false_eq_true, Nat.not_lt_zero, Nat.zero_le, Nat.reduceEqDiff, Nat.reduceLeDiff, Nat.reduceLT, s6, g0', g1', e23, u9, u9g, K4_L2, una, c3, u10]
  have e91 : ∀ y, (L = none → nI y = nI lv) → fX0_init_91 (KK [.int (nI P), .int (nI D), .int (nI Y), .int (nI ln), .int (nI G), .int (nI Ck), d6, va_rf og, va_rf of_, d9, d10]) g.1 x1 (nI y) = fX0_init_109 (KK [.int (nI P), .int (nI D), .int (nI Y), .int (nI ln), .int (nI G), .int (nI Ck), d6, va_rf og, va_rf of_, d9, d10]) g.1 g.1 (nI lv) := fun y hy => by
    have gl := gx [.int (nI P), .int (nI D), .int (nI Y), .int (nI ln), .int (nI G), .int (nI Ck), d6, va_rf og, va_rf of_, d9, d10] 13 _ p13
    unfold fX0_init_91
    cases hL : L with
    | none =>
      rw [hL] at gl
      have gl : gI (KK [.int (nI P), .int (nI D), .int (nI Y), .int (nI ln), .int (nI G), .int (nI Ck), d6, va_rf og, va_rf of_, d9, d10]) 4 x1 13 = some (-nI 1) := gl
      rw [gl, hy hL]
      refine Eq.trans (k_bs _ _) ?_
      exact if_pos rfl
    | some l =>
      rw [hL] at gl elv
      have gl : gI (KK [.int (nI P), .int (nI D), .int (nI Y), .int (nI ln), .int (nI G), .int (nI Ck), d6, va_rf og, va_rf of_, d9, d10]) 4 x1 13 = some (nI l) := gl
      have elv : lv = l := elv
      have lb5 : l < 5 ^ P := (o6 l hL).2.1
      have := pow5_le o1
      rw [gl, elv]
      refine (if_neg ?_).trans rfl
      exact nI_ne1 (by omega)
  unfold fX0_init
  rw [e1]
  rw [← e109]
  have q8 := gx [d0, d1, d2, d3, d4, d5', d6, d7, d8, d9, d10] 8 _ p8
  have q9 := gx [.int (nI P), d1, d2, d3, d4, d5', d6, d7, d8, d9, d10] 9 _ p9
  have q10 := gx [.int (nI P), .int (nI D), d2, d3, d4, d5', d6, d7, d8, d9, d10] 10 _ p10
  have q7 := gx [.int (nI P), .int (nI D), .int (nI Y), d3, d4, d5', d6, d7, d8, d9, d10] 7 _ p7
  have q11 := gx [.int (nI P), .int (nI D), .int (nI Y), .int (nI ln), d4, d5', d6, d7, d8, d9, d10] 11 _ p11
  have q12 := gx [.int (nI P), .int (nI D), .int (nI Y), .int (nI ln), .int (nI G), d5', d6, d7, d8, d9, d10] 12 _ p12
  have q14 := gxr [.int (nI P), .int (nI D), .int (nI Y), .int (nI ln), .int (nI G), .int (nI Ck), d6, d7, d8, d9, d10] 14 _ p14
  have q15 := gxr [.int (nI P), .int (nI D), .int (nI Y), .int (nI ln), .int (nI G), .int (nI Ck), d6, va_rf og, d8, d9, d10] 15 _ p15
  by_cases zP : P ≤ 0
  · have y0 := e91 0 (fun hL => by rw [elv, hL, if_neg (by omega)]; rfl)
    simp (disch := omega) only [n_lit, n_of, n_o1, nI_add, pk_mul, nI_ltI, nI_leI, nI_eq, ↓lift_lt, ↓k_mt, ↓k_mp, if_true, if_false, Bool.false_eq_true, Nat.not_lt_zero, Nat.zero_le, Nat.reduceEqDiff, Nat.reduceLeDiff, Nat.reduceLT, q8, mnP, s0, q9, mnD, s1, q10, s2, q7, s3, q11, s4, q12, s5, q14, s7, q15, s8, g0, zP, y0]
  · have y0 := e91 D (fun hL => by rw [elv, hL, if_pos (by omega)]; rfl)
    simp (disch := omega) only [n_lit, n_of, n_o1, nI_add, pk_mul, nI_ltI, nI_leI, nI_eq, ↓lift_lt, ↓k_mt, ↓k_mp, if_true, if_false, Bool.false_eq_true, Nat.not_lt_zero, Nat.zero_le, Nat.reduceEqDiff, Nat.reduceLeDiff, Nat.reduceLT, q8, mnP, s0, q9, mnD, s1, q10, s2, q7, s3, q11, s4, q12, s5, q14, s7, q15, s8, g0, g1, zP, y0]
end CVN
theorem K4_c {h : Hp} {c : Ch} {n s : Nat} {A B C D : Option Cl} (ho : hok h) : K4 (cput h c) n s A B C D = cput (K4 h n s A B C D) c := by
  refine Prod.ext rfl (Prod.ext rfl ?_)
  funext j
  show (if j = h.1 then A else if j = h.1 + 1 then B else if j = h.1 + 2 then C else if j = h.1 + 3 then D else if cdom j = true then some (cell c j) else h.2.2 j) = (if cdom j = true then some (cell c j) else if j = h.1 then A else if j = h.1 + 1 then B else if j = h.1 + 2 then C else if j = h.1 + 3 then D else h.2.2 j)
  have hl := ho.1
  by_cases z : h.1 ≤ j
  · have q : ¬ cdom j = true := by rw [cdom_r (by omega)]; decide
    rw [if_neg q, if_neg q]
  · have n0 : ¬ j = h.1 := by omega
    have n1 : ¬ j = h.1 + 1 := by omega
    have n2 : ¬ j = h.1 + 2 := by omega
    have n3 : ¬ j = h.1 + 3 := by omega
    simp only [n0, n1, n2, n3, if_false]
/-- the same, of the class's parser -/
theorem c_cave {h : Hp} {c : Ch} {z : Tl} (ho : hok h) (C : Ct h c z) (O : okT z) : ∃ h', fX0_init (nO (cput h c) 0 11) h.1 82 = some (cput h' c) ∧ hok h' ∧ hgr h h' ∧ h'.1 = h.1 + 4 ∧ h'.2.1 ≤ h.2.1 + 221 ∧ CaveAt h' h.1 (cvT z) := by
  have hl := ho.1
  obtain ⟨s1, s2, s3, s4, s5, s6, s7, s8, s9⟩ := C
  have hp : (cput h c).2.2 82 = some (.inr (4, [.ref 83, .ref 85, .int (c.1 82 2), .int (c.1 82 3), .int (c.1 82 4), .int (c.1 82 5), .int (c.1 82 6), .int (c.1 82 7), .int (c.1 82 8), .int (c.1 82 9), .int (c.1 82 10), .int (c.1 82 11), .int (c.1 82 12), .int (c.1 82 13), va_rf (c.2.2.1 82 14), va_rf (c.2.2.1 82 15)])) := by
    rw [cput_at h c (by decide)]
    rfl
  obtain ⟨f35, fl, fs, e, hfl, hfs⟩ := g_cave (g := cput h c) (x1 := 82) (z := z) (og := c.2.2.1 82 14) (of_ := c.2.2.1 82 15) (fun a ha => by
      have ha : h.1 ≤ a := ha
      rw [cput_getr (by omega)]
      exact ho.2 a ha) (by show 82 < h.1; omega) hp O (by rw [← s1]; rfl) (by rw [← s2]; rfl) (by rw [← s3]; rfl) (by rw [← s4]; rfl) (by rw [← s5]; rfl) (by rw [← s6]; rfl) (by rw [← s7]; rfl) rfl rfl
  rw [K4_c ho] at e
  have lb := leadL_b (P := z.1) (D := z.2.1) (by have := O.1; omega) (by have := O.2.1; omega)
  have lb : nL (cvT z) ≤ 35 := lb.2
  have g4 : hgr h (K4 h 4 (11 + 35 + nL (cvT z) + 4 * nL (cvT z)) (some (.inr (0, [.int (nI (vP (cvT z))), .int (nI (vD (cvT z))), .int (nI (vY (cvT z))), .int (nI (vN (cvT z))), .int (nI (vG (cvT z))), .int (nI (vC (cvT z))), .int (nI (vL (cvT z))), va_rf (c.2.2.1 82 14), va_rf (c.2.2.1 82 15), .ref (h.1 + 2), .ref (h.1 + 3)]))) (some (.inl (0, 35, .inl f35))) (some (.inl (0, nL (cvT z), .inl fl))) (some (.inl (0, 4 * nL (cvT z), .inl fs)))) := ⟨Nat.le_add_right _ _, Nat.le_add_right _ _, fun a ha => K4_lo ha⟩
  refine ⟨_, e, ⟨?_, fun a ha => ?_⟩, g4, rfl, ?_, Or.inr hl, c.2.2.1 82 14, c.2.2.1 82 15, h.1 + 2, h.1 + 3, fl, fs, K4_a0, LawAt_fr (hgr_fr ho g4) s8, LawAt_fr (hgr_fr ho g4) s9, Or.inr (by omega), Or.inr (by omega), K4_a2, hfl, K4_a3, hfs⟩
  · show 162 ≤ h.1 + 4
    omega
  · have ha : h.1 + 4 ≤ a := ha
    show (if a = h.1 then _ else if a = h.1 + 1 then _ else if a = h.1 + 2 then _ else if a = h.1 + 3 then _ else h.2.2 a) = none
    rw [if_neg (by omega), if_neg (by omega), if_neg (by omega), if_neg (by omega)]
    exact ho.2 a (by omega)
  · show h.2.1 + (11 + 35 + nL (cvT z) + 4 * nL (cvT z)) ≤ h.2.1 + 221
    omega
