/-! laws that are told -/
theorem lawN_mv {f f' : Nat → Int32} {law nc nc' : Nat} {gl : Option (List Nat)} (h : ∀ i, i < 138 + nc → ¬ i = 137 → (i = 5 + law ∨ i = 7 + law ∨ i = 9 + law ∨ 138 ≤ i) → f' i = f i) (hn : nc ≤ nc') (hlw : law < 2) (H : lawN f law nc gl) : lawN f' law nc' gl := by
  cases gl with
  | none => exact (h _ (by omega) (by omega) (by omega)).trans H
  | some code =>
    obtain ⟨h1, fr, h2, h3, h4, h5⟩ := H
    exact ⟨(h _ (by omega) (by omega) (by omega)).trans h1, fr, (h _ (by omega) (by omega) (by omega)).trans h2, (h _ (by omega) (by omega) (by omega)).trans h3, by omega, fun k hk => (h _ (by omega) (by omega) (by omega)).trans (h5 k hk)⟩
section LWS
variable {t : Nat → Nat} {N : Nat} {m0 : Mu} {c0 : Ch} {h : Hp} {m : Mu} {c : Ch} {z : Tl} {nc a : Nat}
theorem l_grows {b nm : Nat} (T : TSx t N h m c a b 7 nm) (R : Rt (m.2.1 4) z nc) (C : Ct h c z) (O : okT z) (hl : nc ≤ a) (fM : lfM m0 m) (fC : lfC c0 c) (ho : hok h) :
    ∃ m', gX12_readLaw m (nI 0) = some m' ∧ ((∃ h' c' z' nc' a', fX4_tellGrows (cput h c) 82 = some (nI 1, cput h' c') ∧ LNx t N m0 c0 h' m' c' z' nc' a' ∧ z'.2.2.2.1 = z.2.2.2.1 ∧ a + 3 ≤ a' ∧ hok h' ∧ hgr h h' ∧ h'.1 = h.1 + 2 ∧ h'.2.1 + a ≤ h.2.1 + a') ∨ (∃ c', fX4_tellGrows (cput h c) 82 = some (nI 0, cput h c') ∧ LFx m0 c0 m' c')) := by
  have i1 : ¬ (1 = 0) := by decide
  obtain ⟨P, D, Y, ln, G, Ck, L, gl, fl⟩ := z
  obtain ⟨m1, c1, a1, b1, kd1, nm1, e1, e2, T1, l1, f1, f2⟩ := l_next T (by decide)
  have fM1 := lfM_n fM f1
  have fC1 := lfC_n fC f2
  obtain ⟨c5, ec5⟩ : ∃ c5, c5 = cI (cI c1 82 2 (nI 0)) 82 3 (nI 1) := ⟨_, rfl⟩
  have T5 : TSx t N h m1 c5 a1 b1 kd1 nm1 := by rw [ec5]; exact TS_I (TS_I T1)
  have fC5 : lfC c0 c5 := by rw [ec5]; exact lfC_I (lfC_I fC1)
  have la : fX6_advance (cput h c) 83 = some (cput h c1) := by rw [lX6_advance, e2]; rfl
  have w2 : sV (cput h c1) 4 82 2 (.int (nI 0)) = some (cput h (cI c1 82 2 (nI 0))) := csI_82_2 h c1 (nI 0)
  have w3 : sV (cput h (cI c1 82 2 (nI 0))) 4 82 3 (.int (nI 1)) = some (cput h c5) := by rw [ec5]; exact csI_82_3 h _ _
  have g83 : ∀ {α : Type} (e : Option α), gO (cput h c) 6 83 e = e := fun e => c_gO h c e (by decide) rfl
  have head : ∀ y : Option (Int32 × Hp), ((fX4_take (cput h c5) 82 13).bind fun y6 => if y6.1 = 0 then fX4_tellGrows_34 y6.2 else gO y6.2 4 82 ((rX4_sum 100 0 y6.2 82 (0 : Int32)).bind fun y8 => if y8.1 = 0 then fX4_tellGrows_34 y8.2 else lt y8.2.1 fun a10 => lt (nO y8.2 3 1) fun h11 => (gN h11 4 82 1).bind fun v12 => (gI h11 4 82 2).bind fun v13 => (fX3_init h11 a10 v12 v13).bind fun y14 => (sV y14 4 82 14 (.ref a10)).bind fun h15 => some ((1 : Int32), h15))) = y → fX4_tellGrows (cput h c) 82 = y := fun y hy => by
    rw [← hy]
    unfold fX4_tellGrows
    simp (disch := omega) only [n_lit, n_of, n_o1, nI_add, pk_mul, nI_ltI, nI_leI, nI_eq, ↓lift_lt, ↓k_mt, ↓k_mp, if_true, if_false, Bool.false_eq_true, Nat.not_lt_zero, Nat.zero_le, Nat.reduceEqDiff, Nat.reduceLeDiff, Nat.reduceLT, cgN_82_0, g83, la, w2, w3, cgO_82]
  have tk : fX4_take (cput h c5) 82 13 = (gX4_take h c5 13).map (fun (y : (Int32 × Ch)) => (y.1, cput h y.2)) := lX4_take h c5 13
  have ab1 := TS_a T1
  rcases l_eat (x := 13) (by decide) (by decide) T5 with ⟨m2, c6, a2, b2, kd2, nm2, x1, x2, T2, l2, g1, g2, -⟩ | ⟨m2, c6, x1, x1', x2, F, -⟩
  · have x1 : gX12_eats m1 (nI 31) = some (nI 1, m2) := x1
    have ab2 := TS_a T2
    obtain ⟨m4, em4⟩ : ∃ m4, m4 = mI m2 15 (nI 0) := ⟨_, rfl⟩
    have v137 : m2.2.1 4 137 = nI nc := by rw [g1.2, f1.2]; exact R.2.2.2.2.2.2.2.2.2.2.2
    have fM2 := lfM_n fM1 g1
    have fC6 := lfC_n fC5 g2
    have f4 : ∀ r, ¬ r = 15 → m4.1 r = m2.1 r := fun r hr => by rw [em4, mI_f, if_neg hr]
    have P4 : PRx t N true nc m4 c6 h m4 c6 [] a2 := by
      refine ⟨?_, ⟨b2, kd2, nm2, ?_⟩, by rw [f4 11 (by decide)]; exact T2.2.2, by rw [em4, mI_f, if_pos rfl]; rfl, ?_, ?_, (fun i hi => by cases hi), ?_, ?_, (fun i hi => by cases hi), ⟨fun _ _ _ _ _ _ _ => rfl, rfl, fun _ _ => rfl, fun _ _ _ => rfl⟩, ⟨fun _ _ _ => rfl, fun _ _ _ _ _ => rfl, rfl, rfl, rfl, fun _ _ => rfl, rfl⟩⟩
      · obtain ⟨x1, x2, x3, x4, x5⟩ := T2.1
        exact ⟨x1, x2, by rw [f4 8 (by decide)]; exact x3, by rw [em4]; exact x4, x5⟩
      · obtain ⟨k1, k2, k3, k4, k5, k6, k7, k8⟩ := T2.2.1
        exact ⟨by rw [f4 6 (by decide)]; exact k1, by rw [f4 7 (by decide)]; exact k2, by rw [f4 9 (by decide)]; exact k3, k4, k5, k6, fun q => by rw [f4 10 (by decide)]; exact k7 q, k8⟩
      · rw [g2.1 82 (by decide), ec5, cI_1, if_pos rfl, if_pos rfl]; rfl
      · rw [em4]; exact v137
      · show nc + 0 ≤ 900
        omega
      · rw [g2.1 82 (by decide), ec5, cI_1, if_pos rfl, if_neg (by decide), cI_1, if_pos rfl, if_pos rfl]; rfl
    have NT := (nt_all (t := t) (N := N) (g := true) (fr := nc) (m0 := m4) (c0 := c6) (h := h) 6 0 rfl 100 100 (by decide) (by decide)).1
    have e18 : gX12_readLaw m (nI 0) = (grX12_readAtom 100 3 m4 (nI 0)).bind fun y => gX12_readLaw_49 y (nI 0) (nI nc) := by
      unfold gX12_readLaw gX12_readLaw_18
      rw [em4]
      simp (disch := omega) only [n_lit, n_of, n_o1, nI_add, pk_mul, nI_ltI, nI_leI, nI_eq, ↓lift_lt, ↓k_mt, ↓k_mp, if_true, if_false, Bool.false_eq_true, Nat.not_lt_zero, Nat.zero_le, Nat.reduceEqDiff, Nat.reduceLeDiff, Nat.reduceLT, e1, x1, i1, mA_4, v137]
    have ls := lrX4_sum h 100 0 c6 (nI 0)
    obtain ⟨m5, r5, ⟨c7, ds, a5, x5, P5, l5, l5', T5'⟩ | ⟨c7, x5, F5⟩⟩ := NT m4 c6 [] a2 P4 (by show nc + 0 ≤ a2; omega)
    · have r5 : grX12_readAtom 100 3 m4 (nI 0) = some m5 := r5
      have x5 : grX4_sum h 100 0 c6 (nI 0) = some (nI 1, c7) := x5
      have P5 : PRx t N true nc m4 c6 h m5 c7 ds a5 := P5
      obtain ⟨Q1, ⟨b5, kd5, nm5, Q2⟩, Q3, Q4, Q5, Q6, Q7, Q8, Q9, Q10, Q11, Q12⟩ := P5
      have a5b : a5 ≤ N := by have := Q2.2.2.2.2.2.2.2; have q := TC_kd this; have := this.1; omega
      obtain ⟨h', n1, n2, n3, n4, n5, n6⟩ := c_newLaw (h := h) (c := c7) (len := ds.length) ho (by omega)
      have LW := n6 ds rfl Q10
      have lsm : rX4_sum 100 0 (cput h c6) 82 (nI 0) = some (nI 1, cput h c7) := by rw [ls, x5]; rfl
      have u1 : gN (nO (cput h c7) 3 1) 4 82 1 = some 85 := by
        rw [show nO (cput h c7) 3 1 = cput (hp_new h 1 (.inr (3, dfl 3 1))) c7 by rw [← cput_new ho.1]; rfl]
        exact cgN_82_1 _ c7
      have u2 : gI (nO (cput h c7) 3 1) 4 82 2 = some (nI ds.length) := by
        rw [show nO (cput h c7) 3 1 = cput (hp_new h 1 (.inr (3, dfl 3 1))) c7 by rw [← cput_new ho.1]; rfl, cgI_82_2, Q9]
      have u3 : sV (cput h' c7) 4 82 14 (.ref h.1) = some (cput h' (cR c7 82 14 (some h.1))) := csR_82_14 h' c7 h.1
      have cH : (cput h c7).1 = h.1 := rfl
      obtain ⟨m6, em6⟩ : ∃ m6, m6 = mS m5 4 (5 + 0) (nI 1) := ⟨_, rfl⟩
      obtain ⟨m7, em7⟩ : ∃ m7, m7 = mS m6 4 (7 + 0) (nI nc) := ⟨_, rfl⟩
      obtain ⟨m8, em8⟩ : ∃ m8, m8 = mS m7 4 (9 + 0) (nI ds.length) := ⟨_, rfl⟩
      have y6 : mW m5 4 (nI (5 + 0)) (nI 1) = some m6 := by rw [em6]; exact mW_4 m5 _ (by decide)
      have y7 : mW m6 4 (nI (7 + 0)) (nI nc) = some m7 := by rw [em7]; exact mW_4 m6 _ (by decide)
      have y8 : mW m7 4 (nI (9 + 0)) (nI ds.length) = some m8 := by rw [em8]; exact mW_4 m7 _ (by decide)
      have v7 : m7.2.1 4 137 = nI (nc + ds.length) := by rw [em7, mS_a, if_pos rfl, if_neg (by decide), em6, mS_a, if_pos rfl, if_neg (by decide)]; exact Q6
      have sb : nI (nc + ds.length) - nI nc = nI ds.length := by rw [pk_sub (by omega), Nat.add_sub_cancel_left]
      have sA : ∀ k, ¬ k = 5 + 0 → ¬ k = 7 + 0 → ¬ k = 9 + 0 → m8.2.1 4 k = m5.2.1 4 k := fun k q1 q2 q3 => by rw [em8, mS_a, if_pos rfl, if_neg q3, em7, mS_a, if_pos rfl, if_neg q2, em6, mS_a, if_pos rfl, if_neg q1]
      have sB : ∀ k, k < 138 + nc → ¬ k = 137 → m5.2.1 4 k = m.2.1 4 k := fun k q1 q2 => by rw [Q11.2.2.2 k q1 q2, em4, mI_a, g1.2, f1.2]
      have TS5 : TSx t N h m5 c7 a5 b5 kd5 nm5 := ⟨Q1, Q2, Q3⟩
      have fM5 : lfM m0 m5 := by
        refine ⟨fun r q1 q2 q3 q4 q5 q6 q7 => ?_, by rw [Q11.2.1, em4]; exact fM2.2.1, fun r hr => by rw [Q11.2.2.1 r hr, em4]; exact fM2.2.2 r hr⟩
        rw [Q11.1 r q1 q2 q3 q4 q5 q6, f4 r q7]
        exact fM2.1 r q1 q2 q3 q4 q5 q6 q7
      have fC7 : lfC c0 c7 := ⟨fun r q1 q2 => by rw [Q12.1 r q1 q2]; exact fC6.1 r q1 q2, by rw [Q12.2.2.1]; exact fC6.2.1, by rw [Q12.2.2.2.1]; exact fC6.2.2.1, fun r k hk => by rw [Q12.2.2.2.2.1]; exact fC6.2.2.2.1 r k hk, fun r hr => by rw [Q12.2.2.2.2.2.1 r hr]; exact fC6.2.2.2.2.1 r hr, by rw [Q12.2.2.2.2.2.2]; exact fC6.2.2.2.2.2⟩
      obtain ⟨r1, r2, r3, r4, r5', r6, r7, r8, r9, r10, r11, r12⟩ := R
      obtain ⟨s1, s2, s3, s4, s5, s6, s7, s8, s9⟩ := C
      obtain ⟨o1, o2, o3, o4, o5, o6, o7, o8⟩ := O
      have c7k : ∀ k, ¬ k = 2 → ¬ k = 3 → ¬ k = 4 → ¬ k = 5 → ¬ k = 6 → c7.1 82 k = c.1 82 k := fun k q2 q3 q4 q5 q6 => by rw [Q12.2.1 k q2 q4 q5 q6, g2.1 82 (by decide), ec5, cI_1, if_pos rfl, if_neg q3, cI_1, if_pos rfl, if_neg q2, f2.1 82 (by decide)]
      have c7r : c7.2.2.1 = c.2.2.1 := by
        rw [Q12.2.2.2.2.1, g2.2.2, ec5]
        show c1.2.2.1 = _
        rw [f2.2.2]
      have frh := hgr_fr ho n3
      have tyd : tys true ds [] = some [false] := T5' [] (Nat.zero_le _)
      refine ⟨m8, ?_, Or.inl ⟨h', cR c7 82 14 (some h.1), (P, D, Y, ln, G, Ck, L, some ds, fl), nc + ds.length, a5, ?_, ⟨⟨b5, kd5, nm5, ?_⟩, ?_, ?_, ?_, by omega, ?_, ?_⟩, rfl, by omega, n2, n3, n4, by rw [n5]; omega⟩⟩
      · rw [e18, r5]
        show gX12_readLaw_49 m5 (nI 0) (nI nc) = _
        unfold gX12_readLaw_49
        simp (disch := omega) only [n_lit, n_of, n_o1, nI_add, pk_mul, nI_ltI, nI_leI, nI_eq, ↓lift_lt, ↓k_mt, ↓k_mp, if_true, if_false, Bool.false_eq_true, Nat.not_lt_zero, Nat.zero_le, Nat.reduceEqDiff, Nat.reduceLeDiff, Nat.reduceLT, Q3, y6, y7, mA_4, v7, sb, y8]
      · refine head _ ?_
        rw [tk, x2]
        have cg : ∀ {α : Type} (e : Option α), gO (cput h c6) 4 82 e = e := fun e => cgO_82 h c6 e
        simp (disch := omega) only [n_lit, n_of, n_o1, nI_add, pk_mul, nI_ltI, nI_leI, nI_eq, ↓lift_lt, ↓k_mt, ↓k_mp, if_true, if_false, Bool.false_eq_true, Nat.not_lt_zero, Nat.zero_le, Nat.reduceEqDiff, Nat.reduceLeDiff, Nat.reduceLT, Option.map_some, i1, cg, lsm, cH, u1, u2, n1, u3]
      · have T8 : TSx t N h m8 c7 a5 b5 kd5 nm5 := by rw [em8, em7, em6]; exact TS_S (TS_S (TS_S TS5))
        obtain ⟨⟨x1, x2, x3, x4, x5, x6, x7⟩, K, w⟩ := T8
        refine ⟨⟨x1, x2, x3, x4, ?_, x6, x7⟩, K, w⟩
        show (if 83 = 82 then (fun i => if i = 14 then some h.1 else c7.2.2.1 82 i) else c7.2.2.1 83) 0 = some 81
        rw [if_neg (by decide)]
        exact x5
      · have sC : ∀ k, k < 138 + nc → ¬ k = 137 → ¬ k = 5 + 0 → ¬ k = 7 + 0 → ¬ k = 9 + 0 → m8.2.1 4 k = m.2.1 4 k := fun k q1 q2 q3 q4 q5 => by rw [sA k q3 q4 q5, sB k q1 q2]
        refine ⟨by rw [sC 0 (by omega) (by decide) (by decide) (by decide) (by decide)]; exact r1, by rw [sC 1 (by omega) (by decide) (by decide) (by decide) (by decide)]; exact r2, by rw [sC 2 (by omega) (by decide) (by decide) (by decide) (by decide)]; exact r3, by rw [sC 3 (by omega) (by decide) (by decide) (by decide) (by decide)]; exact r4, by rw [sC 4 (by omega) (by decide) (by decide) (by decide) (by decide)]; exact r5', fun p hp => by rw [sC _ (by omega) (by omega) (by omega) (by omega) (by omega)]; exact r6 p hp, fun p hp => by rw [sC _ (by omega) (by omega) (by omega) (by omega) (by omega)]; exact r7 p hp, by rw [sC 23 (by omega) (by decide) (by decide) (by decide) (by decide)]; exact r8, ⟨by rw [sC 24 (by omega) (by decide) (by decide) (by decide) (by decide)]; exact r9.1, by rw [sC 25 (by omega) (by decide) (by decide) (by decide) (by decide)]; exact r9.2.1, by rw [sC 26 (by omega) (by decide) (by decide) (by decide) (by decide)]; exact r9.2.2⟩, ⟨by rw [em8, mS_a, if_pos rfl, if_neg (by decide), em7, mS_a, if_pos rfl, if_neg (by decide), em6, mS_a, if_pos rfl, if_pos rfl], nc, by rw [em8, mS_a, if_pos rfl, if_neg (by decide), em7, mS_a, if_pos rfl, if_pos rfl], by rw [em8, mS_a, if_pos rfl, if_pos rfl], Nat.le_refl _, fun k hk => by rw [sA _ (by omega) (by omega) (by omega)]; exact Q7 k hk⟩, lawN_mv (fun i q1 q2 q3 => sC i q1 q2 (by omega) (by omega) (by omega)) (by omega) (by decide) r11, by rw [sA 137 (by decide) (by decide) (by decide)]; exact Q6⟩
      · refine ⟨by show c7.1 82 7 = _; rw [c7k 7 (by decide) (by decide) (by decide) (by decide) (by decide)]; exact s1, by show c7.1 82 8 = _; rw [c7k 8 (by decide) (by decide) (by decide) (by decide) (by decide)]; exact s2, by show c7.1 82 9 = _; rw [c7k 9 (by decide) (by decide) (by decide) (by decide) (by decide)]; exact s3, by show c7.1 82 10 = _; rw [c7k 10 (by decide) (by decide) (by decide) (by decide) (by decide)]; exact s4, by show c7.1 82 11 = _; rw [c7k 11 (by decide) (by decide) (by decide) (by decide) (by decide)]; exact s5, by show c7.1 82 12 = _; rw [c7k 12 (by decide) (by decide) (by decide) (by decide) (by decide)]; exact s6, by show c7.1 82 13 = _; rw [c7k 13 (by decide) (by decide) (by decide) (by decide) (by decide)]; exact s7, by rw [cR_3, if_pos rfl, if_pos rfl]; exact LW, by rw [cR_3, if_pos rfl, if_neg (by decide), c7r]; exact LawAt_fr frh s9⟩
      · exact ⟨o1, o2, o3, o4, o5, o6, (fun code hc => by have e : ds = code := Option.some.inj hc; subst e; exact ⟨tyd, by omega⟩), o8⟩
      · rw [em8, em7, em6]; exact lfM_S (lfM_S (lfM_S fM5))
      · refine ⟨fC7.1, fC7.2.1, fC7.2.2.1, fun r k hk => ?_, fC7.2.2.2.2⟩
        rw [← fC7.2.2.2.1 r k hk, cR_3]
        by_cases q : r = 82
        · subst q
          rw [if_pos rfl, if_neg (fun q2 => hk ⟨rfl, by omega⟩)]
        · rw [if_neg q]
    · have r5 : grX12_readAtom 100 3 m4 (nI 0) = some m5 := r5
      have x5 : grX4_sum h 100 0 c6 (nI 0) = some (nI 0, c7) := x5
      have pw := PFx_w F5
      have lsm : rX4_sum 100 0 (cput h c6) 82 (nI 0) = some (nI 0, cput h c7) := by rw [ls, x5]; rfl
      refine ⟨m5, ?_, Or.inr ⟨c7, ?_, ?_⟩⟩
      · rw [e18, r5]
        show gX12_readLaw_49 m5 (nI 0) (nI nc) = _
        unfold gX12_readLaw_49
        simp (disch := omega) only [n_lit, n_of, n_o1, nI_add, pk_mul, nI_ltI, nI_leI, nI_eq, ↓lift_lt, ↓k_mt, ↓k_mp, if_true, if_false, Bool.false_eq_true, Nat.not_lt_zero, Nat.zero_le, Nat.reduceEqDiff, Nat.reduceLeDiff, Nat.reduceLT, pw]
      · refine head _ ?_
        rw [tk, x2]
        have cg : ∀ {α : Type} (e : Option α), gO (cput h c6) 4 82 e = e := fun e => cgO_82 h c6 e
        unfold fX4_tellGrows_34
        simp (disch := omega) only [n_lit, n_of, n_o1, nI_add, pk_mul, nI_ltI, nI_leI, nI_eq, ↓lift_lt, ↓k_mt, ↓k_mp, if_true, if_false, Bool.false_eq_true, Nat.not_lt_zero, Nat.zero_le, Nat.reduceEqDiff, Nat.reduceLeDiff, Nat.reduceLT, Option.map_some, i1, cg, lsm]
      · obtain ⟨k, p, sz, h1, h2, h3, h4, h5, h6, h7, h8, h9, Q11, Q12⟩ := F5
        refine ⟨k, p, h1, h2, h4, h3, h5, h6, h7, ⟨fun r q1 q2 q3 q4 q5 q6 q7 => ?_, by rw [Q11.2.1, em4]; exact fM2.2.1, fun r hr => by rw [Q11.2.2.1 r hr, em4]; exact fM2.2.2 r hr⟩, ⟨fun r q1 q2 => by rw [Q12.1 r q1 q2]; exact fC6.1 r q1 q2, by rw [Q12.2.2.1]; exact fC6.2.1, by rw [Q12.2.2.2.1]; exact fC6.2.2.1, fun r k hk => by rw [Q12.2.2.2.2.1]; exact fC6.2.2.2.1 r k hk, fun r hr => by rw [Q12.2.2.2.2.2.1 r hr]; exact fC6.2.2.2.2.1 r hr, by rw [Q12.2.2.2.2.2.2]; exact fC6.2.2.2.2.2⟩⟩
        rw [Q11.1 r q1 q2 q3 q4 q5 q6, f4 r q7]
        exact fM2.1 r q1 q2 q3 q4 q5 q6 q7
  · have x1 : gX12_eats m1 (nI 31) = some (nI 0, m1) := x1
    have pw := FAx_w F
    obtain ⟨m4, em4⟩ : ∃ m4, m4 = mI m2 15 (nI 0) := ⟨_, rfl⟩
    have pw4 : ¬ m4.1 11 = nI 0 := by rw [em4, mI_f, if_neg (by decide)]; exact pw
    have v137 : m2.2.1 4 137 = nI nc := by
      obtain ⟨k, p, -, -, -, e, -⟩ := F
      rw [e]
      show m1.2.1 4 137 = _
      rw [f1.2]
      exact R.2.2.2.2.2.2.2.2.2.2.2
    have no : grX12_readAtom 100 3 m4 (nI 0) = some m4 := no_3 97 (nI 0) m4 pw4
    have em4' : mI m2 15 (nI 0) = m4 := em4.symm
    refine ⟨m4, ?_, Or.inr ⟨c6, ?_, ?_⟩⟩
    · unfold gX12_readLaw gX12_readLaw_18 gX12_readLaw_49
      simp (disch := omega) only [n_lit, n_of, n_o1, nI_add, pk_mul, nI_ltI, nI_leI, nI_eq, ↓lift_lt, ↓k_mt, ↓k_mp, if_true, if_false, Bool.false_eq_true, Nat.not_lt_zero, Nat.zero_le, Nat.reduceEqDiff, Nat.reduceLeDiff, Nat.reduceLT, e1, x1, x1', mA_4, v137, em4', i1, no, pw4]
    · refine head _ ?_
      rw [tk, x2]
      unfold fX4_tellGrows_34
      simp (disch := omega) only [n_lit, n_of, n_o1, nI_add, pk_mul, nI_ltI, nI_leI, nI_eq, ↓lift_lt, ↓k_mt, ↓k_mp, if_true, if_false, Bool.false_eq_true, Nat.not_lt_zero, Nat.zero_le, Nat.reduceEqDiff, Nat.reduceLeDiff, Nat.reduceLT, Option.map_some]
    · obtain ⟨k, p, h1, h2, h3, h4, h5, h6, h7, h8, h9⟩ := LFx_of fM1 fC5 F
      exact ⟨k, p, h1, h2, h3, by rw [em4, mI_f, if_neg (by decide)]; exact h4, by rw [em4, mI_f, if_neg (by decide)]; exact h5, h6, h7, ⟨fun r q1 q2 q3 q4 q5 q6 q7 => by rw [em4, mI_f, if_neg q7]; exact h8.1 r q1 q2 q3 q4 q5 q6 q7, by rw [em4]; exact h8.2.1, by rw [em4]; exact h8.2.2⟩, h9⟩
theorem l_falls {b nm : Nat} (T : TSx t N h m c a b 8 nm) (R : Rt (m.2.1 4) z nc) (C : Ct h c z) (O : okT z) (hl : nc ≤ a) (fM : lfM m0 m) (fC : lfC c0 c) (ho : hok h) :
    ∃ m', gX12_readLaw m (nI 1) = some m' ∧ ((∃ h' c' z' nc' a', fX4_tellFalls (cput h c) 82 = some (nI 1, cput h' c') ∧ LNx t N m0 c0 h' m' c' z' nc' a' ∧ z'.2.2.2.1 = z.2.2.2.1 ∧ a + 3 ≤ a' ∧ hok h' ∧ hgr h h' ∧ h'.1 = h.1 + 2 ∧ h'.2.1 + a ≤ h.2.1 + a') ∨ (∃ c', fX4_tellFalls (cput h c) 82 = some (nI 0, cput h c') ∧ LFx m0 c0 m' c')) := by
  have i1 : ¬ (1 = 0) := by decide
  obtain ⟨P, D, Y, ln, G, Ck, L, gl, fl⟩ := z
  obtain ⟨m1, c1, a1, b1, kd1, nm1, e1, e2, T1, l1, f1, f2⟩ := l_next T (by decide)
  have fM1 := lfM_n fM f1
  have fC1 := lfC_n fC f2
  obtain ⟨c5, ec5⟩ : ∃ c5, c5 = cI (cI c1 82 2 (nI 0)) 82 3 (nI 0) := ⟨_, rfl⟩
  have T5 : TSx t N h m1 c5 a1 b1 kd1 nm1 := by rw [ec5]; exact TS_I (TS_I T1)
  have fC5 : lfC c0 c5 := by rw [ec5]; exact lfC_I (lfC_I fC1)
  have la : fX6_advance (cput h c) 83 = some (cput h c1) := by rw [lX6_advance, e2]; rfl
  have w2 : sV (cput h c1) 4 82 2 (.int (nI 0)) = some (cput h (cI c1 82 2 (nI 0))) := csI_82_2 h c1 (nI 0)
  have w3 : sV (cput h (cI c1 82 2 (nI 0))) 4 82 3 (.int (nI 0)) = some (cput h c5) := by rw [ec5]; exact csI_82_3 h _ _
  have g83 : ∀ {α : Type} (e : Option α), gO (cput h c) 6 83 e = e := fun e => c_gO h c e (by decide) rfl
  have head : ∀ y : Option (Int32 × Hp), ((fX4_take (cput h c5) 82 13).bind fun y6 => if y6.1 = 0 then fX4_tellFalls_34 y6.2 else gO y6.2 4 82 ((rX4_sum 100 4 y6.2 82 (0 : Int32)).bind fun y8 => if y8.1 = 0 then fX4_tellFalls_34 y8.2 else lt y8.2.1 fun a10 => lt (nO y8.2 3 1) fun h11 => (gN h11 4 82 1).bind fun v12 => (gI h11 4 82 2).bind fun v13 => (fX3_init h11 a10 v12 v13).bind fun y14 => (sV y14 4 82 15 (.ref a10)).bind fun h15 => some ((1 : Int32), h15))) = y → fX4_tellFalls (cput h c) 82 = y := fun y hy => by
    rw [← hy]
    unfold fX4_tellFalls
    simp (disch := omega) only [n_lit, n_of, n_o1, nI_add, pk_mul, nI_ltI, nI_leI, nI_eq, ↓lift_lt, ↓k_mt, ↓k_mp, if_true, if_false, Bool.false_eq_true, Nat.not_lt_zero, Nat.zero_le, Nat.reduceEqDiff, Nat.reduceLeDiff, Nat.reduceLT, cgN_82_0, g83, la, w2, w3, cgO_82]
  have tk : fX4_take (cput h c5) 82 13 = (gX4_take h c5 13).map (fun (y : (Int32 × Ch)) => (y.1, cput h y.2)) := lX4_take h c5 13
  have ab1 := TS_a T1
  rcases l_eat (x := 13) (by decide) (by decide) T5 with ⟨m2, c6, a2, b2, kd2, nm2, x1, x2, T2, l2, g1, g2, -⟩ | ⟨m2, c6, x1, x1', x2, F, -⟩
  · have x1 : gX12_eats m1 (nI 31) = some (nI 1, m2) := x1
    have ab2 := TS_a T2
    obtain ⟨m4, em4⟩ : ∃ m4, m4 = mI m2 15 (nI 1) := ⟨_, rfl⟩
    have v137 : m2.2.1 4 137 = nI nc := by rw [g1.2, f1.2]; exact R.2.2.2.2.2.2.2.2.2.2.2
    have fM2 := lfM_n fM1 g1
    have fC6 := lfC_n fC5 g2
    have f4 : ∀ r, ¬ r = 15 → m4.1 r = m2.1 r := fun r hr => by rw [em4, mI_f, if_neg hr]
    have P4 : PRx t N false nc m4 c6 h m4 c6 [] a2 := by
      refine ⟨?_, ⟨b2, kd2, nm2, ?_⟩, by rw [f4 11 (by decide)]; exact T2.2.2, by rw [em4, mI_f, if_pos rfl]; rfl, ?_, ?_, (fun i hi => by cases hi), ?_, ?_, (fun i hi => by cases hi), ⟨fun _ _ _ _ _ _ _ => rfl, rfl, fun _ _ => rfl, fun _ _ _ => rfl⟩, ⟨fun _ _ _ => rfl, fun _ _ _ _ _ => rfl, rfl, rfl, rfl, fun _ _ => rfl, rfl⟩⟩
      · obtain ⟨x1, x2, x3, x4, x5⟩ := T2.1
        exact ⟨x1, x2, by rw [f4 8 (by decide)]; exact x3, by rw [em4]; exact x4, x5⟩
      · obtain ⟨k1, k2, k3, k4, k5, k6, k7, k8⟩ := T2.2.1
        exact ⟨by rw [f4 6 (by decide)]; exact k1, by rw [f4 7 (by decide)]; exact k2, by rw [f4 9 (by decide)]; exact k3, k4, k5, k6, fun q => by rw [f4 10 (by decide)]; exact k7 q, k8⟩
      · rw [g2.1 82 (by decide), ec5, cI_1, if_pos rfl, if_pos rfl]; rfl
      · rw [em4]; exact v137
      · show nc + 0 ≤ 900
        omega
      · rw [g2.1 82 (by decide), ec5, cI_1, if_pos rfl, if_neg (by decide), cI_1, if_pos rfl, if_pos rfl]; rfl
    have NT := (nt_all (t := t) (N := N) (g := false) (fr := nc) (m0 := m4) (c0 := c6) (h := h) 6 0 rfl 100 100 (by decide) (by decide)).2.2
    have e18 : gX12_readLaw m (nI 1) = (grX12_readAtom 100 6 m4 (nI 0)).bind fun y => gX12_readLaw_49 y (nI 1) (nI nc) := by
      unfold gX12_readLaw gX12_readLaw_18
      rw [em4]
      simp (disch := omega) only [n_lit, n_of, n_o1, nI_add, pk_mul, nI_ltI, nI_leI, nI_eq, ↓lift_lt, ↓k_mt, ↓k_mp, if_true, if_false, Bool.false_eq_true, Nat.not_lt_zero, Nat.zero_le, Nat.reduceEqDiff, Nat.reduceLeDiff, Nat.reduceLT, e1, x1, i1, mA_4, v137]
    have ls := lrX4_sum h 100 4 c6 (nI 0)
    obtain ⟨m5, r5, ⟨c7, ds, a5, x5, P5, l5, l5', T5'⟩ | ⟨c7, x5, F5⟩⟩ := NT m4 c6 [] a2 P4 (by show nc + 0 ≤ a2; omega)
    · have r5 : grX12_readAtom 100 6 m4 (nI 0) = some m5 := r5
      have x5 : grX4_sum h 100 4 c6 (nI 0) = some (nI 1, c7) := x5
      have P5 : PRx t N false nc m4 c6 h m5 c7 ds a5 := P5
      obtain ⟨Q1, ⟨b5, kd5, nm5, Q2⟩, Q3, Q4, Q5, Q6, Q7, Q8, Q9, Q10, Q11, Q12⟩ := P5
      have a5b : a5 ≤ N := by have := Q2.2.2.2.2.2.2.2; have q := TC_kd this; have := this.1; omega
      obtain ⟨h', n1, n2, n3, n4, n5, n6⟩ := c_newLaw (h := h) (c := c7) (len := ds.length) ho (by omega)
      have LW := n6 ds rfl Q10
      have lsm : rX4_sum 100 4 (cput h c6) 82 (nI 0) = some (nI 1, cput h c7) := by rw [ls, x5]; rfl
      have u1 : gN (nO (cput h c7) 3 1) 4 82 1 = some 85 := by
        rw [show nO (cput h c7) 3 1 = cput (hp_new h 1 (.inr (3, dfl 3 1))) c7 by rw [← cput_new ho.1]; rfl]
        exact cgN_82_1 _ c7
      have u2 : gI (nO (cput h c7) 3 1) 4 82 2 = some (nI ds.length) := by
        rw [show nO (cput h c7) 3 1 = cput (hp_new h 1 (.inr (3, dfl 3 1))) c7 by rw [← cput_new ho.1]; rfl, cgI_82_2, Q9]
      have u3 : sV (cput h' c7) 4 82 15 (.ref h.1) = some (cput h' (cR c7 82 15 (some h.1))) := csR_82_15 h' c7 h.1
      have cH : (cput h c7).1 = h.1 := rfl
      obtain ⟨m6, em6⟩ : ∃ m6, m6 = mS m5 4 (5 + 1) (nI 1) := ⟨_, rfl⟩
      obtain ⟨m7, em7⟩ : ∃ m7, m7 = mS m6 4 (7 + 1) (nI nc) := ⟨_, rfl⟩
      obtain ⟨m8, em8⟩ : ∃ m8, m8 = mS m7 4 (9 + 1) (nI ds.length) := ⟨_, rfl⟩
      have y6 : mW m5 4 (nI (5 + 1)) (nI 1) = some m6 := by rw [em6]; exact mW_4 m5 _ (by decide)
      have y7 : mW m6 4 (nI (7 + 1)) (nI nc) = some m7 := by rw [em7]; exact mW_4 m6 _ (by decide)
      have y8 : mW m7 4 (nI (9 + 1)) (nI ds.length) = some m8 := by rw [em8]; exact mW_4 m7 _ (by decide)
      have v7 : m7.2.1 4 137 = nI (nc + ds.length) := by rw [em7, mS_a, if_pos rfl, if_neg (by decide), em6, mS_a, if_pos rfl, if_neg (by decide)]; exact Q6
      have sb : nI (nc + ds.length) - nI nc = nI ds.length := by rw [pk_sub (by omega), Nat.add_sub_cancel_left]
      have sA : ∀ k, ¬ k = 5 + 1 → ¬ k = 7 + 1 → ¬ k = 9 + 1 → m8.2.1 4 k = m5.2.1 4 k := fun k q1 q2 q3 => by rw [em8, mS_a, if_pos rfl, if_neg q3, em7, mS_a, if_pos rfl, if_neg q2, em6, mS_a, if_pos rfl, if_neg q1]
      have sB : ∀ k, k < 138 + nc → ¬ k = 137 → m5.2.1 4 k = m.2.1 4 k := fun k q1 q2 => by rw [Q11.2.2.2 k q1 q2, em4, mI_a, g1.2, f1.2]
      have TS5 : TSx t N h m5 c7 a5 b5 kd5 nm5 := ⟨Q1, Q2, Q3⟩
      have fM5 : lfM m0 m5 := by
        refine ⟨fun r q1 q2 q3 q4 q5 q6 q7 => ?_, by rw [Q11.2.1, em4]; exact fM2.2.1, fun r hr => by rw [Q11.2.2.1 r hr, em4]; exact fM2.2.2 r hr⟩
        rw [Q11.1 r q1 q2 q3 q4 q5 q6, f4 r q7]
        exact fM2.1 r q1 q2 q3 q4 q5 q6 q7
      have fC7 : lfC c0 c7 := ⟨fun r q1 q2 => by rw [Q12.1 r q1 q2]; exact fC6.1 r q1 q2, by rw [Q12.2.2.1]; exact fC6.2.1, by rw [Q12.2.2.2.1]; exact fC6.2.2.1, fun r k hk => by rw [Q12.2.2.2.2.1]; exact fC6.2.2.2.1 r k hk, fun r hr => by rw [Q12.2.2.2.2.2.1 r hr]; exact fC6.2.2.2.2.1 r hr, by rw [Q12.2.2.2.2.2.2]; exact fC6.2.2.2.2.2⟩
      obtain ⟨r1, r2, r3, r4, r5', r6, r7, r8, r9, r10, r11, r12⟩ := R
      obtain ⟨s1, s2, s3, s4, s5, s6, s7, s8, s9⟩ := C
      obtain ⟨o1, o2, o3, o4, o5, o6, o7, o8⟩ := O
      have c7k : ∀ k, ¬ k = 2 → ¬ k = 3 → ¬ k = 4 → ¬ k = 5 → ¬ k = 6 → c7.1 82 k = c.1 82 k := fun k q2 q3 q4 q5 q6 => by rw [Q12.2.1 k q2 q4 q5 q6, g2.1 82 (by decide), ec5, cI_1, if_pos rfl, if_neg q3, cI_1, if_pos rfl, if_neg q2, f2.1 82 (by decide)]
      have c7r : c7.2.2.1 = c.2.2.1 := by
        rw [Q12.2.2.2.2.1, g2.2.2, ec5]
        show c1.2.2.1 = _
        rw [f2.2.2]
      have frh := hgr_fr ho n3
      have tyd : tys false ds [] = some [true] := T5' [] (Nat.zero_le _)
      refine ⟨m8, ?_, Or.inl ⟨h', cR c7 82 15 (some h.1), (P, D, Y, ln, G, Ck, L, gl, some ds), nc + ds.length, a5, ?_, ⟨⟨b5, kd5, nm5, ?_⟩, ?_, ?_, ?_, by omega, ?_, ?_⟩, rfl, by omega, n2, n3, n4, by rw [n5]; omega⟩⟩
      · rw [e18, r5]
        show gX12_readLaw_49 m5 (nI 1) (nI nc) = _
        unfold gX12_readLaw_49
        simp (disch := omega) only [n_lit, n_of, n_o1, nI_add, pk_mul, nI_ltI, nI_leI, nI_eq, ↓lift_lt, ↓k_mt, ↓k_mp, if_true, if_false, Bool.false_eq_true, Nat.not_lt_zero, Nat.zero_le, Nat.reduceEqDiff, Nat.reduceLeDiff, Nat.reduceLT, Q3, y6, y7, mA_4, v7, sb, y8]
      · refine head _ ?_
        rw [tk, x2]
        have cg : ∀ {α : Type} (e : Option α), gO (cput h c6) 4 82 e = e := fun e => cgO_82 h c6 e
        simp (disch := omega) only [n_lit, n_of, n_o1, nI_add, pk_mul, nI_ltI, nI_leI, nI_eq, ↓lift_lt, ↓k_mt, ↓k_mp, if_true, if_false, Bool.false_eq_true, Nat.not_lt_zero, Nat.zero_le, Nat.reduceEqDiff, Nat.reduceLeDiff, Nat.reduceLT, Option.map_some, i1, cg, lsm, cH, u1, u2, n1, u3]
      · have T8 : TSx t N h m8 c7 a5 b5 kd5 nm5 := by rw [em8, em7, em6]; exact TS_S (TS_S (TS_S TS5))
        obtain ⟨⟨x1, x2, x3, x4, x5, x6, x7⟩, K, w⟩ := T8
        refine ⟨⟨x1, x2, x3, x4, ?_, x6, x7⟩, K, w⟩
        show (if 83 = 82 then (fun i => if i = 15 then some h.1 else c7.2.2.1 82 i) else c7.2.2.1 83) 0 = some 81
        rw [if_neg (by decide)]
        exact x5
      · have sC : ∀ k, k < 138 + nc → ¬ k = 137 → ¬ k = 5 + 1 → ¬ k = 7 + 1 → ¬ k = 9 + 1 → m8.2.1 4 k = m.2.1 4 k := fun k q1 q2 q3 q4 q5 => by rw [sA k q3 q4 q5, sB k q1 q2]
        refine ⟨by rw [sC 0 (by omega) (by decide) (by decide) (by decide) (by decide)]; exact r1, by rw [sC 1 (by omega) (by decide) (by decide) (by decide) (by decide)]; exact r2, by rw [sC 2 (by omega) (by decide) (by decide) (by decide) (by decide)]; exact r3, by rw [sC 3 (by omega) (by decide) (by decide) (by decide) (by decide)]; exact r4, by rw [sC 4 (by omega) (by decide) (by decide) (by decide) (by decide)]; exact r5', fun p hp => by rw [sC _ (by omega) (by omega) (by omega) (by omega) (by omega)]; exact r6 p hp, fun p hp => by rw [sC _ (by omega) (by omega) (by omega) (by omega) (by omega)]; exact r7 p hp, by rw [sC 23 (by omega) (by decide) (by decide) (by decide) (by decide)]; exact r8, ⟨by rw [sC 24 (by omega) (by decide) (by decide) (by decide) (by decide)]; exact r9.1, by rw [sC 25 (by omega) (by decide) (by decide) (by decide) (by decide)]; exact r9.2.1, by rw [sC 26 (by omega) (by decide) (by decide) (by decide) (by decide)]; exact r9.2.2⟩, lawN_mv (fun i q1 q2 q3 => sC i q1 q2 (by omega) (by omega) (by omega)) (by omega) (by decide) r10, ⟨by rw [em8, mS_a, if_pos rfl, if_neg (by decide), em7, mS_a, if_pos rfl, if_neg (by decide), em6, mS_a, if_pos rfl, if_pos rfl], nc, by rw [em8, mS_a, if_pos rfl, if_neg (by decide), em7, mS_a, if_pos rfl, if_pos rfl], by rw [em8, mS_a, if_pos rfl, if_pos rfl], Nat.le_refl _, fun k hk => by rw [sA _ (by omega) (by omega) (by omega)]; exact Q7 k hk⟩, by rw [sA 137 (by decide) (by decide) (by decide)]; exact Q6⟩
      · refine ⟨by show c7.1 82 7 = _; rw [c7k 7 (by decide) (by decide) (by decide) (by decide) (by decide)]; exact s1, by show c7.1 82 8 = _; rw [c7k 8 (by decide) (by decide) (by decide) (by decide) (by decide)]; exact s2, by show c7.1 82 9 = _; rw [c7k 9 (by decide) (by decide) (by decide) (by decide) (by decide)]; exact s3, by show c7.1 82 10 = _; rw [c7k 10 (by decide) (by decide) (by decide) (by decide) (by decide)]; exact s4, by show c7.1 82 11 = _; rw [c7k 11 (by decide) (by decide) (by decide) (by decide) (by decide)]; exact s5, by show c7.1 82 12 = _; rw [c7k 12 (by decide) (by decide) (by decide) (by decide) (by decide)]; exact s6, by show c7.1 82 13 = _; rw [c7k 13 (by decide) (by decide) (by decide) (by decide) (by decide)]; exact s7, by rw [cR_3, if_pos rfl, if_neg (by decide), c7r]; exact LawAt_fr frh s8, by rw [cR_3, if_pos rfl, if_pos rfl]; exact LW⟩
      · exact ⟨o1, o2, o3, o4, o5, o6, o7, (fun code hc => by have e : ds = code := Option.some.inj hc; subst e; exact ⟨tyd, by omega⟩)⟩
      · rw [em8, em7, em6]; exact lfM_S (lfM_S (lfM_S fM5))
      · refine ⟨fC7.1, fC7.2.1, fC7.2.2.1, fun r k hk => ?_, fC7.2.2.2.2⟩
        rw [← fC7.2.2.2.1 r k hk, cR_3]
        by_cases q : r = 82
        · subst q
          rw [if_pos rfl, if_neg (fun q2 => hk ⟨rfl, by omega⟩)]
        · rw [if_neg q]
    · have r5 : grX12_readAtom 100 6 m4 (nI 0) = some m5 := r5
      have x5 : grX4_sum h 100 4 c6 (nI 0) = some (nI 0, c7) := x5
      have pw := PFx_w F5
      have lsm : rX4_sum 100 4 (cput h c6) 82 (nI 0) = some (nI 0, cput h c7) := by rw [ls, x5]; rfl
      refine ⟨m5, ?_, Or.inr ⟨c7, ?_, ?_⟩⟩
      · rw [e18, r5]
        show gX12_readLaw_49 m5 (nI 1) (nI nc) = _
        unfold gX12_readLaw_49
        simp (disch := omega) only [n_lit, n_of, n_o1, nI_add, pk_mul, nI_ltI, nI_leI, nI_eq, ↓lift_lt, ↓k_mt, ↓k_mp, if_true, if_false, Bool.false_eq_true, Nat.not_lt_zero, Nat.zero_le, Nat.reduceEqDiff, Nat.reduceLeDiff, Nat.reduceLT, pw]
      · refine head _ ?_
        rw [tk, x2]
        have cg : ∀ {α : Type} (e : Option α), gO (cput h c6) 4 82 e = e := fun e => cgO_82 h c6 e
        unfold fX4_tellFalls_34
        simp (disch := omega) only [n_lit, n_of, n_o1, nI_add, pk_mul, nI_ltI, nI_leI, nI_eq, ↓lift_lt, ↓k_mt, ↓k_mp, if_true, if_false, Bool.false_eq_true, Nat.not_lt_zero, Nat.zero_le, Nat.reduceEqDiff, Nat.reduceLeDiff, Nat.reduceLT, Option.map_some, i1, cg, lsm]
      · obtain ⟨k, p, sz, h1, h2, h3, h4, h5, h6, h7, h8, h9, Q11, Q12⟩ := F5
        refine ⟨k, p, h1, h2, h4, h3, h5, h6, h7, ⟨fun r q1 q2 q3 q4 q5 q6 q7 => ?_, by rw [Q11.2.1, em4]; exact fM2.2.1, fun r hr => by rw [Q11.2.2.1 r hr, em4]; exact fM2.2.2 r hr⟩, ⟨fun r q1 q2 => by rw [Q12.1 r q1 q2]; exact fC6.1 r q1 q2, by rw [Q12.2.2.1]; exact fC6.2.1, by rw [Q12.2.2.2.1]; exact fC6.2.2.1, fun r k hk => by rw [Q12.2.2.2.2.1]; exact fC6.2.2.2.1 r k hk, fun r hr => by rw [Q12.2.2.2.2.2.1 r hr]; exact fC6.2.2.2.2.1 r hr, by rw [Q12.2.2.2.2.2.2]; exact fC6.2.2.2.2.2⟩⟩
        rw [Q11.1 r q1 q2 q3 q4 q5 q6, f4 r q7]
        exact fM2.1 r q1 q2 q3 q4 q5 q6 q7
  · have x1 : gX12_eats m1 (nI 31) = some (nI 0, m1) := x1
    have pw := FAx_w F
    obtain ⟨m4, em4⟩ : ∃ m4, m4 = mI m2 15 (nI 1) := ⟨_, rfl⟩
    have pw4 : ¬ m4.1 11 = nI 0 := by rw [em4, mI_f, if_neg (by decide)]; exact pw
    have v137 : m2.2.1 4 137 = nI nc := by
      obtain ⟨k, p, -, -, -, e, -⟩ := F
      rw [e]
      show m1.2.1 4 137 = _
      rw [f1.2]
      exact R.2.2.2.2.2.2.2.2.2.2.2
    have no : grX12_readAtom 100 6 m4 (nI 0) = some m4 := no_6 94 (nI 0) m4 pw4
    have em4' : mI m2 15 (nI 1) = m4 := em4.symm
    refine ⟨m4, ?_, Or.inr ⟨c6, ?_, ?_⟩⟩
    · unfold gX12_readLaw gX12_readLaw_18 gX12_readLaw_49
      simp (disch := omega) only [n_lit, n_of, n_o1, nI_add, pk_mul, nI_ltI, nI_leI, nI_eq, ↓lift_lt, ↓k_mt, ↓k_mp, if_true, if_false, Bool.false_eq_true, Nat.not_lt_zero, Nat.zero_le, Nat.reduceEqDiff, Nat.reduceLeDiff, Nat.reduceLT, e1, x1, x1', mA_4, v137, em4', i1, no, pw4]
    · refine head _ ?_
      rw [tk, x2]
      unfold fX4_tellFalls_34
      simp (disch := omega) only [n_lit, n_of, n_o1, nI_add, pk_mul, nI_ltI, nI_leI, nI_eq, ↓lift_lt, ↓k_mt, ↓k_mp, if_true, if_false, Bool.false_eq_true, Nat.not_lt_zero, Nat.zero_le, Nat.reduceEqDiff, Nat.reduceLeDiff, Nat.reduceLT, Option.map_some]
    · obtain ⟨k, p, h1, h2, h3, h4, h5, h6, h7, h8, h9⟩ := LFx_of fM1 fC5 F
      exact ⟨k, p, h1, h2, h3, by rw [em4, mI_f, if_neg (by decide)]; exact h4, by rw [em4, mI_f, if_neg (by decide)]; exact h5, h6, h7, ⟨fun r q1 q2 q3 q4 q5 q6 q7 => by rw [em4, mI_f, if_neg q7]; exact h8.1 r q1 q2 q3 q4 q5 q6 q7, by rw [em4]; exact h8.2.1, by rw [em4]; exact h8.2.2⟩, h9⟩
end LWS
