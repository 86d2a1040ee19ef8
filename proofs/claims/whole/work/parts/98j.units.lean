/-! atoms, choices, comparisons -/
section NTU
variable {t : Nat → Nat} {N : Nat} {g : Bool} {fr : Nat} {m0 : Mu} {c0 : Ch} {h : Hp}
variable {gr : Nat → Mu → Int32 → Option Mu} {gc : Nat → Ch → Int32 → Option (Int32 × Ch)} {d : Nat}
def NTi (t : Nat → Nat) (N : Nat) (g : Bool) (fr : Nat) (m0 : Mu) (c0 : Ch) (h : Hp) (B : Nat) (R : Mu → Option Mu) (C : Ch → Option (Int32 × Ch)) : Prop :=
  ∀ m c cs a b nm, PRx t N g fr m0 c0 h m c cs a → TKx t N m c a b 9 nm → fr + cs.length ≤ a → ∃ m', R m = some m' ∧
    ((∃ c' ds a', C c = some (nI 1, c') ∧ PRx t N g fr m0 c0 h m' c' (cs ++ ds) a' ∧ a + ds.length ≤ a' ∧ a < a' ∧ TYx g false B ds) ∨ (∃ c', C c = some (nI 0, c') ∧ PFx fr m0 c0 m' c'))
theorem nt_if (hd : d ≤ 6) (HT : d < 6 → NTx t N g fr m0 c0 h true (8 * (d + 1)) (fun m => gr 6 m (nI (d + 1))) (fun c => gc 4 c (nI (d + 1)))) (HS : d < 6 → NTx t N g fr m0 c0 h false (8 * (d + 1) + 3) (fun m => gr 3 m (nI (d + 1))) (fun c => gc 0 c (nI (d + 1)))) (hn : NOx (fun m => gr 3 m (nI (d + 1)))) : NTi t N g fr m0 c0 h (8 * d + 5) (fun m => gX12_readIf gr m (nI d)) (fun c => gX4_choice gc h c (nI d)) := by
  have i1 : ¬ (1 = 0) := by decide
  have w72 : ∀ m : Mu, ¬ m.1 11 = nI 0 → gX12_readIf_72 gr m = some m := fun m hm => by
    unfold gX12_readIf_72
    simp (disch := omega) only [n_lit, n_of, n_o1, nI_add, pk_mul, nI_ltI, nI_leI, nI_eq, ↓lift_lt, ↓k_mt, ↓k_mp, if_true, if_false, Bool.false_eq_true, Nat.not_lt_zero, Nat.zero_le, Nat.reduceEqDiff, Nat.reduceLeDiff, Nat.reduceLT, q_codes_w hm]
  have w51 : ∀ m : Mu, ¬ m.1 11 = nI 0 → gX12_readIf_51 gr m (nI d) = some m := fun m hm => by
    have h3 : gr 3 m (nI (d + 1)) = some m := hn m hm
    unfold gX12_readIf_51
    simp (disch := omega) only [n_lit, n_of, n_o1, nI_add, pk_mul, nI_ltI, nI_leI, nI_eq, ↓lift_lt, ↓k_mt, ↓k_mp, if_true, if_false, Bool.false_eq_true, Nat.not_lt_zero, Nat.zero_le, Nat.reduceEqDiff, Nat.reduceLeDiff, Nat.reduceLT, h3, q_eats_w hm, q_fails_w hm, w72 m hm]
  have w30 : ∀ m : Mu, ¬ m.1 11 = nI 0 → gX12_readIf_30 gr m (nI d) = some m := fun m hm => by
    have h3 : gr 3 m (nI (d + 1)) = some m := hn m hm
    unfold gX12_readIf_30
    simp (disch := omega) only [n_lit, n_of, n_o1, nI_add, pk_mul, nI_ltI, nI_leI, nI_eq, ↓lift_lt, ↓k_mt, ↓k_mp, if_true, if_false, Bool.false_eq_true, Nat.not_lt_zero, Nat.zero_le, Nat.reduceEqDiff, Nat.reduceLeDiff, Nat.reduceLT, h3, q_eats_w hm, q_fails_w hm, w51 m hm]
  intro m c cs a b nm H K hl
  rcases p_into hd H K (by decide) with ⟨m1, c1, a1, e1, e2, P1, l1, d6⟩ | ⟨m1, c1, e1, e2, F1⟩
  · have HT := HT d6
    have HS := HS d6
    obtain ⟨m2, r2, ⟨c2, d2, a2, x2, P2, l2, l2', T2⟩ | ⟨c2, x2, F2⟩⟩ := HT m1 c1 cs a1 P1 (by omega)
    · have r2 : gr 6 m1 (nI (d + 1)) = some m2 := r2
      have x2 : gc 4 c1 (nI (d + 1)) = some (nI 1, c2) := x2
      obtain ⟨b2, kd2, nm2, K2⟩ := P2.2.1
      rcases p_eat (x := 25) (by decide) (by decide) P2 K2 with ⟨m3, c3, a3, r3, x3, P3, l3, -⟩ | ⟨m3, c3, r3, r3', x3, F3, -⟩
      · have r3 : gX12_eats m2 (nI 10) = some (nI 1, m3) := r3
        obtain ⟨m4, r4, ⟨c4, d4, a4, x4, P4, l4, l4', T4⟩ | ⟨c4, x4, F4⟩⟩ := HS m3 c3 (cs ++ d2) a3 P3 (by rw [List.length_append]; omega)
        · have r4 : gr 3 m3 (nI (d + 1)) = some m4 := r4
          have x4 : gc 0 c3 (nI (d + 1)) = some (nI 1, c4) := x4
          obtain ⟨b4, kd4, nm4, K4⟩ := P4.2.1
          rcases p_eat (x := 26) (by decide) (by decide) P4 K4 with ⟨m5, c5, a5, r5, x5, P5, l5, -⟩ | ⟨m5, c5, r5, r5', x5, F5, -⟩
          · have r5 : gX12_eats m4 (nI 11) = some (nI 1, m5) := r5
            obtain ⟨m6, r6, ⟨c6, d6', a6, x6, P6, l6, l6', T6⟩ | ⟨c6, x6, F6⟩⟩ := HS m5 c5 (cs ++ d2 ++ d4) a5 P5 (by rw [List.length_append, List.length_append]; omega)
            · have r6 : gr 3 m5 (nI (d + 1)) = some m6 := r6
              have x6 : gc 0 c5 (nI (d + 1)) = some (nI 1, c6) := x6
              obtain ⟨b6, kd6, nm6, K6⟩ := P6.2.1
              rcases p_eat (x := 27) (by decide) (by decide) P6 K6 with ⟨m7, c7, a7, r7, x7, P7, l7, -⟩ | ⟨m7, c7, r7, r7', x7, F7, -⟩
              · have r7 : gX12_eats m6 (nI 12) = some (nI 1, m7) := r7
                have ab := PRx_a P7
                obtain ⟨m8, c8, r8, x8, P8, -⟩ := p_code (n := 3009) P7 (by rw [List.length_append, List.length_append, List.length_append]; omega)
                rw [cco_t.2.2.2.2.2.2.2.2.2] at x8
                refine ⟨m8, ?_, Or.inl ⟨c8, d2 ++ d4 ++ d6' ++ [3009], a7, ?_, ?_, ?_, by omega, fun st hs => ?_⟩⟩
                · show gX12_readIf gr m (nI d) = _
                  unfold gX12_readIf gX12_readIf_30 gX12_readIf_51 gX12_readIf_72
                  simp (disch := omega) only [n_lit, n_of, n_o1, nI_add, pk_mul, nI_ltI, nI_leI, nI_eq, ↓lift_lt, ↓k_mt, ↓k_mp, if_true, if_false, Bool.false_eq_true, Nat.not_lt_zero, Nat.zero_le, Nat.reduceEqDiff, Nat.reduceLeDiff, Nat.reduceLT, e1, i1, r2, r3, r4, r5, r6, r7, r8]
                · show gX4_choice gc h c (nI d) = _
                  unfold gX4_choice
                  simp (disch := omega) only [n_lit, n_of, n_o1, nI_add, pk_mul, nI_ltI, nI_leI, nI_eq, ↓lift_lt, ↓k_mt, ↓k_mp, if_true, if_false, Bool.false_eq_true, Nat.not_lt_zero, Nat.zero_le, Nat.reduceEqDiff, Nat.reduceLeDiff, Nat.reduceLT, e2, i1, x2, x3, x4, x5, x6, x7, x8]
                · rw [← List.append_assoc, ← List.append_assoc, ← List.append_assoc]
                  exact P8
                · rw [List.length_append, List.length_append, List.length_append]
                  show a + (d2.length + d4.length + d6'.length + 1) ≤ a7
                  omega
                · rw [tys_app, tys_app, tys_app, T2 st (by omega)]
                  show (((tys g d4 (true :: st)).bind (tys g d6')).bind (tys g [3009])) = _
                  rw [T4 (true :: st) (by show st.length + 1 ≤ _; omega)]
                  show ((tys g d6' (false :: true :: st)).bind (tys g [3009])) = _
                  rw [T6 (false :: true :: st) (by show st.length + 1 + 1 ≤ _; omega)]
                  show (ty1 g 3009 (false :: false :: true :: st)).bind (tys g []) = _
                  rw [ty_if]
                  rfl
              · have r7 : gX12_eats m6 (nI 12) = some (nI 0, m6) := r7
                have w := w72 m7 (PFx_w F7)
                refine ⟨m7, ?_, Or.inr ⟨c7, ?_, F7⟩⟩
                · show gX12_readIf gr m (nI d) = _
                  unfold gX12_readIf gX12_readIf_30 gX12_readIf_51
                  simp (disch := omega) only [n_lit, n_of, n_o1, nI_add, pk_mul, nI_ltI, nI_leI, nI_eq, ↓lift_lt, ↓k_mt, ↓k_mp, if_true, if_false, Bool.false_eq_true, Nat.not_lt_zero, Nat.zero_le, Nat.reduceEqDiff, Nat.reduceLeDiff, Nat.reduceLT, e1, i1, r2, r3, r4, r5, r6, r7, r7', w]
                · show gX4_choice gc h c (nI d) = _
                  unfold gX4_choice gX4_choice_67
                  simp (disch := omega) only [n_lit, n_of, n_o1, nI_add, pk_mul, nI_ltI, nI_leI, nI_eq, ↓lift_lt, ↓k_mt, ↓k_mp, if_true, if_false, Bool.false_eq_true, Nat.not_lt_zero, Nat.zero_le, Nat.reduceEqDiff, Nat.reduceLeDiff, Nat.reduceLT, e2, i1, x2, x3, x4, x5, x6, x7]
            · have r6 : gr 3 m5 (nI (d + 1)) = some m6 := r6
              have x6 : gc 0 c5 (nI (d + 1)) = some (nI 0, c6) := x6
              have pw := PFx_w F6
              have w := w72 m6 pw
              refine ⟨m6, ?_, Or.inr ⟨c6, ?_, F6⟩⟩
              · show gX12_readIf gr m (nI d) = _
                unfold gX12_readIf gX12_readIf_30 gX12_readIf_51
                simp (disch := omega) only [n_lit, n_of, n_o1, nI_add, pk_mul, nI_ltI, nI_leI, nI_eq, ↓lift_lt, ↓k_mt, ↓k_mp, if_true, if_false, Bool.false_eq_true, Nat.not_lt_zero, Nat.zero_le, Nat.reduceEqDiff, Nat.reduceLeDiff, Nat.reduceLT, e1, i1, r2, r3, r4, r5, r6, q_eats_w pw, q_fails_w pw, w]
              · show gX4_choice gc h c (nI d) = _
                unfold gX4_choice gX4_choice_67
                simp (disch := omega) only [n_lit, n_of, n_o1, nI_add, pk_mul, nI_ltI, nI_leI, nI_eq, ↓lift_lt, ↓k_mt, ↓k_mp, if_true, if_false, Bool.false_eq_true, Nat.not_lt_zero, Nat.zero_le, Nat.reduceEqDiff, Nat.reduceLeDiff, Nat.reduceLT, e2, i1, x2, x3, x4, x5, x6]
          · have r5 : gX12_eats m4 (nI 11) = some (nI 0, m4) := r5
            have w := w51 m5 (PFx_w F5)
            refine ⟨m5, ?_, Or.inr ⟨c5, ?_, F5⟩⟩
            · show gX12_readIf gr m (nI d) = _
              unfold gX12_readIf gX12_readIf_30
              simp (disch := omega) only [n_lit, n_of, n_o1, nI_add, pk_mul, nI_ltI, nI_leI, nI_eq, ↓lift_lt, ↓k_mt, ↓k_mp, if_true, if_false, Bool.false_eq_true, Nat.not_lt_zero, Nat.zero_le, Nat.reduceEqDiff, Nat.reduceLeDiff, Nat.reduceLT, e1, i1, r2, r3, r4, r5, r5', w]
            · show gX4_choice gc h c (nI d) = _
              unfold gX4_choice gX4_choice_67
              simp (disch := omega) only [n_lit, n_of, n_o1, nI_add, pk_mul, nI_ltI, nI_leI, nI_eq, ↓lift_lt, ↓k_mt, ↓k_mp, if_true, if_false, Bool.false_eq_true, Nat.not_lt_zero, Nat.zero_le, Nat.reduceEqDiff, Nat.reduceLeDiff, Nat.reduceLT, e2, i1, x2, x3, x4, x5]
        · have r4 : gr 3 m3 (nI (d + 1)) = some m4 := r4
          have x4 : gc 0 c3 (nI (d + 1)) = some (nI 0, c4) := x4
          have pw := PFx_w F4
          have w := w51 m4 pw
          refine ⟨m4, ?_, Or.inr ⟨c4, ?_, F4⟩⟩
          · show gX12_readIf gr m (nI d) = _
            unfold gX12_readIf gX12_readIf_30
            simp (disch := omega) only [n_lit, n_of, n_o1, nI_add, pk_mul, nI_ltI, nI_leI, nI_eq, ↓lift_lt, ↓k_mt, ↓k_mp, if_true, if_false, Bool.false_eq_true, Nat.not_lt_zero, Nat.zero_le, Nat.reduceEqDiff, Nat.reduceLeDiff, Nat.reduceLT, e1, i1, r2, r3, r4, q_eats_w pw, q_fails_w pw, w]
          · show gX4_choice gc h c (nI d) = _
            unfold gX4_choice gX4_choice_37
            simp (disch := omega) only [n_lit, n_of, n_o1, nI_add, pk_mul, nI_ltI, nI_leI, nI_eq, ↓lift_lt, ↓k_mt, ↓k_mp, if_true, if_false, Bool.false_eq_true, Nat.not_lt_zero, Nat.zero_le, Nat.reduceEqDiff, Nat.reduceLeDiff, Nat.reduceLT, e2, i1, x2, x3, x4]
      · have r3 : gX12_eats m2 (nI 10) = some (nI 0, m2) := r3
        have w := w30 m3 (PFx_w F3)
        refine ⟨m3, ?_, Or.inr ⟨c3, ?_, F3⟩⟩
        · show gX12_readIf gr m (nI d) = _
          unfold gX12_readIf
          simp (disch := omega) only [n_lit, n_of, n_o1, nI_add, pk_mul, nI_ltI, nI_leI, nI_eq, ↓lift_lt, ↓k_mt, ↓k_mp, if_true, if_false, Bool.false_eq_true, Nat.not_lt_zero, Nat.zero_le, Nat.reduceEqDiff, Nat.reduceLeDiff, Nat.reduceLT, e1, i1, r2, r3, r3', w]
        · show gX4_choice gc h c (nI d) = _
          unfold gX4_choice gX4_choice_37
          simp (disch := omega) only [n_lit, n_of, n_o1, nI_add, pk_mul, nI_ltI, nI_leI, nI_eq, ↓lift_lt, ↓k_mt, ↓k_mp, if_true, if_false, Bool.false_eq_true, Nat.not_lt_zero, Nat.zero_le, Nat.reduceEqDiff, Nat.reduceLeDiff, Nat.reduceLT, e2, i1, x2, x3]
    · have r2 : gr 6 m1 (nI (d + 1)) = some m2 := r2
      have x2 : gc 4 c1 (nI (d + 1)) = some (nI 0, c2) := x2
      have pw := PFx_w F2
      have w := w30 m2 pw
      refine ⟨m2, ?_, Or.inr ⟨c2, ?_, F2⟩⟩
      · show gX12_readIf gr m (nI d) = _
        unfold gX12_readIf
        simp (disch := omega) only [n_lit, n_of, n_o1, nI_add, pk_mul, nI_ltI, nI_leI, nI_eq, ↓lift_lt, ↓k_mt, ↓k_mp, if_true, if_false, Bool.false_eq_true, Nat.not_lt_zero, Nat.zero_le, Nat.reduceEqDiff, Nat.reduceLeDiff, Nat.reduceLT, e1, i1, r2, q_eats_w pw, q_fails_w pw, w]
      · show gX4_choice gc h c (nI d) = _
        unfold gX4_choice gX4_choice_37
        simp (disch := omega) only [n_lit, n_of, n_o1, nI_add, pk_mul, nI_ltI, nI_leI, nI_eq, ↓lift_lt, ↓k_mt, ↓k_mp, if_true, if_false, Bool.false_eq_true, Nat.not_lt_zero, Nat.zero_le, Nat.reduceEqDiff, Nat.reduceLeDiff, Nat.reduceLT, e2, i1, x2]
  · refine ⟨m1, ?_, Or.inr ⟨c1, ?_, F1⟩⟩
    · show gX12_readIf gr m (nI d) = _
      unfold gX12_readIf
      simp (disch := omega) only [n_lit, n_of, n_o1, nI_add, pk_mul, nI_ltI, nI_leI, nI_eq, ↓lift_lt, ↓k_mt, ↓k_mp, if_true, if_false, Bool.false_eq_true, Nat.not_lt_zero, Nat.zero_le, Nat.reduceEqDiff, Nat.reduceLeDiff, Nat.reduceLT, e1]
    · show gX4_choice gc h c (nI d) = _
      unfold gX4_choice gX4_choice_37
      simp (disch := omega) only [n_lit, n_of, n_o1, nI_add, pk_mul, nI_ltI, nI_leI, nI_eq, ↓lift_lt, ↓k_mt, ↓k_mp, if_true, if_false, Bool.false_eq_true, Nat.not_lt_zero, Nat.zero_le, Nat.reduceEqDiff, Nat.reduceLeDiff, Nat.reduceLT, e2]
/-- words within laws -/
def wdx (g : Bool) (kd : Nat) : Option Nat := if kd = 13 then some 0 else if kd = 6 then some 1 else if g = true then (if kd = 2 then some 2 else if kd = 4 then some 3 else if kd = 1 then some 4 else if kd = 3 then some 5 else none) else (if kd = 14 then some 6 else if kd = 15 then some 7 else none)
theorem q_word {m : Mu} {kd : Nat} (hk : kd < 42) (h15 : m.1 15 = nI (if g = true then 0 else 1)) : gX12_wordOf m (nI kd) = some (match wdx g kd with | some w => nI w | none => -nI 1) := by
  unfold gX12_wordOf gX12_wordOf_47 gX12_wordOf_85 wdx
  have i0 : ¬ (0 = 1) := by decide
  by_cases z13 : kd = 13
  · rw [if_pos z13]
    simp (disch := omega) only [n_lit, n_of, n_o1, nI_add, pk_mul, nI_ltI, nI_leI, nI_eq, ↓lift_lt, ↓k_mt, ↓k_mp, if_true, if_false, Bool.false_eq_true, Nat.not_lt_zero, Nat.zero_le, Nat.reduceEqDiff, Nat.reduceLeDiff, Nat.reduceLT, eq_true z13]
  · rw [if_neg z13]
    by_cases z6 : kd = 6
    · rw [if_pos z6]
      simp (disch := omega) only [n_lit, n_of, n_o1, nI_add, pk_mul, nI_ltI, nI_leI, nI_eq, ↓lift_lt, ↓k_mt, ↓k_mp, if_true, if_false, Bool.false_eq_true, Nat.not_lt_zero, Nat.zero_le, Nat.reduceEqDiff, Nat.reduceLeDiff, Nat.reduceLT, z13, eq_true z6]
    · rw [if_neg z6]
      cases g with
      | true =>
        have h15 : m.1 15 = nI 0 := h15
        rw [if_pos rfl]
        by_cases z2 : kd = 2
        · rw [if_pos z2]
          simp (disch := omega) only [n_lit, n_of, n_o1, nI_add, pk_mul, nI_ltI, nI_leI, nI_eq, ↓lift_lt, ↓k_mt, ↓k_mp, if_true, if_false, Bool.false_eq_true, Nat.not_lt_zero, Nat.zero_le, Nat.reduceEqDiff, Nat.reduceLeDiff, Nat.reduceLT, z13, z6, h15, i0, eq_true z2]
        · rw [if_neg z2]
          by_cases z4 : kd = 4
          · rw [if_pos z4]
            simp (disch := omega) only [n_lit, n_of, n_o1, nI_add, pk_mul, nI_ltI, nI_leI, nI_eq, ↓lift_lt, ↓k_mt, ↓k_mp, if_true, if_false, Bool.false_eq_true, Nat.not_lt_zero, Nat.zero_le, Nat.reduceEqDiff, Nat.reduceLeDiff, Nat.reduceLT, z13, z6, h15, i0, z2, eq_true z4]
          · rw [if_neg z4]
            by_cases z1 : kd = 1
            · rw [if_pos z1]
              simp (disch := omega) only [n_lit, n_of, n_o1, nI_add, pk_mul, nI_ltI, nI_leI, nI_eq, ↓lift_lt, ↓k_mt, ↓k_mp, if_true, if_false, Bool.false_eq_true, Nat.not_lt_zero, Nat.zero_le, Nat.reduceEqDiff, Nat.reduceLeDiff, Nat.reduceLT, z13, z6, h15, i0, z2, z4, eq_true z1]
            · rw [if_neg z1]
              by_cases z3 : kd = 3
              · rw [if_pos z3]
                simp (disch := omega) only [n_lit, n_of, n_o1, nI_add, pk_mul, nI_ltI, nI_leI, nI_eq, ↓lift_lt, ↓k_mt, ↓k_mp, if_true, if_false, Bool.false_eq_true, Nat.not_lt_zero, Nat.zero_le, Nat.reduceEqDiff, Nat.reduceLeDiff, Nat.reduceLT, z13, z6, h15, i0, z2, z4, z1, eq_true z3]
              · rw [if_neg z3]
                simp (disch := omega) only [n_lit, n_of, n_o1, nI_add, pk_mul, nI_ltI, nI_leI, nI_eq, ↓lift_lt, ↓k_mt, ↓k_mp, if_true, if_false, Bool.false_eq_true, Nat.not_lt_zero, Nat.zero_le, Nat.reduceEqDiff, Nat.reduceLeDiff, Nat.reduceLT, z13, z6, h15, i0, z2, z4, z1, z3]
      | false =>
        have h15 : m.1 15 = nI 1 := h15
        rw [if_neg (show ¬ (false = true) by decide)]
        by_cases z14 : kd = 14
        · rw [if_pos z14]
          simp (disch := omega) only [n_lit, n_of, n_o1, nI_add, pk_mul, nI_ltI, nI_leI, nI_eq, ↓lift_lt, ↓k_mt, ↓k_mp, if_true, if_false, Bool.false_eq_true, Nat.not_lt_zero, Nat.zero_le, Nat.reduceEqDiff, Nat.reduceLeDiff, Nat.reduceLT, z13, z6, h15, eq_true z14]
        · rw [if_neg z14]
          by_cases z15 : kd = 15
          · rw [if_pos z15]
            simp (disch := omega) only [n_lit, n_of, n_o1, nI_add, pk_mul, nI_ltI, nI_leI, nI_eq, ↓lift_lt, ↓k_mt, ↓k_mp, if_true, if_false, Bool.false_eq_true, Nat.not_lt_zero, Nat.zero_le, Nat.reduceEqDiff, Nat.reduceLeDiff, Nat.reduceLT, z13, z6, h15, z14, eq_true z15]
          · rw [if_neg z15]
            simp (disch := omega) only [n_lit, n_of, n_o1, nI_add, pk_mul, nI_ltI, nI_leI, nI_eq, ↓lift_lt, ↓k_mt, ↓k_mp, if_true, if_false, Bool.false_eq_true, Nat.not_lt_zero, Nat.zero_le, Nat.reduceEqDiff, Nat.reduceLeDiff, Nat.reduceLT, z13, z6, h15, z14, z15]
theorem c_word {m : Mu} {c : Ch} {a b kd nm : Nat} (H : TXx t N m h c) (K : TKx t N m c a b kd nm) (h3 : c.1 82 3 = nI (if g = true then 1 else 0)) : gX4_word h c = some (match wdx g kd with | some w => cco (1000 + w) | none => -nI 19) := by
  have at1 := fun (x : Nat) (hx : x < 35) (hx4 : 4 ≤ x) => tk_isAt H K hx hx4
  have s28 : gX6_isAt h c 28 = some (nI (if kd = 13 then 1 else 0)) := at1 28 (by decide) (by decide)
  have s11 : gX6_isAt h c 11 = some (nI (if kd = 6 then 1 else 0)) := at1 11 (by decide) (by decide)
  have s7 : gX6_isAt h c 7 = some (nI (if kd = 2 then 1 else 0)) := at1 7 (by decide) (by decide)
  have s9 : gX6_isAt h c 9 = some (nI (if kd = 4 then 1 else 0)) := at1 9 (by decide) (by decide)
  have s5 : gX6_isAt h c 5 = some (nI (if kd = 1 then 1 else 0)) := at1 5 (by decide) (by decide)
  have s8 : gX6_isAt h c 8 = some (nI (if kd = 3 then 1 else 0)) := at1 8 (by decide) (by decide)
  have s29 : gX6_isAt h c 29 = some (nI (if kd = 14 then 1 else 0)) := at1 29 (by decide) (by decide)
  have s30 : gX6_isAt h c 30 = some (nI (if kd = 15 then 1 else 0)) := at1 30 (by decide) (by decide)
  have i1 : ¬ (1 = 0) := by decide
  unfold gX4_word gX4_word_47 gX4_wordOfGrows gX4_wordOfGrows_64 gX4_wordOfFalls gX4_wordOfFalls_34 wdx
  by_cases z13 : kd = 13
  · rw [if_pos z13] at s28 ⊢
    simp (disch := omega) only [n_lit, n_of, n_o1, nI_add, pk_mul, nI_ltI, nI_leI, nI_eq, ↓lift_lt, ↓k_mt, ↓k_mp, if_true, if_false, Bool.false_eq_true, Nat.not_lt_zero, Nat.zero_le, Nat.reduceEqDiff, Nat.reduceLeDiff, Nat.reduceLT, s28, i1]
    rfl
  · rw [if_neg z13] at s28 ⊢
    by_cases z6 : kd = 6
    · rw [if_pos z6] at s11 ⊢
      simp (disch := omega) only [n_lit, n_of, n_o1, nI_add, pk_mul, nI_ltI, nI_leI, nI_eq, ↓lift_lt, ↓k_mt, ↓k_mp, if_true, if_false, Bool.false_eq_true, Nat.not_lt_zero, Nat.zero_le, Nat.reduceEqDiff, Nat.reduceLeDiff, Nat.reduceLT, s28, s11, i1]
      rfl
    · rw [if_neg z6] at s11 ⊢
      cases g with
      | true =>
        have h3 : c.1 82 3 = nI 1 := h3
        rw [if_pos rfl]
        by_cases z2 : kd = 2
        · rw [if_pos z2] at s7 ⊢
          simp (disch := omega) only [n_lit, n_of, n_o1, nI_add, pk_mul, nI_ltI, nI_leI, nI_eq, ↓lift_lt, ↓k_mt, ↓k_mp, if_true, if_false, Bool.false_eq_true, Nat.not_lt_zero, Nat.zero_le, Nat.reduceEqDiff, Nat.reduceLeDiff, Nat.reduceLT, s28, s11, h3, i1, s7]
          rfl
        · rw [if_neg z2] at s7 ⊢
          by_cases z4 : kd = 4
          · rw [if_pos z4] at s9 ⊢
            simp (disch := omega) only [n_lit, n_of, n_o1, nI_add, pk_mul, nI_ltI, nI_leI, nI_eq, ↓lift_lt, ↓k_mt, ↓k_mp, if_true, if_false, Bool.false_eq_true, Nat.not_lt_zero, Nat.zero_le, Nat.reduceEqDiff, Nat.reduceLeDiff, Nat.reduceLT, s28, s11, h3, i1, s7, s9]
            rfl
          · rw [if_neg z4] at s9 ⊢
            by_cases z1 : kd = 1
            · rw [if_pos z1] at s5 ⊢
              simp (disch := omega) only [n_lit, n_of, n_o1, nI_add, pk_mul, nI_ltI, nI_leI, nI_eq, ↓lift_lt, ↓k_mt, ↓k_mp, if_true, if_false, Bool.false_eq_true, Nat.not_lt_zero, Nat.zero_le, Nat.reduceEqDiff, Nat.reduceLeDiff, Nat.reduceLT, s28, s11, h3, i1, s7, s9, s5]
              rfl
            · rw [if_neg z1] at s5 ⊢
              by_cases z3 : kd = 3
              · rw [if_pos z3] at s8 ⊢
                simp (disch := omega) only [n_lit, n_of, n_o1, nI_add, pk_mul, nI_ltI, nI_leI, nI_eq, ↓lift_lt, ↓k_mt, ↓k_mp, if_true, if_false, Bool.false_eq_true, Nat.not_lt_zero, Nat.zero_le, Nat.reduceEqDiff, Nat.reduceLeDiff, Nat.reduceLT, s28, s11, h3, i1, s7, s9, s5, s8]
                rfl
              · rw [if_neg z3] at s8 ⊢
                simp (disch := omega) only [n_lit, n_of, n_o1, nI_add, pk_mul, nI_ltI, nI_leI, nI_eq, ↓lift_lt, ↓k_mt, ↓k_mp, if_true, if_false, Bool.false_eq_true, Nat.not_lt_zero, Nat.zero_le, Nat.reduceEqDiff, Nat.reduceLeDiff, Nat.reduceLT, s28, s11, h3, i1, s7, s9, s5, s8]
      | false =>
        have h3 : c.1 82 3 = nI 0 := h3
        rw [if_neg (show ¬ (false = true) by decide)]
        by_cases z14 : kd = 14
        · rw [if_pos z14] at s29 ⊢
          simp (disch := omega) only [n_lit, n_of, n_o1, nI_add, pk_mul, nI_ltI, nI_leI, nI_eq, ↓lift_lt, ↓k_mt, ↓k_mp, if_true, if_false, Bool.false_eq_true, Nat.not_lt_zero, Nat.zero_le, Nat.reduceEqDiff, Nat.reduceLeDiff, Nat.reduceLT, s28, s11, h3, i1, s29]
          rfl
        · rw [if_neg z14] at s29 ⊢
          by_cases z15 : kd = 15
          · rw [if_pos z15] at s30 ⊢
            simp (disch := omega) only [n_lit, n_of, n_o1, nI_add, pk_mul, nI_ltI, nI_leI, nI_eq, ↓lift_lt, ↓k_mt, ↓k_mp, if_true, if_false, Bool.false_eq_true, Nat.not_lt_zero, Nat.zero_le, Nat.reduceEqDiff, Nat.reduceLeDiff, Nat.reduceLT, s28, s11, h3, i1, s29, s30]
            rfl
          · rw [if_neg z15] at s30 ⊢
            simp (disch := omega) only [n_lit, n_of, n_o1, nI_add, pk_mul, nI_ltI, nI_leI, nI_eq, ↓lift_lt, ↓k_mt, ↓k_mp, if_true, if_false, Bool.false_eq_true, Nat.not_lt_zero, Nat.zero_le, Nat.reduceEqDiff, Nat.reduceLeDiff, Nat.reduceLT, s28, s11, h3, i1, s29, s30]
theorem wdx_tab : ∀ g : Bool, ∀ kd, kd < 16 → ∀ w, w < 8 → wdx g kd = some w → okw g w = true ∧ ¬ kd = 9 := by decide
theorem wdx_b {kd w : Nat} (h : wdx g kd = some w) : kd < 16 ∧ w < 8 := by
  unfold wdx at h
  (repeat' split at h) <;> (cases h) <;> omega
theorem wdx_ok {kd w : Nat} (h : wdx g kd = some w) : w < 8 ∧ okw g w = true ∧ kd < 16 ∧ ¬ kd = 9 := by
  obtain ⟨h1, h2⟩ := wdx_b h
  obtain ⟨h3, h4⟩ := wdx_tab g kd h1 w h2 h
  exact ⟨h2, h3, h1, h4⟩
theorem nt_atom (hd : d ≤ 6) (HI : NTi t N g fr m0 c0 h (8 * d + 5) (fun m => gr 1 m (nI d)) (fun c => gc 3 c (nI d))) (HS : d < 6 → NTx t N g fr m0 c0 h false (8 * (d + 1) + 3) (fun m => gr 3 m (nI (d + 1))) (fun c => gc 0 c (nI (d + 1)))) : NTx t N g fr m0 c0 h false (8 * d + 5) (fun m => gX12_readAtom gr m (nI d)) (fun c => gX4_atom gc h c (nI d)) := by
  have i1 : ¬ (1 = 0) := by decide
  intro m c cs a H hl
  obtain ⟨b, kd, nm, K⟩ := H.2.1
  have ab := PRx_a H
  have kb := TC_kd K.2.2.2.2.2.2.2
  have H3 := H.2.2.1
  have k9 := K.2.2.1
  have k6 := K.2.2.2.2.2.1
  have q23 : gX12_is m (nI 23) = some (nI (if kd = 23 then 1 else 0)) := q_is H3 k9 kb.1 (by decide)
  have q35 : gX12_is m (nI 35) = some (nI (if kd = 35 then 1 else 0)) := q_is H3 k9 kb.1 (by decide)
  have q9 : gX12_is m (nI 9) = some (nI (if kd = 9 then 1 else 0)) := q_is H3 k9 kb.1 (by decide)
  have s14 : gX6_isAt h c 14 = some (nI (if kd = 35 then 1 else 0)) := tk_isAt H.1 K (x := 14) (by decide) (by decide)
  have s16 : gX6_isAt h c 16 = some (nI (if kd = 9 then 1 else 0)) := tk_isAt H.1 K (x := 16) (by decide) (by decide)
  have ckb := ckd_b kd
  -- one code and on
  have one : ∀ code : Nat, (∀ st : List Bool, st.length ≤ 8 * d + 5 → tys g [code] st = some (false :: st)) → ¬ kd = 24 → ∃ m1 c1 m2 c2 a2, gX12_codes m (nI code) = some m1 ∧ gX12_next m1 = some m2 ∧ gX4_put h c (cco code) = some c1 ∧ gX6_advance h c1 = some c2 ∧ PRx t N g fr m0 c0 h m2 c2 (cs ++ [code]) a2 ∧ a < a2 := by
    intro code hty n24
    have an : a < N := by
      have k8 := K.2.2.2.2.2.2.2
      rcases k8.2 with ⟨q, -⟩ | ⟨q, -⟩
      · exact absurd q n24
      · have := k8.1
        omega
    obtain ⟨m1, c1, r1, x1, P1, f1, f2⟩ := p_code (n := code) H (by omega)
    have K1 : TKx t N m1 c1 a b kd nm := by
      obtain ⟨k1, k2, k3, k4, k5, k6, k7, k8⟩ := K
      have e83 := f2 83 (by decide)
      exact ⟨by rw [f1]; exact k1, by rw [f1]; exact k2, by rw [f1]; exact k3, by rw [e83]; exact k4, by rw [e83]; exact k5, by rw [e83]; exact k6, fun q => by rw [f1, e83]; exact k7 q, k8⟩
    obtain ⟨m2, c2, a2, r2, x2, P2, l2, -⟩ := p_next P1 K1 n24
    exact ⟨m1, c1, m2, c2, a2, r1, r2, x1, x2, P2, l2⟩
  have push : ∀ st : List Bool, st.length ≤ 8 * d + 5 → psh false st = some (false :: st) := fun st hs => by
    unfold psh
    rw [if_pos (by omega)]
  by_cases z23 : kd = 23
  · -- a number
    obtain ⟨n1, n2, n3⟩ := K.2.2.2.2.2.2.1 z23
    obtain ⟨m1, c1, m2, c2, a2, r1, r2, x1, x2, P2, l2⟩ := one nm (fun st hs => by
      show (ty1 g nm st).bind (tys g []) = _
      unfold ty1
      rw [if_pos n3, push st hs]
      rfl) (by omega)
    have cc : cco nm = nI nm := if_pos n3
    rw [cc] at x1
    rw [if_pos z23] at q23
    rw [if_neg (by omega)] at s14 s16
    have ck2 : ckd kd = 2 := by rw [z23]; rfl
    have n19 : ¬ nI nm = -nI 19 := fun e => by
      have : (nI nm).toInt = (-nI 19).toInt := by rw [e]
      rw [nI_toInt (by omega)] at this
      have e19 : (-nI 19).toInt = -19 := by decide
      omega
    refine ⟨m2, ?_, Or.inl ⟨c2, [nm], a2, ?_, P2, by show a + 1 ≤ a2; omega, l2, fun st hs => ?_⟩⟩
    · show gX12_readAtom gr m (nI d) = _
      unfold gX12_readAtom gX12_readAtom_130
      simp (disch := omega) only [n_lit, n_of, n_o1, nI_add, pk_mul, nI_ltI, nI_leI, nI_eq, ↓lift_lt, ↓k_mt, ↓k_mp, if_true, if_false, Bool.false_eq_true, Nat.not_lt_zero, Nat.zero_le, Nat.reduceEqDiff, Nat.reduceLeDiff, Nat.reduceLT, q23, i1, n1, r1, r2]
    · show gX4_atom gc h c (nI d) = _
      unfold gX4_atom gX4_atom_88
      simp (disch := omega) only [n_lit, n_of, n_o1, nI_add, pk_mul, nI_ltI, nI_leI, nI_eq, ↓lift_lt, ↓k_mt, ↓k_mp, if_true, if_false, Bool.false_eq_true, Nat.not_lt_zero, Nat.zero_le, Nat.reduceEqDiff, Nat.reduceLeDiff, Nat.reduceLT, s14, s16, k6, ck2, n2, n19, x1, x2]
    · show (ty1 g nm st).bind (tys g []) = _
      unfold ty1
      rw [if_pos n3, push st hs]
      rfl
  · rw [if_neg z23] at q23
    have qw := q_word (g := g) kb.1 H.2.2.2.1
    have cw := c_word (g := g) H.1 K H.2.2.2.2.1
    have ck2 := ckd_2 z23
    cases hw : wdx g kd with
    | some w =>
      obtain ⟨w8, wo, w16, w9⟩ := wdx_ok hw
      rw [hw] at qw cw
      have qw : gX12_wordOf m (nI kd) = some (nI w) := qw
      have cw : gX4_word h c = some (cco (1000 + w)) := cw
      have tyw : ∀ st : List Bool, st.length ≤ 8 * d + 5 → tys g [1000 + w] st = some (false :: st) := fun st hs => by
        show (ty1 g (1000 + w) st).bind (tys g []) = _
        unfold ty1
        rw [if_neg (by omega), if_pos (by omega), show 1000 + w - 1000 = w by omega, if_pos wo, push st hs]
        rfl
      obtain ⟨m1, c1, m2, c2, a2, r1, r2, x1, x2, P2, l2⟩ := one (1000 + w) tyw (by omega)
      rw [if_neg (by omega)] at s14
      rw [if_neg w9] at s16
      have nw := nI_ne1 (n := w) (by omega)
      have n19 : ¬ cco (1000 + w) = -nI 19 := by
        have all : ∀ w, w < 8 → ¬ cco (1000 + w) = -nI 19 := by decide
        exact all w w8
      refine ⟨m2, ?_, Or.inl ⟨c2, [1000 + w], a2, ?_, P2, by show a + 1 ≤ a2; omega, l2, tyw⟩⟩
      · show gX12_readAtom gr m (nI d) = _
        unfold gX12_readAtom gX12_readAtom_130
        simp (disch := omega) only [n_lit, n_of, n_o1, nI_add, pk_mul, nI_ltI, nI_leI, nI_eq, ↓lift_lt, ↓k_mt, ↓k_mp, if_true, if_false, Bool.false_eq_true, Nat.not_lt_zero, Nat.zero_le, Nat.reduceEqDiff, Nat.reduceLeDiff, Nat.reduceLT, q23, H3, k9, qw, nw, r1, r2]
      · show gX4_atom gc h c (nI d) = _
        unfold gX4_atom gX4_atom_88
        simp (disch := omega) only [n_lit, n_of, n_o1, nI_add, pk_mul, nI_ltI, nI_leI, nI_eq, ↓lift_lt, ↓k_mt, ↓k_mp, if_true, if_false, Bool.false_eq_true, Nat.not_lt_zero, Nat.zero_le, Nat.reduceEqDiff, Nat.reduceLeDiff, Nat.reduceLT, s14, s16, k6, ck2, cw, n19, x1, x2]
    | none =>
      rw [hw] at qw cw
      have qw : gX12_wordOf m (nI kd) = some (-nI 1) := qw
      have cw : gX4_word h c = some (-nI 19) := cw
      have e66 : gX12_readAtom gr m (nI d) = gX12_readAtom_66 gr m (nI d) := by
        unfold gX12_readAtom
        simp (disch := omega) only [n_lit, n_of, n_o1, nI_add, pk_mul, nI_ltI, nI_leI, nI_eq, ↓lift_lt, ↓k_mt, ↓k_mp, if_true, if_false, Bool.false_eq_true, Nat.not_lt_zero, Nat.zero_le, Nat.reduceEqDiff, Nat.reduceLeDiff, Nat.reduceLT, q23, H3, k9, qw]
      by_cases z35 : kd = 35
      · rw [if_pos z35] at q35 s14
        rcases p_into hd H K (by omega) with ⟨m1, c1, a1, e1, e2, P1, l1, d6⟩ | ⟨m1, c1, e1, e2, F1⟩
        · obtain ⟨m2, r2, ⟨c2, d2, a2, x2, P2, l2, l2', T2⟩ | ⟨c2, x2, F2⟩⟩ := HS d6 m1 c1 cs a1 P1 (by omega)
          · have r2 : gr 3 m1 (nI (d + 1)) = some m2 := r2
            have x2 : gc 0 c1 (nI (d + 1)) = some (nI 1, c2) := x2
            obtain ⟨b2, kd2, nm2, K2⟩ := P2.2.1
            rcases p_eat (x := 15) (by decide) (by decide) P2 K2 with ⟨m3, c3, a3, r3, x3, P3, l3, -⟩ | ⟨m3, c3, r3, r3', x3, F3, -⟩
            · have r3 : gX12_eats m2 (nI 36) = some (nI 1, m3) := r3
              refine ⟨m3, ?_, Or.inl ⟨c3, d2, a3, ?_, P3, by omega, by omega, TYx_le (by omega) T2⟩⟩
              · show gX12_readAtom gr m (nI d) = _
                rw [e66]
                unfold gX12_readAtom_66 gX12_readAtom_130
                simp (disch := omega) only [n_lit, n_of, n_o1, nI_add, pk_mul, nI_ltI, nI_leI, nI_eq, ↓lift_lt, ↓k_mt, ↓k_mp, if_true, if_false, Bool.false_eq_true, Nat.not_lt_zero, Nat.zero_le, Nat.reduceEqDiff, Nat.reduceLeDiff, Nat.reduceLT, q35, i1, e1, r2, r3]
              · show gX4_atom gc h c (nI d) = _
                unfold gX4_atom gX4_atom_44
                simp (disch := omega) only [n_lit, n_of, n_o1, nI_add, pk_mul, nI_ltI, nI_leI, nI_eq, ↓lift_lt, ↓k_mt, ↓k_mp, if_true, if_false, Bool.false_eq_true, Nat.not_lt_zero, Nat.zero_le, Nat.reduceEqDiff, Nat.reduceLeDiff, Nat.reduceLT, s14, i1, e2, x2, x3, n_bl1]
            · have r3 : gX12_eats m2 (nI 36) = some (nI 0, m2) := r3
              refine ⟨m3, ?_, Or.inr ⟨c3, ?_, F3⟩⟩
              · show gX12_readAtom gr m (nI d) = _
                rw [e66]
                unfold gX12_readAtom_66 gX12_readAtom_130
                simp (disch := omega) only [n_lit, n_of, n_o1, nI_add, pk_mul, nI_ltI, nI_leI, nI_eq, ↓lift_lt, ↓k_mt, ↓k_mp, if_true, if_false, Bool.false_eq_true, Nat.not_lt_zero, Nat.zero_le, Nat.reduceEqDiff, Nat.reduceLeDiff, Nat.reduceLT, q35, i1, e1, r2, r3, r3']
              · show gX4_atom gc h c (nI d) = _
                unfold gX4_atom gX4_atom_43 gX4_atom_44
                simp (disch := omega) only [n_lit, n_of, n_o1, nI_add, pk_mul, nI_ltI, nI_leI, nI_eq, ↓lift_lt, ↓k_mt, ↓k_mp, if_true, if_false, Bool.false_eq_true, Nat.not_lt_zero, Nat.zero_le, Nat.reduceEqDiff, Nat.reduceLeDiff, Nat.reduceLT, s14, i1, e2, x2, x3, n_bl0]
          · have r2 : gr 3 m1 (nI (d + 1)) = some m2 := r2
            have x2 : gc 0 c1 (nI (d + 1)) = some (nI 0, c2) := x2
            have pw := PFx_w F2
            refine ⟨m2, ?_, Or.inr ⟨c2, ?_, F2⟩⟩
            · show gX12_readAtom gr m (nI d) = _
              rw [e66]
              unfold gX12_readAtom_66 gX12_readAtom_130
              simp (disch := omega) only [n_lit, n_of, n_o1, nI_add, pk_mul, nI_ltI, nI_leI, nI_eq, ↓lift_lt, ↓k_mt, ↓k_mp, if_true, if_false, Bool.false_eq_true, Nat.not_lt_zero, Nat.zero_le, Nat.reduceEqDiff, Nat.reduceLeDiff, Nat.reduceLT, q35, i1, e1, r2, q_eats_w pw, q_fails_w pw]
            · show gX4_atom gc h c (nI d) = _
              unfold gX4_atom gX4_atom_43 gX4_atom_44
              simp (disch := omega) only [n_lit, n_of, n_o1, nI_add, pk_mul, nI_ltI, nI_leI, nI_eq, ↓lift_lt, ↓k_mt, ↓k_mp, if_true, if_false, Bool.false_eq_true, Nat.not_lt_zero, Nat.zero_le, Nat.reduceEqDiff, Nat.reduceLeDiff, Nat.reduceLT, s14, i1, e2, x2, n_bl0]
        · refine ⟨m1, ?_, Or.inr ⟨c1, ?_, F1⟩⟩
          · show gX12_readAtom gr m (nI d) = _
            rw [e66]
            unfold gX12_readAtom_66
            simp (disch := omega) only [n_lit, n_of, n_o1, nI_add, pk_mul, nI_ltI, nI_leI, nI_eq, ↓lift_lt, ↓k_mt, ↓k_mp, if_true, if_false, Bool.false_eq_true, Nat.not_lt_zero, Nat.zero_le, Nat.reduceEqDiff, Nat.reduceLeDiff, Nat.reduceLT, q35, i1, e1]
          · show gX4_atom gc h c (nI d) = _
            unfold gX4_atom gX4_atom_43 gX4_atom_44
            simp (disch := omega) only [n_lit, n_of, n_o1, nI_add, pk_mul, nI_ltI, nI_leI, nI_eq, ↓lift_lt, ↓k_mt, ↓k_mp, if_true, if_false, Bool.false_eq_true, Nat.not_lt_zero, Nat.zero_le, Nat.reduceEqDiff, Nat.reduceLeDiff, Nat.reduceLT, s14, i1, e2, n_bl0]
      · rw [if_neg z35] at q35 s14
        by_cases z9 : kd = 9
        · rw [if_pos z9] at q9 s16
          rw [z9] at K
          obtain ⟨m1, e1, ⟨c1, d1, a1, x1, P1, l1, l1', T1⟩ | ⟨c1, x1, F1⟩⟩ := HI m c cs a b nm H K hl
          · have e1 : gr 1 m (nI d) = some m1 := e1
            have x1 : gc 3 c (nI d) = some (nI 1, c1) := x1
            refine ⟨m1, ?_, Or.inl ⟨c1, d1, a1, ?_, P1, l1, l1', T1⟩⟩
            · show gX12_readAtom gr m (nI d) = _
              rw [e66]
              unfold gX12_readAtom_66 gX12_readAtom_130
              simp (disch := omega) only [n_lit, n_of, n_o1, nI_add, pk_mul, nI_ltI, nI_leI, nI_eq, ↓lift_lt, ↓k_mt, ↓k_mp, if_true, if_false, Bool.false_eq_true, Nat.not_lt_zero, Nat.zero_le, Nat.reduceEqDiff, Nat.reduceLeDiff, Nat.reduceLT, q35, q9, i1, e1]
            · show gX4_atom gc h c (nI d) = _
              unfold gX4_atom
              simp (disch := omega) only [n_lit, n_of, n_o1, nI_add, pk_mul, nI_ltI, nI_leI, nI_eq, ↓lift_lt, ↓k_mt, ↓k_mp, if_true, if_false, Bool.false_eq_true, Nat.not_lt_zero, Nat.zero_le, Nat.reduceEqDiff, Nat.reduceLeDiff, Nat.reduceLT, s14, s16, i1, x1, n_bl1]
          · have e1 : gr 1 m (nI d) = some m1 := e1
            have x1 : gc 3 c (nI d) = some (nI 0, c1) := x1
            refine ⟨m1, ?_, Or.inr ⟨c1, ?_, F1⟩⟩
            · show gX12_readAtom gr m (nI d) = _
              rw [e66]
              unfold gX12_readAtom_66 gX12_readAtom_130
              simp (disch := omega) only [n_lit, n_of, n_o1, nI_add, pk_mul, nI_ltI, nI_leI, nI_eq, ↓lift_lt, ↓k_mt, ↓k_mp, if_true, if_false, Bool.false_eq_true, Nat.not_lt_zero, Nat.zero_le, Nat.reduceEqDiff, Nat.reduceLeDiff, Nat.reduceLT, q35, q9, i1, e1]
            · show gX4_atom gc h c (nI d) = _
              unfold gX4_atom
              simp (disch := omega) only [n_lit, n_of, n_o1, nI_add, pk_mul, nI_ltI, nI_leI, nI_eq, ↓lift_lt, ↓k_mt, ↓k_mp, if_true, if_false, Bool.false_eq_true, Nat.not_lt_zero, Nat.zero_le, Nat.reduceEqDiff, Nat.reduceLeDiff, Nat.reduceLT, s14, s16, i1, x1, n_bl0]
        · rw [if_neg z9] at q9 s16
          obtain ⟨m1, c1, e1, e2, F1⟩ := p_fault (f := 2) (by decide) (by decide) H K
          refine ⟨m1, ?_, Or.inr ⟨c1, ?_, F1⟩⟩
          · show gX12_readAtom gr m (nI d) = _
            rw [e66]
            unfold gX12_readAtom_66 gX12_readAtom_130
            simp (disch := omega) only [n_lit, n_of, n_o1, nI_add, pk_mul, nI_ltI, nI_leI, nI_eq, ↓lift_lt, ↓k_mt, ↓k_mp, if_true, if_false, Bool.false_eq_true, Nat.not_lt_zero, Nat.zero_le, Nat.reduceEqDiff, Nat.reduceLeDiff, Nat.reduceLT, q35, q9, e1]
          · show gX4_atom gc h c (nI d) = _
            unfold gX4_atom gX4_atom_88
            simp (disch := omega) only [n_lit, n_of, n_o1, nI_add, pk_mul, nI_ltI, nI_leI, nI_eq, ↓lift_lt, ↓k_mt, ↓k_mp, if_true, if_false, Bool.false_eq_true, Nat.not_lt_zero, Nat.zero_le, Nat.reduceEqDiff, Nat.reduceLeDiff, Nat.reduceLT, s14, s16, k6, ck2, cw, e2, n_bl0]
end NTU
