/-! comparisons, and all of them one within another -/
section NTV
variable {t : Nat → Nat} {N : Nat} {g : Bool} {fr : Nat} {m0 : Mu} {c0 : Ch} {h : Hp}
variable {gr : Nat → Mu → Int32 → Option Mu} {gc : Nat → Ch → Int32 → Option (Int32 × Ch)} {d : Nat}
noncomputable def rUc (gr : Nat → Mu → Int32 → Option Mu) (m : Mu) (x1 : Int32) : Option Mu :=
  (gX12_is m (39 : Int32)).bind fun y4 =>
  if y4 = 0 then (
    (gX12_is m (40 : Int32)).bind fun y5 =>
    if y5 = 0 then (
      gX12_readUnit_111 gr m x1 (3005 : Int32)) else (
      gX12_readUnit_111 gr m x1 (3004 : Int32))) else (
    gX12_readUnit_111 gr m x1 (3003 : Int32))
def NTc (t : Nat → Nat) (N : Nat) (g : Bool) (fr : Nat) (m0 : Mu) (c0 : Ch) (h : Hp) (B : Nat) (R : Mu → Option Mu) (C : Ch → Option (Int32 × Ch)) : Prop :=
  ∀ m c cs a, PRx t N g fr m0 c0 h m c cs a → fr + cs.length ≤ a → ∃ m', R m = some m' ∧
    ((∃ c' ds a', C c = some (nI 1, c') ∧ PRx t N g fr m0 c0 h m' c' (cs ++ ds) a' ∧ a + ds.length ≤ a' ∧ a < a' ∧ ∀ st : List Bool, st.length ≤ B → tys g ds (false :: st) = some (true :: st)) ∨ (∃ c', C c = some (nI 0, c') ∧ PFx fr m0 c0 m' c'))
theorem no_151 {s : Int32} (hn : NOx (fun m => gr 3 m (nI d))) : NOx (fun m => gX12_readUnit_151 gr m (nI d) s) := fun m hm => by
  have h3 : gr 3 m (nI d) = some m := hn m hm
  show gX12_readUnit_151 gr m (nI d) s = some m
  unfold gX12_readUnit_151
  simp (disch := omega) only [n_lit, n_of, n_o1, nI_add, pk_mul, nI_ltI, nI_leI, nI_eq, ↓lift_lt, ↓k_mt, ↓k_mp, if_true, if_false, Bool.false_eq_true, Nat.not_lt_zero, Nat.zero_le, Nat.reduceEqDiff, Nat.reduceLeDiff, Nat.reduceLT, h3, q_codes_w hm]
theorem no_rUc (hn : NOx (fun m => gr 3 m (nI d))) : NOx (fun m => rUc gr m (nI d)) := fun m hm => by
  have h1 : ∀ s, gX12_readUnit_151 gr m (nI d) s = some m := fun s => no_151 hn m hm
  show rUc gr m (nI d) = some m
  unfold rUc gX12_readUnit_111
  simp (disch := omega) only [n_lit, n_of, n_o1, nI_add, pk_mul, nI_ltI, nI_leI, nI_eq, ↓lift_lt, ↓k_mt, ↓k_mp, if_true, if_false, Bool.false_eq_true, Nat.not_lt_zero, Nat.zero_le, Nat.reduceEqDiff, Nat.reduceLeDiff, Nat.reduceLT, q_is_w hm, q_fails_w hm, h1]
theorem nt_cmp {B : Nat} (HS : NTx t N g fr m0 c0 h false (B + 1) (fun m => gr 3 m (nI d)) (fun c => gc 0 c (nI d))) (hn : NOx (fun m => gr 3 m (nI d))) : NTc t N g fr m0 c0 h B (fun m => rUc gr m (nI d)) (fun c => gX4_comparison gc h c (nI d)) := by
  have i1 : ¬ (1 = 0) := by decide
  intro m c cs a H hl
  obtain ⟨b, kd, nm, K⟩ := H.2.1
  have kb := TC_kd K.2.2.2.2.2.2.2
  have q39 : gX12_is m (nI 39) = some (nI (if kd = 39 then 1 else 0)) := q_is H.2.2.1 K.2.2.1 kb.1 (by decide)
  have q40 : gX12_is m (nI 40) = some (nI (if kd = 40 then 1 else 0)) := q_is H.2.2.1 K.2.2.1 kb.1 (by decide)
  have q41 : gX12_is m (nI 41) = some (nI (if kd = 41 then 1 else 0)) := q_is H.2.2.1 K.2.2.1 kb.1 (by decide)
  have s20 : gX6_isAt h c 20 = some (nI (if kd = 40 then 1 else 0)) := tk_isAt H.1 K (x := 20) (by decide) (by decide)
  have s21 : gX6_isAt h c 21 = some (nI (if kd = 41 then 1 else 0)) := tk_isAt H.1 K (x := 21) (by decide) (by decide)
  have s22 : gX6_isAt h c 22 = some (nI (if kd = 39 then 1 else 0)) := tk_isAt H.1 K (x := 22) (by decide) (by decide)
  have go : ∀ code cc : Nat, (code = 3003 ∨ code = 3004 ∨ code = 3005) → cco code = -nI cc → ¬ kd = 24 → rUc gr m (nI d) = gX12_readUnit_139 gr m (nI d) (nI code) → gX4_comparison gc h c (nI d) = gX4_comparison_57 gc h c (nI d) (-nI cc) →
      ∃ m', rUc gr m (nI d) = some m' ∧ ((∃ c' ds a', gX4_comparison gc h c (nI d) = some (nI 1, c') ∧ PRx t N g fr m0 c0 h m' c' (cs ++ ds) a' ∧ a + ds.length ≤ a' ∧ a < a' ∧ ∀ st : List Bool, st.length ≤ B → tys g ds (false :: st) = some (true :: st)) ∨ (∃ c', gX4_comparison gc h c (nI d) = some (nI 0, c') ∧ PFx fr m0 c0 m' c')) := by
    intro code cc hcode hcc n24 hR hC
    rw [hR, hC]
    obtain ⟨m1, c1, a1, e1, e2, P1, l1, -⟩ := p_next H K n24
    obtain ⟨m2, r2, ⟨c2, d2, a2, x2, P2, l2, l2', T2⟩ | ⟨c2, x2, F2⟩⟩ := HS m1 c1 cs a1 P1 (by omega)
    · have r2 : gr 3 m1 (nI d) = some m2 := r2
      have x2 : gc 0 c1 (nI d) = some (nI 1, c2) := x2
      have ab := PRx_a P2
      obtain ⟨m3, c3, r3, x3, P3, -⟩ := p_code (n := code) P2 (by rw [List.length_append]; omega)
      rw [hcc] at x3
      refine ⟨m3, ?_, Or.inl ⟨c3, d2 ++ [code], a2, ?_, by rw [← List.append_assoc]; exact P3, by rw [List.length_append]; show a + (d2.length + 1) ≤ a2; omega, by omega, fun st hs => ?_⟩⟩
      · unfold gX12_readUnit_139 gX12_readUnit_151
        simp (disch := omega) only [n_lit, n_of, n_o1, nI_add, pk_mul, nI_ltI, nI_leI, nI_eq, ↓lift_lt, ↓k_mt, ↓k_mp, if_true, if_false, Bool.false_eq_true, Nat.not_lt_zero, Nat.zero_le, Nat.reduceEqDiff, Nat.reduceLeDiff, Nat.reduceLT, e1, r2, r3]
      · unfold gX4_comparison_57
        simp (disch := omega) only [n_lit, n_of, n_o1, nI_add, pk_mul, nI_ltI, nI_leI, nI_eq, ↓lift_lt, ↓k_mt, ↓k_mp, if_true, if_false, Bool.false_eq_true, Nat.not_lt_zero, Nat.zero_le, Nat.reduceEqDiff, Nat.reduceLeDiff, Nat.reduceLT, e2, x2, x3, n_bl1]
      · rw [tys_app, T2 (false :: st) (by show st.length + 1 ≤ B + 1; omega)]
        show (ty1 g code (false :: false :: st)).bind (tys g []) = _
        rw [ty_cm hcode]
        rfl
    · have r2 : gr 3 m1 (nI d) = some m2 := r2
      have x2 : gc 0 c1 (nI d) = some (nI 0, c2) := x2
      have pw := PFx_w F2
      obtain ⟨c3, x3, F3⟩ := p_put_w (h := h) (y := -nI cc) F2
      refine ⟨m2, ?_, Or.inr ⟨c3, ?_, F3⟩⟩
      · unfold gX12_readUnit_139 gX12_readUnit_151
        simp (disch := omega) only [n_lit, n_of, n_o1, nI_add, pk_mul, nI_ltI, nI_leI, nI_eq, ↓lift_lt, ↓k_mt, ↓k_mp, if_true, if_false, Bool.false_eq_true, Nat.not_lt_zero, Nat.zero_le, Nat.reduceEqDiff, Nat.reduceLeDiff, Nat.reduceLT, e1, r2, q_codes_w pw]
      · unfold gX4_comparison_57
        simp (disch := omega) only [n_lit, n_of, n_o1, nI_add, pk_mul, nI_ltI, nI_leI, nI_eq, ↓lift_lt, ↓k_mt, ↓k_mp, if_true, if_false, Bool.false_eq_true, Nat.not_lt_zero, Nat.zero_le, Nat.reduceEqDiff, Nat.reduceLeDiff, Nat.reduceLT, e2, x2, x3, n_bl0]
  by_cases z39 : kd = 39
  · rw [if_pos z39] at q39 s22
    rw [if_neg (by omega)] at q40 q41 s20 s21
    refine go 3003 14 (Or.inl rfl) cco_t.2.2.2.1 (by omega) ?_ ?_
    · unfold rUc gX12_readUnit_111
      simp (disch := omega) only [n_lit, n_of, n_o1, nI_add, pk_mul, nI_ltI, nI_leI, nI_eq, ↓lift_lt, ↓k_mt, ↓k_mp, if_true, if_false, Bool.false_eq_true, Nat.not_lt_zero, Nat.zero_le, Nat.reduceEqDiff, Nat.reduceLeDiff, Nat.reduceLT, q39, i1]
    · unfold gX4_comparison
      simp (disch := omega) only [n_lit, n_of, n_o1, nI_add, pk_mul, nI_ltI, nI_leI, nI_eq, ↓lift_lt, ↓k_mt, ↓k_mp, if_true, if_false, Bool.false_eq_true, Nat.not_lt_zero, Nat.zero_le, Nat.reduceEqDiff, Nat.reduceLeDiff, Nat.reduceLT, s20, s21, s22, i1]
  · rw [if_neg z39] at q39 s22
    by_cases z40 : kd = 40
    · rw [if_pos z40] at q40 s20
      rw [if_neg (by omega)] at q41 s21
      refine go 3004 15 (Or.inr (Or.inl rfl)) cco_t.2.2.2.2.1 (by omega) ?_ ?_
      · unfold rUc gX12_readUnit_111
        simp (disch := omega) only [n_lit, n_of, n_o1, nI_add, pk_mul, nI_ltI, nI_leI, nI_eq, ↓lift_lt, ↓k_mt, ↓k_mp, if_true, if_false, Bool.false_eq_true, Nat.not_lt_zero, Nat.zero_le, Nat.reduceEqDiff, Nat.reduceLeDiff, Nat.reduceLT, q39, q40, i1]
      · unfold gX4_comparison
        simp (disch := omega) only [n_lit, n_of, n_o1, nI_add, pk_mul, nI_ltI, nI_leI, nI_eq, ↓lift_lt, ↓k_mt, ↓k_mp, if_true, if_false, Bool.false_eq_true, Nat.not_lt_zero, Nat.zero_le, Nat.reduceEqDiff, Nat.reduceLeDiff, Nat.reduceLT, s20, i1]
    · rw [if_neg z40] at q40 s20
      by_cases z41 : kd = 41
      · rw [if_pos z41] at q41 s21
        refine go 3005 16 (Or.inr (Or.inr rfl)) cco_t.2.2.2.2.2.1 (by omega) ?_ ?_
        · unfold rUc gX12_readUnit_111
          simp (disch := omega) only [n_lit, n_of, n_o1, nI_add, pk_mul, nI_ltI, nI_leI, nI_eq, ↓lift_lt, ↓k_mt, ↓k_mp, if_true, if_false, Bool.false_eq_true, Nat.not_lt_zero, Nat.zero_le, Nat.reduceEqDiff, Nat.reduceLeDiff, Nat.reduceLT, q39, q40, q41, i1]
        · unfold gX4_comparison
          simp (disch := omega) only [n_lit, n_of, n_o1, nI_add, pk_mul, nI_ltI, nI_leI, nI_eq, ↓lift_lt, ↓k_mt, ↓k_mp, if_true, if_false, Bool.false_eq_true, Nat.not_lt_zero, Nat.zero_le, Nat.reduceEqDiff, Nat.reduceLeDiff, Nat.reduceLT, s20, s21, i1]
      · rw [if_neg z41] at q41 s21
        obtain ⟨m1, c1, e1, e2, F1⟩ := p_fault (f := 2) (by decide) (by decide) H K
        have w : gX12_readUnit_151 gr m1 (nI d) (nI 3005) = some m1 := no_151 hn m1 (PFx_w F1)
        refine ⟨m1, ?_, Or.inr ⟨c1, ?_, F1⟩⟩
        · show rUc gr m (nI d) = _
          unfold rUc gX12_readUnit_111
          simp (disch := omega) only [n_lit, n_of, n_o1, nI_add, pk_mul, nI_ltI, nI_leI, nI_eq, ↓lift_lt, ↓k_mt, ↓k_mp, if_true, if_false, Bool.false_eq_true, Nat.not_lt_zero, Nat.zero_le, Nat.reduceEqDiff, Nat.reduceLeDiff, Nat.reduceLT, q39, q40, q41, e1, w]
        · show gX4_comparison gc h c (nI d) = _
          unfold gX4_comparison
          simp (disch := omega) only [n_lit, n_of, n_o1, nI_add, pk_mul, nI_ltI, nI_leI, nI_eq, ↓lift_lt, ↓k_mt, ↓k_mp, if_true, if_false, Bool.false_eq_true, Nat.not_lt_zero, Nat.zero_le, Nat.reduceEqDiff, Nat.reduceLeDiff, Nat.reduceLT, s20, s21, s22, e2, n_bl0]
theorem nt_unit (hd : d ≤ 6) (HS : NTx t N g fr m0 c0 h false (8 * d + 3) (fun m => gr 3 m (nI d)) (fun c => gc 0 c (nI d))) (HC : NTc t N g fr m0 c0 h (8 * d + 2) (fun m => rUc gr m (nI d)) (fun c => gc 7 c (nI d))) (hn : NOx (fun m => gr 3 m (nI d)))
    (HU : d < 6 → NTx t N g fr m0 c0 h true (8 * (d + 1) + 2) (fun m => gr 4 m (nI (d + 1))) (fun c => gc 6 c (nI (d + 1)))) (HT : d < 6 → NTx t N g fr m0 c0 h true (8 * (d + 1)) (fun m => gr 6 m (nI (d + 1))) (fun c => gc 4 c (nI (d + 1)))) :
    NTx t N g fr m0 c0 h true (8 * d + 2) (fun m => gX12_readUnit gr m (nI d)) (fun c => gX4_unit gc h c (nI d)) := by
  have i1 : ¬ (1 = 0) := by decide
  intro m c cs a H hl
  obtain ⟨b, kd, nm, K⟩ := H.2.1
  have kb := TC_kd K.2.2.2.2.2.2.2
  have q18 : gX12_is m (nI 18) = some (nI (if kd = 18 then 1 else 0)) := q_is H.2.2.1 K.2.2.1 kb.1 (by decide)
  have q37 : gX12_is m (nI 37) = some (nI (if kd = 37 then 1 else 0)) := q_is H.2.2.1 K.2.2.1 kb.1 (by decide)
  have s17 : gX6_isAt h c 17 = some (nI (if kd = 18 then 1 else 0)) := tk_isAt H.1 K (x := 17) (by decide) (by decide)
  have s18 : gX6_isAt h c 18 = some (nI (if kd = 37 then 1 else 0)) := tk_isAt H.1 K (x := 18) (by decide) (by decide)
  by_cases z18 : kd = 18
  · rw [if_pos z18] at q18 s17
    rcases p_into hd H K (by omega) with ⟨m1, c1, a1, e1, e2, P1, l1, d6⟩ | ⟨m1, c1, e1, e2, F1⟩
    · obtain ⟨m2, r2, ⟨c2, d2, a2, x2, P2, l2, l2', T2⟩ | ⟨c2, x2, F2⟩⟩ := HU d6 m1 c1 cs a1 P1 (by omega)
      · have r2 : gr 4 m1 (nI (d + 1)) = some m2 := r2
        have x2 : gc 6 c1 (nI (d + 1)) = some (nI 1, c2) := x2
        have ab := PRx_a P2
        obtain ⟨m3, c3, r3, x3, P3, -⟩ := p_code (n := 3006) P2 (by rw [List.length_append]; omega)
        rw [cco_t.2.2.2.2.2.2.1] at x3
        refine ⟨m3, ?_, Or.inl ⟨c3, d2 ++ [3006], a2, ?_, by rw [← List.append_assoc]; exact P3, by rw [List.length_append]; show a + (d2.length + 1) ≤ a2; omega, by omega, fun st hs => ?_⟩⟩
        · show gX12_readUnit gr m (nI d) = _
          unfold gX12_readUnit
          simp (disch := omega) only [n_lit, n_of, n_o1, nI_add, pk_mul, nI_ltI, nI_leI, nI_eq, ↓lift_lt, ↓k_mt, ↓k_mp, if_true, if_false, Bool.false_eq_true, Nat.not_lt_zero, Nat.zero_le, Nat.reduceEqDiff, Nat.reduceLeDiff, Nat.reduceLT, q18, i1, e1, r2, r3]
        · show gX4_unit gc h c (nI d) = _
          unfold gX4_unit gX4_unit_35
          simp (disch := omega) only [n_lit, n_of, n_o1, nI_add, pk_mul, nI_ltI, nI_leI, nI_eq, ↓lift_lt, ↓k_mt, ↓k_mp, if_true, if_false, Bool.false_eq_true, Nat.not_lt_zero, Nat.zero_le, Nat.reduceEqDiff, Nat.reduceLeDiff, Nat.reduceLT, s17, i1, e2, x2, x3, n_bl1]
        · rw [tys_app, T2 st (by omega)]
          show (ty1 g 3006 (true :: st)).bind (tys g []) = _
          rw [ty_no]
          rfl
      · have r2 : gr 4 m1 (nI (d + 1)) = some m2 := r2
        have x2 : gc 6 c1 (nI (d + 1)) = some (nI 0, c2) := x2
        have pw := PFx_w F2
        obtain ⟨c3, x3, F3⟩ := p_put_w (h := h) (y := -nI 19) F2
        refine ⟨m2, ?_, Or.inr ⟨c3, ?_, F3⟩⟩
        · show gX12_readUnit gr m (nI d) = _
          unfold gX12_readUnit
          simp (disch := omega) only [n_lit, n_of, n_o1, nI_add, pk_mul, nI_ltI, nI_leI, nI_eq, ↓lift_lt, ↓k_mt, ↓k_mp, if_true, if_false, Bool.false_eq_true, Nat.not_lt_zero, Nat.zero_le, Nat.reduceEqDiff, Nat.reduceLeDiff, Nat.reduceLT, q18, i1, e1, r2, q_codes_w pw]
        · show gX4_unit gc h c (nI d) = _
          unfold gX4_unit gX4_unit_34 gX4_unit_35
          simp (disch := omega) only [n_lit, n_of, n_o1, nI_add, pk_mul, nI_ltI, nI_leI, nI_eq, ↓lift_lt, ↓k_mt, ↓k_mp, if_true, if_false, Bool.false_eq_true, Nat.not_lt_zero, Nat.zero_le, Nat.reduceEqDiff, Nat.reduceLeDiff, Nat.reduceLT, s17, i1, e2, x2, x3, n_bl0]
    · obtain ⟨c3, x3, F3⟩ := p_put_w (h := h) (y := -nI 19) F1
      refine ⟨m1, ?_, Or.inr ⟨c3, ?_, F3⟩⟩
      · show gX12_readUnit gr m (nI d) = _
        unfold gX12_readUnit
        simp (disch := omega) only [n_lit, n_of, n_o1, nI_add, pk_mul, nI_ltI, nI_leI, nI_eq, ↓lift_lt, ↓k_mt, ↓k_mp, if_true, if_false, Bool.false_eq_true, Nat.not_lt_zero, Nat.zero_le, Nat.reduceEqDiff, Nat.reduceLeDiff, Nat.reduceLT, q18, i1, e1]
      · show gX4_unit gc h c (nI d) = _
        unfold gX4_unit gX4_unit_34 gX4_unit_35
        simp (disch := omega) only [n_lit, n_of, n_o1, nI_add, pk_mul, nI_ltI, nI_leI, nI_eq, ↓lift_lt, ↓k_mt, ↓k_mp, if_true, if_false, Bool.false_eq_true, Nat.not_lt_zero, Nat.zero_le, Nat.reduceEqDiff, Nat.reduceLeDiff, Nat.reduceLT, s17, i1, e2, x3, n_bl0]
  · rw [if_neg z18] at q18 s17
    by_cases z37 : kd = 37
    · rw [if_pos z37] at q37 s18
      rcases p_into hd H K (by omega) with ⟨m1, c1, a1, e1, e2, P1, l1, d6⟩ | ⟨m1, c1, e1, e2, F1⟩
      · obtain ⟨m2, r2, ⟨c2, d2, a2, x2, P2, l2, l2', T2⟩ | ⟨c2, x2, F2⟩⟩ := HT d6 m1 c1 cs a1 P1 (by omega)
        · have r2 : gr 6 m1 (nI (d + 1)) = some m2 := r2
          have x2 : gc 4 c1 (nI (d + 1)) = some (nI 1, c2) := x2
          obtain ⟨b2, kd2, nm2, K2⟩ := P2.2.1
          rcases p_eat (x := 19) (by decide) (by decide) P2 K2 with ⟨m3, c3, a3, r3, x3, P3, l3, -⟩ | ⟨m3, c3, r3, r3', x3, F3, -⟩
          · have r3 : gX12_eats m2 (nI 38) = some (nI 1, m3) := r3
            refine ⟨m3, ?_, Or.inl ⟨c3, d2, a3, ?_, P3, by omega, by omega, TYx_le (by omega) T2⟩⟩
            · show gX12_readUnit gr m (nI d) = _
              unfold gX12_readUnit gX12_readUnit_72
              simp (disch := omega) only [n_lit, n_of, n_o1, nI_add, pk_mul, nI_ltI, nI_leI, nI_eq, ↓lift_lt, ↓k_mt, ↓k_mp, if_true, if_false, Bool.false_eq_true, Nat.not_lt_zero, Nat.zero_le, Nat.reduceEqDiff, Nat.reduceLeDiff, Nat.reduceLT, q18, q37, i1, e1, r2, r3]
            · show gX4_unit gc h c (nI d) = _
              unfold gX4_unit gX4_unit_88
              simp (disch := omega) only [n_lit, n_of, n_o1, nI_add, pk_mul, nI_ltI, nI_leI, nI_eq, ↓lift_lt, ↓k_mt, ↓k_mp, if_true, if_false, Bool.false_eq_true, Nat.not_lt_zero, Nat.zero_le, Nat.reduceEqDiff, Nat.reduceLeDiff, Nat.reduceLT, s17, s18, i1, e2, x2, x3, n_bl1]
          · have r3 : gX12_eats m2 (nI 38) = some (nI 0, m2) := r3
            refine ⟨m3, ?_, Or.inr ⟨c3, ?_, F3⟩⟩
            · show gX12_readUnit gr m (nI d) = _
              unfold gX12_readUnit gX12_readUnit_72
              simp (disch := omega) only [n_lit, n_of, n_o1, nI_add, pk_mul, nI_ltI, nI_leI, nI_eq, ↓lift_lt, ↓k_mt, ↓k_mp, if_true, if_false, Bool.false_eq_true, Nat.not_lt_zero, Nat.zero_le, Nat.reduceEqDiff, Nat.reduceLeDiff, Nat.reduceLT, q18, q37, i1, e1, r2, r3, r3']
            · show gX4_unit gc h c (nI d) = _
              unfold gX4_unit gX4_unit_87 gX4_unit_88
              simp (disch := omega) only [n_lit, n_of, n_o1, nI_add, pk_mul, nI_ltI, nI_leI, nI_eq, ↓lift_lt, ↓k_mt, ↓k_mp, if_true, if_false, Bool.false_eq_true, Nat.not_lt_zero, Nat.zero_le, Nat.reduceEqDiff, Nat.reduceLeDiff, Nat.reduceLT, s17, s18, i1, e2, x2, x3, n_bl0]
        · have r2 : gr 6 m1 (nI (d + 1)) = some m2 := r2
          have x2 : gc 4 c1 (nI (d + 1)) = some (nI 0, c2) := x2
          have pw := PFx_w F2
          refine ⟨m2, ?_, Or.inr ⟨c2, ?_, F2⟩⟩
          · show gX12_readUnit gr m (nI d) = _
            unfold gX12_readUnit gX12_readUnit_72
            simp (disch := omega) only [n_lit, n_of, n_o1, nI_add, pk_mul, nI_ltI, nI_leI, nI_eq, ↓lift_lt, ↓k_mt, ↓k_mp, if_true, if_false, Bool.false_eq_true, Nat.not_lt_zero, Nat.zero_le, Nat.reduceEqDiff, Nat.reduceLeDiff, Nat.reduceLT, q18, q37, i1, e1, r2, q_eats_w pw, q_fails_w pw]
          · show gX4_unit gc h c (nI d) = _
            unfold gX4_unit gX4_unit_87 gX4_unit_88
            simp (disch := omega) only [n_lit, n_of, n_o1, nI_add, pk_mul, nI_ltI, nI_leI, nI_eq, ↓lift_lt, ↓k_mt, ↓k_mp, if_true, if_false, Bool.false_eq_true, Nat.not_lt_zero, Nat.zero_le, Nat.reduceEqDiff, Nat.reduceLeDiff, Nat.reduceLT, s17, s18, i1, e2, x2, n_bl0]
      · refine ⟨m1, ?_, Or.inr ⟨c1, ?_, F1⟩⟩
        · show gX12_readUnit gr m (nI d) = _
          unfold gX12_readUnit
          simp (disch := omega) only [n_lit, n_of, n_o1, nI_add, pk_mul, nI_ltI, nI_leI, nI_eq, ↓lift_lt, ↓k_mt, ↓k_mp, if_true, if_false, Bool.false_eq_true, Nat.not_lt_zero, Nat.zero_le, Nat.reduceEqDiff, Nat.reduceLeDiff, Nat.reduceLT, q18, q37, i1, e1]
        · show gX4_unit gc h c (nI d) = _
          unfold gX4_unit gX4_unit_87 gX4_unit_88
          simp (disch := omega) only [n_lit, n_of, n_o1, nI_add, pk_mul, nI_ltI, nI_leI, nI_eq, ↓lift_lt, ↓k_mt, ↓k_mp, if_true, if_false, Bool.false_eq_true, Nat.not_lt_zero, Nat.zero_le, Nat.reduceEqDiff, Nat.reduceLeDiff, Nat.reduceLT, s17, s18, i1, e2, n_bl0]
    · rw [if_neg z37] at q37 s18
      have eR : gX12_readUnit gr m (nI d) = (gr 3 m (nI d)).bind fun y => rUc gr y (nI d) := by
        unfold gX12_readUnit rUc
        simp (disch := omega) only [n_lit, n_of, n_o1, nI_add, pk_mul, nI_ltI, nI_leI, nI_eq, ↓lift_lt, ↓k_mt, ↓k_mp, if_true, if_false, Bool.false_eq_true, Nat.not_lt_zero, Nat.zero_le, Nat.reduceEqDiff, Nat.reduceLeDiff, Nat.reduceLT, q18, q37]
      obtain ⟨m2, r2, ⟨c2, d2, a2, x2, P2, l2, l2', T2⟩ | ⟨c2, x2, F2⟩⟩ := HS m c cs a H hl
      · have r2 : gr 3 m (nI d) = some m2 := r2
        have x2 : gc 0 c (nI d) = some (nI 1, c2) := x2
        obtain ⟨m3, r3, ⟨c3, d3, a3, x3, P3, l3, l3', T3⟩ | ⟨c3, x3, F3⟩⟩ := HC m2 c2 (cs ++ d2) a2 P2 (by rw [List.length_append]; omega)
        · have x3 : gc 7 c2 (nI d) = some (nI 1, c3) := x3
          refine ⟨m3, ?_, Or.inl ⟨c3, d2 ++ d3, a3, ?_, by rw [← List.append_assoc]; exact P3, by rw [List.length_append]; omega, by omega, fun st hs => ?_⟩⟩
          · show gX12_readUnit gr m (nI d) = _
            rw [eR, r2]
            exact r3
          · show gX4_unit gc h c (nI d) = _
            unfold gX4_unit gX4_unit_110
            simp (disch := omega) only [n_lit, n_of, n_o1, nI_add, pk_mul, nI_ltI, nI_leI, nI_eq, ↓lift_lt, ↓k_mt, ↓k_mp, if_true, if_false, Bool.false_eq_true, Nat.not_lt_zero, Nat.zero_le, Nat.reduceEqDiff, Nat.reduceLeDiff, Nat.reduceLT, s17, s18, x2, i1, x3, n_bl1]
          · rw [tys_app, T2 st (by omega)]
            exact T3 st (by omega)
        · have x3 : gc 7 c2 (nI d) = some (nI 0, c3) := x3
          refine ⟨m3, ?_, Or.inr ⟨c3, ?_, F3⟩⟩
          · show gX12_readUnit gr m (nI d) = _
            rw [eR, r2]
            exact r3
          · show gX4_unit gc h c (nI d) = _
            unfold gX4_unit gX4_unit_109 gX4_unit_110
            simp (disch := omega) only [n_lit, n_of, n_o1, nI_add, pk_mul, nI_ltI, nI_leI, nI_eq, ↓lift_lt, ↓k_mt, ↓k_mp, if_true, if_false, Bool.false_eq_true, Nat.not_lt_zero, Nat.zero_le, Nat.reduceEqDiff, Nat.reduceLeDiff, Nat.reduceLT, s17, s18, x2, i1, x3, n_bl0]
      · have r2 : gr 3 m (nI d) = some m2 := r2
        have x2 : gc 0 c (nI d) = some (nI 0, c2) := x2
        refine ⟨m2, ?_, Or.inr ⟨c2, ?_, F2⟩⟩
        · show gX12_readUnit gr m (nI d) = _
          rw [eR, r2]
          exact no_rUc hn m2 (PFx_w F2)
        · show gX4_unit gc h c (nI d) = _
          unfold gX4_unit gX4_unit_109 gX4_unit_110
          simp (disch := omega) only [n_lit, n_of, n_o1, nI_add, pk_mul, nI_ltI, nI_leI, nI_eq, ↓lift_lt, ↓k_mt, ↓k_mp, if_true, if_false, Bool.false_eq_true, Nat.not_lt_zero, Nat.zero_le, Nat.reduceEqDiff, Nat.reduceLeDiff, Nat.reduceLT, s17, s18, x2, n_bl0]
end NTV
/-! behind a fault the reference does nothing -/
theorem no_0 (n : Nat) (x : Int32) : NOx (fun m => grX12_readAtom (n + 1) 0 m x) := fun m hm => by
  show gX12_readAtom (grX12_readAtom n) m x = some m
  unfold gX12_readAtom gX12_readAtom_66 gX12_readAtom_130
  simp (disch := omega) only [n_lit, n_of, n_o1, nI_add, pk_mul, nI_ltI, nI_leI, nI_eq, ↓lift_lt, ↓k_mt, ↓k_mp, if_true, if_false, Bool.false_eq_true, Nat.not_lt_zero, Nat.zero_le, Nat.reduceEqDiff, Nat.reduceLeDiff, Nat.reduceLT, q_is_w hm, hm, q_fails_w hm]
theorem no_2 (n : Nat) (x : Int32) : NOx (fun m => grX12_readAtom (n + 2) 2 m x) := fun m hm => by
  have e : grX12_readAtom (n + 1) 0 m x = some m := no_0 n x m hm
  have eb : gX12_readTerm_5b (grX12_readAtom (n + 1)) m x = some (.inr m) := by
    unfold gX12_readTerm_5b
    simp (disch := omega) only [n_lit, n_of, n_o1, nI_add, pk_mul, nI_ltI, nI_leI, nI_eq, ↓lift_lt, ↓k_mt, ↓k_mp, if_true, if_false, Bool.false_eq_true, Nat.not_lt_zero, Nat.zero_le, Nat.reduceEqDiff, Nat.reduceLeDiff, Nat.reduceLT, q_eats_w hm]
  have e5 : gX12_readTerm_5 (grX12_readAtom (n + 1)) m x = some m := by
    unfold gX12_readTerm_5
    exact lpw_r eb
  show gX12_readTerm (grX12_readAtom (n + 1)) m x = some m
  unfold gX12_readTerm
  simp (disch := omega) only [n_lit, n_of, n_o1, nI_add, pk_mul, nI_ltI, nI_leI, nI_eq, ↓lift_lt, ↓k_mt, ↓k_mp, if_true, if_false, Bool.false_eq_true, Nat.not_lt_zero, Nat.zero_le, Nat.reduceEqDiff, Nat.reduceLeDiff, Nat.reduceLT, e, e5]
theorem no_3 (n : Nat) (x : Int32) : NOx (fun m => grX12_readAtom (n + 3) 3 m x) := fun m hm => by
  have e : grX12_readAtom (n + 2) 2 m x = some m := no_2 n x m hm
  have eb : gX12_readSum_5b (grX12_readAtom (n + 2)) m x = some (.inr m) := by
    unfold gX12_readSum_5b
    simp (disch := omega) only [n_lit, n_of, n_o1, nI_add, pk_mul, nI_ltI, nI_leI, nI_eq, ↓lift_lt, ↓k_mt, ↓k_mp, if_true, if_false, Bool.false_eq_true, Nat.not_lt_zero, Nat.zero_le, Nat.reduceEqDiff, Nat.reduceLeDiff, Nat.reduceLT, q_is_w hm]
  have e5 : gX12_readSum_5 (grX12_readAtom (n + 2)) m x = some m := by
    unfold gX12_readSum_5
    exact lpw_r eb
  show gX12_readSum (grX12_readAtom (n + 2)) m x = some m
  unfold gX12_readSum
  simp (disch := omega) only [n_lit, n_of, n_o1, nI_add, pk_mul, nI_ltI, nI_leI, nI_eq, ↓lift_lt, ↓k_mt, ↓k_mp, if_true, if_false, Bool.false_eq_true, Nat.not_lt_zero, Nat.zero_le, Nat.reduceEqDiff, Nat.reduceLeDiff, Nat.reduceLT, e, e5]
theorem no_4 (n : Nat) (x : Int32) : NOx (fun m => grX12_readAtom (n + 4) 4 m x) := fun m hm => by
  have e : grX12_readAtom (n + 3) 3 m x = some m := no_3 n x m hm
  show gX12_readUnit (grX12_readAtom (n + 3)) m x = some m
  unfold gX12_readUnit gX12_readUnit_111 gX12_readUnit_151
  simp (disch := omega) only [n_lit, n_of, n_o1, nI_add, pk_mul, nI_ltI, nI_leI, nI_eq, ↓lift_lt, ↓k_mt, ↓k_mp, if_true, if_false, Bool.false_eq_true, Nat.not_lt_zero, Nat.zero_le, Nat.reduceEqDiff, Nat.reduceLeDiff, Nat.reduceLT, q_is_w hm, e, q_fails_w hm, q_codes_w hm]
theorem no_5 (n : Nat) (x : Int32) : NOx (fun m => grX12_readAtom (n + 5) 5 m x) := fun m hm => by
  have e : grX12_readAtom (n + 4) 4 m x = some m := no_4 n x m hm
  have eb : gX12_readBoth_5b (grX12_readAtom (n + 4)) m x = some (.inr m) := by
    unfold gX12_readBoth_5b
    simp (disch := omega) only [n_lit, n_of, n_o1, nI_add, pk_mul, nI_ltI, nI_leI, nI_eq, ↓lift_lt, ↓k_mt, ↓k_mp, if_true, if_false, Bool.false_eq_true, Nat.not_lt_zero, Nat.zero_le, Nat.reduceEqDiff, Nat.reduceLeDiff, Nat.reduceLT, q_eats_w hm]
  have e5 : gX12_readBoth_5 (grX12_readAtom (n + 4)) m x = some m := by
    unfold gX12_readBoth_5
    exact lpw_r eb
  show gX12_readBoth (grX12_readAtom (n + 4)) m x = some m
  unfold gX12_readBoth
  simp (disch := omega) only [n_lit, n_of, n_o1, nI_add, pk_mul, nI_ltI, nI_leI, nI_eq, ↓lift_lt, ↓k_mt, ↓k_mp, if_true, if_false, Bool.false_eq_true, Nat.not_lt_zero, Nat.zero_le, Nat.reduceEqDiff, Nat.reduceLeDiff, Nat.reduceLT, e, e5]
theorem no_6 (n : Nat) (x : Int32) : NOx (fun m => grX12_readAtom (n + 6) 6 m x) := fun m hm => by
  have e : grX12_readAtom (n + 5) 5 m x = some m := no_5 n x m hm
  have eb : gX12_readTruth_5b (grX12_readAtom (n + 5)) m x = some (.inr m) := by
    unfold gX12_readTruth_5b
    simp (disch := omega) only [n_lit, n_of, n_o1, nI_add, pk_mul, nI_ltI, nI_leI, nI_eq, ↓lift_lt, ↓k_mt, ↓k_mp, if_true, if_false, Bool.false_eq_true, Nat.not_lt_zero, Nat.zero_le, Nat.reduceEqDiff, Nat.reduceLeDiff, Nat.reduceLT, q_eats_w hm]
  have e5 : gX12_readTruth_5 (grX12_readAtom (n + 5)) m x = some m := by
    unfold gX12_readTruth_5
    exact lpw_r eb
  show gX12_readTruth (grX12_readAtom (n + 5)) m x = some m
  unfold gX12_readTruth
  simp (disch := omega) only [n_lit, n_of, n_o1, nI_add, pk_mul, nI_ltI, nI_leI, nI_eq, ↓lift_lt, ↓k_mt, ↓k_mp, if_true, if_false, Bool.false_eq_true, Nat.not_lt_zero, Nat.zero_le, Nat.reduceEqDiff, Nat.reduceLeDiff, Nat.reduceLT, e, e5]
/-- one depth, by the next one -/
theorem nt_level {t : Nat → Nat} {N : Nat} {g : Bool} {fr : Nat} {m0 : Mu} {c0 : Ch} {h : Hp} {d F : Nat} (hd : d ≤ 6)
    (ih : ∀ n n', F ≤ n → F ≤ n' → d < 6 → NTx t N g fr m0 c0 h false (8 * (d + 1) + 3) (fun m => grX12_readAtom n 3 m (nI (d + 1))) (fun c => grX4_sum h n' 0 c (nI (d + 1))) ∧ NTx t N g fr m0 c0 h true (8 * (d + 1) + 2) (fun m => grX12_readAtom n 4 m (nI (d + 1))) (fun c => grX4_sum h n' 6 c (nI (d + 1))) ∧ NTx t N g fr m0 c0 h true (8 * (d + 1)) (fun m => grX12_readAtom n 6 m (nI (d + 1))) (fun c => grX4_sum h n' 4 c (nI (d + 1)))) :
    ∀ n n', F + 11 ≤ n → F + 11 ≤ n' →
    NTx t N g fr m0 c0 h false (8 * d + 3) (fun m => grX12_readAtom n 3 m (nI d)) (fun c => grX4_sum h n' 0 c (nI d)) ∧
    NTx t N g fr m0 c0 h true (8 * d + 2) (fun m => grX12_readAtom n 4 m (nI d)) (fun c => grX4_sum h n' 6 c (nI d)) ∧
    NTx t N g fr m0 c0 h true (8 * d) (fun m => grX12_readAtom n 6 m (nI d)) (fun c => grX4_sum h n' 4 c (nI d)) := by
  have S : ∀ n n', F + 7 ≤ n → F + 7 ≤ n' → NTx t N g fr m0 c0 h false (8 * d + 3) (fun m => grX12_readAtom n 3 m (nI d)) (fun c => grX4_sum h n' 0 c (nI d)) := fun n n' hn hn' => by
    obtain ⟨k, rfl⟩ : ∃ k, n = k + 1 + 1 + 1 + 1 := ⟨n - 4, by omega⟩
    obtain ⟨k', rfl⟩ : ∃ k', n' = k' + 1 + 1 + 1 + 1 := ⟨n' - 4, by omega⟩
    obtain ⟨j, rfl⟩ : ∃ j, k = j + 3 := ⟨k - 3, by omega⟩
    have I : NTi t N g fr m0 c0 h (8 * d + 5) (fun m => grX12_readAtom (j + 3 + 1) 1 m (nI d)) (fun c => grX4_sum h (k' + 1) 3 c (nI d)) :=
      nt_if (gr := grX12_readAtom (j + 3)) (gc := grX4_sum h k') hd (fun q => (ih (j + 3) k' (by omega) (by omega) q).2.2) (fun q => (ih (j + 3) k' (by omega) (by omega) q).1) (no_3 j (nI (d + 1)))
    have A : NTx t N g fr m0 c0 h false (8 * d + 5) (fun m => grX12_readAtom (j + 3 + 1 + 1) 0 m (nI d)) (fun c => grX4_sum h (k' + 1 + 1) 2 c (nI d)) :=
      nt_atom (gr := grX12_readAtom (j + 3 + 1)) (gc := grX4_sum h (k' + 1)) hd I (fun q => (ih (j + 3 + 1) (k' + 1) (by omega) (by omega) q).1)
    have Tm : NTx t N g fr m0 c0 h false (8 * d + 4) (fun m => grX12_readAtom (j + 3 + 1 + 1 + 1) 2 m (nI d)) (fun c => grX4_sum h (k' + 1 + 1 + 1) 1 c (nI d)) :=
      nt_term (gr := grX12_readAtom (j + 3 + 1 + 1)) (gc := grX4_sum h (k' + 1 + 1)) A (no_0 (j + 3 + 1) (nI d))
    exact nt_sum (gr := grX12_readAtom (j + 3 + 1 + 1 + 1)) (gc := grX4_sum h (k' + 1 + 1 + 1)) Tm (no_2 (j + 3 + 1) (nI d))
  have U : ∀ n n', F + 8 ≤ n → F + 9 ≤ n' → NTx t N g fr m0 c0 h true (8 * d + 2) (fun m => grX12_readAtom n 4 m (nI d)) (fun c => grX4_sum h n' 6 c (nI d)) := fun n n' hn hn' => by
    obtain ⟨k, rfl⟩ : ∃ k, n = k + 3 + 1 := ⟨n - 4, by omega⟩
    obtain ⟨k', rfl⟩ : ∃ k', n' = k' + 1 + 1 := ⟨n' - 2, by omega⟩
    have C : NTc t N g fr m0 c0 h (8 * d + 2) (fun m => rUc (grX12_readAtom (k + 3)) m (nI d)) (fun c => grX4_sum h (k' + 1) 7 c (nI d)) :=
      nt_cmp (gr := grX12_readAtom (k + 3)) (gc := grX4_sum h k') (S (k + 3) k' (by omega) (by omega)) (no_3 k (nI d))
    exact nt_unit (gr := grX12_readAtom (k + 3)) (gc := grX4_sum h (k' + 1)) hd (S (k + 3) (k' + 1) (by omega) (by omega)) C (no_3 k (nI d)) (fun q => (ih (k + 3) (k' + 1) (by omega) (by omega) q).2.1) (fun q => (ih (k + 3) (k' + 1) (by omega) (by omega) q).2.2)
  intro n n' hn hn'
  refine ⟨S n n' (by omega) (by omega), U n n' (by omega) (by omega), ?_⟩
  obtain ⟨k, rfl⟩ : ∃ k, n = k + 4 + 1 + 1 := ⟨n - 6, by omega⟩
  obtain ⟨k', rfl⟩ : ∃ k', n' = k' + 1 + 1 := ⟨n' - 2, by omega⟩
  have Bo : NTx t N g fr m0 c0 h true (8 * d + 1) (fun m => grX12_readAtom (k + 4 + 1) 5 m (nI d)) (fun c => grX4_sum h (k' + 1) 5 c (nI d)) :=
    nt_both (gr := grX12_readAtom (k + 4)) (gc := grX4_sum h k') (U (k + 4) k' (by omega) (by omega)) (no_4 k (nI d))
  exact nt_truth (gr := grX12_readAtom (k + 4 + 1)) (gc := grX4_sum h (k' + 1)) Bo (no_5 k (nI d))
/-- all depths -/
theorem nt_all {t : Nat → Nat} {N : Nat} {g : Bool} {fr : Nat} {m0 : Mu} {c0 : Ch} {h : Hp} : ∀ e d, d + e = 6 → ∀ n n', 12 * (e + 1) ≤ n → 12 * (e + 1) ≤ n' →
    NTx t N g fr m0 c0 h false (8 * d + 3) (fun m => grX12_readAtom n 3 m (nI d)) (fun c => grX4_sum h n' 0 c (nI d)) ∧
    NTx t N g fr m0 c0 h true (8 * d + 2) (fun m => grX12_readAtom n 4 m (nI d)) (fun c => grX4_sum h n' 6 c (nI d)) ∧
    NTx t N g fr m0 c0 h true (8 * d) (fun m => grX12_readAtom n 6 m (nI d)) (fun c => grX4_sum h n' 4 c (nI d)) := by
  intro e
  induction e with
  | zero => exact fun d hd n n' hn hn' => nt_level (F := 1) (by omega) (fun n n' _ _ q => by omega) n n' (by omega) (by omega)
  | succ e ihe => exact fun d hd n n' hn hn' => nt_level (F := 12 * (e + 1)) (by omega) (fun n n' q1 q2 _ => ihe (d + 1) (by omega) n n' q1 q2) n n' (by omega) (by omega)
