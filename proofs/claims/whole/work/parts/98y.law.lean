/-! the law: a call of both, all calls -/
theorem cm_put (H : Hp) (m : Mu) (c : Ch) : cput (mput 138 H m) c = mput 138 (cput H c) m := by
  refine Prod.ext rfl (Prod.ext rfl ?_)
  funext j
  show (if cdom j = true then some (cell c j) else if 138 ≤ j ∧ j < 138 + 24 then some (mcell 138 m (j - 138)) else H.2.2 j) = (if 138 ≤ j ∧ j < 138 + 24 then some (mcell 138 m (j - 138)) else if cdom j = true then some (cell c j) else H.2.2 j)
  by_cases z : 138 ≤ j
  · have q : ¬ cdom j = true := by rw [cdom_r z]; decide
    rw [if_neg q, if_neg q]
  · have q : ¬ (138 ≤ j ∧ j < 138 + 24) := by omega
    rw [if_neg q, if_neg q]
theorem mput_i (H : Hp) (m : Mu) : mput 138 (mput 138 H m) m = mput 138 H m := by
  refine Prod.ext rfl (Prod.ext rfl ?_)
  funext j
  show (if 138 ≤ j ∧ j < 138 + 24 then some (mcell 138 m (j - 138)) else if 138 ≤ j ∧ j < 138 + 24 then some (mcell 138 m (j - 138)) else H.2.2 j) = (if 138 ≤ j ∧ j < 138 + 24 then some (mcell 138 m (j - 138)) else H.2.2 j)
  by_cases q : 138 ≤ j ∧ j < 138 + 24
  · rw [if_pos q, if_pos q]
  · rw [if_neg q, if_neg q]
theorem mput_f {H : Hp} {m : Mu} {a : Nat} (hf : fre a) : (mput 138 H m).2.2 a = H.2.2 a := if_neg (by unfold fre at hf; omega)
theorem mput_g {H H' : Hp} {m : Mu} (ho : hok H) (g : hgr H H') (e : mput 138 H m = H) : mput 138 H' m = H' := by
  refine Prod.ext rfl (Prod.ext rfl ?_)
  funext j
  show (if 138 ≤ j ∧ j < 138 + 24 then some (mcell 138 m (j - 138)) else H'.2.2 j) = H'.2.2 j
  by_cases q : 138 ≤ j ∧ j < 138 + 24
  · have e2 : (mput 138 H m).2.2 j = some (mcell 138 m (j - 138)) := if_pos q
    rw [if_pos q, ← e2, e, g.2.2 j (by have := ho.1; omega)]
  · rw [if_neg q]
theorem hok_m {H : Hp} {m : Mu} (ho : hok H) : hok (mput 138 H m) := ⟨ho.1, fun a ha => by
  have ha : H.1 ≤ a := ha
  have := ho.1
  rw [mput_f (Or.inr (by omega))]
  exact ho.2 a ha⟩
theorem RC_h {T : Nat} {h h' : Hp} {V : Nat → Cv} {c : Ch} {x : Sp} (hh : ∀ a, fre a → ∀ c, h.2.2 a = some c → h'.2.2 a = some c) (H : RC T h V c x) : RC T h' V c x := by
  obtain ⟨h1, ⟨a, ch, h2⟩, h3⟩ := H
  exact ⟨RS_h hh h1, ⟨a, ch, CT_h hh h2⟩, SI_h hh h3⟩
/-- both stand for the same -/
def Jn (T : Nat) (H : Hp) (V : Nat → Cv) (c : Ch) (m : Mu) (x : Sp) : Prop := RC T H V c x ∧ RM m x ∧ WF x ∧ hok H ∧ mput 138 H m = H
theorem Jn_m {T : Nat} {H : Hp} {V : Nat → Cv} {c : Ch} {m : Mu} {x : Sp} (h1 : RC T H V c x) (h2 : RM m x) (h3 : WF x) (ho : hok H) : Jn T (mput 138 H m) V c m x := ⟨RC_h (fun a hf c hc => by rw [mput_f hf]; exact hc) h1, h2, h3, hok_m ho, mput_i H m⟩
def STs {α : Type} (T : Nat) (H : Hp) (F1 : Option (α × Hp)) (F2 : Hp → Option (α × Hp)) : Prop := ∃ r H1 c' H' V' m' x', F1 = some (r, cput H1 c') ∧ F2 (cput H1 c') = some (r, cput H' c') ∧ (∀ (β : Type) (e : Option β), gO (cput H1 c') 12 138 e = e) ∧ Jn (T + 1) H' V' c' m' x' ∧ H'.1 ≤ H.1 + 904 ∧ H'.2.1 ≤ H.2.1 + 1121
def STq (T : Nat) (H : Hp) (c : Ch) (F1 : Option Int32) (F2 : Hp → Option (Int32 × Hp)) : Prop := ∃ r H' V' m' x', F1 = some r ∧ F2 (cput H c) = some (r, cput H' c) ∧ Jn (T + 1) H' V' c m' x' ∧ H'.1 ≤ H.1 + 904 ∧ H'.2.1 ≤ H.2.1 + 1121
section LWX
variable {T : Nat} {H : Hp} {V : Nat → Cv} {c : Ch} {m : Mu} {x : Sp}
theorem e2_of {α : Type} {F2 : Hp → Option (α × Hp)} {r2 : Option (α × Mu)} (J5 : mput 138 H m = H) (l : ∀ h, F2 (mput 138 h m) = r2.map (fun y => (y.1, mput 138 h y.2))) (c' : Ch) : F2 (cput H c') = r2.map (fun y => (y.1, cput (mput 138 H y.2) c')) := by
  have e : mput 138 (cput H c') m = cput H c' := by rw [← cm_put, J5]
  have q := l (cput H c')
  rw [e] at q
  rw [q]
  congr 1
  funext y
  rw [cm_put]
theorem g_138 (J5 : mput 138 H m = H) (c' : Ch) (β : Type) (e : Option β) : gO (cput H c') 12 138 e = e := by
  have e' : mput 138 (cput H c') m = cput H c' := by rw [← cm_put, J5]
  rw [← e']
  exact lift_gO 138 (cput H c') m e
theorem st_s {α : Type} {F1 : Option (α × Hp)} {F2 : Hp → Option (α × Hp)} {r1 : Option (α × Ch)} {r2 : Option (α × Mu)} (J : Jn T H V c m x) (e1 : F1 = r1.map (fun y => (y.1, cput H y.2))) (l : ∀ h, F2 (mput 138 h m) = r2.map (fun y => (y.1, mput 138 h y.2))) (ok : OKs T H V r1 r2) : STs T H F1 F2 := by
  obtain ⟨r, c', m', x', q1, q2, q3, q4, q5⟩ := ok
  refine ⟨r, H, c', mput 138 H m', V, m', x', ?_, ?_, g_138 J.2.2.2.2 c', Jn_m q3 q4 q5 J.2.2.2.1, by show H.1 ≤ _; omega, by show H.2.1 ≤ _; omega⟩
  · rw [e1, q1]; rfl
  · rw [e2_of J.2.2.2.2 l c', q2]; rfl
theorem st_q {F1 : Option Int32} {F2 : Hp → Option (Int32 × Hp)} {r1 : Option Int32} {r2 : Option (Int32 × Mu)} (J : Jn T H V c m x) (e1 : F1 = r1) (l : ∀ h, F2 (mput 138 h m) = r2.map (fun y => (y.1, mput 138 h y.2))) (ok : OKq x r1 r2) : STq T H c F1 F2 := by
  obtain ⟨r, m', q1, q2, q3⟩ := ok
  refine ⟨r, mput 138 H m', V, m', x, ?_, ?_, Jn_m (RC_T (by omega) J.1) q3 J.2.2.1 J.2.2.2.1, by show H.1 ≤ _; omega, by show H.2.1 ≤ _; omega⟩
  · rw [e1, q1]
  · rw [e2_of J.2.2.2.2 l c, q2]; rfl
theorem st_c (J : Jn T H V c m x) (y : Int32) : STs T H (fX11_cave (cput H c) 80 y) (fun h => fX12_cave h 138 y) := by
  obtain ⟨r, H1, V', c', m', x', q1, q2, q3, q4, q5, q6, q7, q8, q9⟩ := op_cave y J.1 J.2.1 J.2.2.1 J.2.2.2.1
  have J5 := mput_g J.2.2.2.1 q7 J.2.2.2.2
  refine ⟨r, H1, c', mput 138 H1 m', V', m', x', q1, ?_, g_138 J5 c', Jn_m q3 q4 q5 q6, q8, q9⟩
  refine (e2_of (F2 := fun h => fX12_cave h 138 y) J5 (fun h => lX12_cave 138 h m y) c').trans ?_
  rw [q2]
  rfl
theorem lg_s (r : Int64) : lg_cmp r r = 0 := by
  unfold lg_cmp
  simp
theorem xI_n {N k : Nat} (xs : Nat → Int32) (hk : k < N) (hN : N ≤ 3072) : xI N xs (nI k) = some (xs k) := by
  unfold xI
  rw [if_pos (n_inB hk (by omega)), nI_clamp (by omega)]
theorem law_step (J : Jn T H V c m x) (hT : T ≤ 1000) {N i : Nat} (xs : Nat → Int32) (hN : N ≤ 3072) (hi : i + 6 ≤ N) : ∃ H' V' c' m' x', fL_law_18b N xs (cput H c) 80 138 (nI i) = some (.inl (nI (i + 6), cput H' c')) ∧ Jn (T + 1) H' V' c' m' x' ∧ H'.1 ≤ H.1 + 904 ∧ H'.2.1 ≤ H.2.1 + 1121 := by
  have n6 : nI i + Int32.ofInt 6 = nI (i + 6) := by rw [show Int32.ofInt 6 = nI 6 from rfl, nI_add]
  have a0 : xI N xs (nI i) = some (xs i) := xI_n xs (by omega) hN
  have a1 : xI N xs (nI i + (1 : Int32)) = some (xs (i + 1)) := by rw [show (1 : Int32) = nI 1 from rfl, nI_add]; exact xI_n xs (by omega) hN
  have a2 : xI N xs (nI i + (2 : Int32)) = some (xs (i + 2)) := by rw [show (2 : Int32) = nI 2 from rfl, nI_add]; exact xI_n xs (by omega) hN
  have a3 : xI N xs (nI i + (3 : Int32)) = some (xs (i + 3)) := by rw [show (3 : Int32) = nI 3 from rfl, nI_add]; exact xI_n xs (by omega) hN
  have a4 : xI N xs (nI i + (4 : Int32)) = some (xs (i + 4)) := by rw [show (4 : Int32) = nI 4 from rfl, nI_add]; exact xI_n xs (by omega) hN
  have a5 : xI N xs (nI i + (5 : Int32)) = some (xs (i + 5)) := by rw [show (5 : Int32) = nI 5 from rfl, nI_add]; exact xI_n xs (by omega) hN
  have c0 : ¬ (Int32.ofNat N - (6 : Int32) < nI i) := by
    show ¬ (nI N - nI 6 < nI i)
    rw [pk_sub (by omega), nI_ltI (by omega) (by omega)]
    omega
  have g80 : ∀ (β : Type) (e : Option β), gO (cput H c) 11 80 e = e := fun β e => c_gO H c e (by decide) rfl
  have g38 := g_138 J.2.2.2.2 c
  have fin : ∀ h : Hp, fL_law_1474 N xs h 80 138 (nI i) = some (.inl (nI (i + 6), h)) := fun h => by unfold fL_law_1474; rw [n6]
  obtain ⟨B, eB⟩ : ∃ B, B = fL_law_18b N xs (cput H c) 80 138 (nI i) := ⟨_, rfl⟩
  rw [← eB]
  unfold fL_law_18b at eB
  rw [if_neg c0, a0, k_bs] at eB
  by_cases z0 : xs i &&& (63 : Int32) = 0
  · rw [if_pos z0] at eB
    obtain ⟨r, H1, c1, H2, V2, m2, x2, e1, e2, g3, J2, b1, b2⟩ := st_s (F2 := fun h => fX12_feed h 138 (xs (i + 1)) (xs (i + 2)) (xs (i + 3)) (xs (i + 4)) (xs (i + 5))) J (lX11_feed H c (xs (i + 1)) (xs (i + 2)) (xs (i + 3)) (xs (i + 4)) (xs (i + 5))) (fun h => lX12_feed 138 h m (xs (i + 1)) (xs (i + 2)) (xs (i + 3)) (xs (i + 4)) (xs (i + 5))) (op_feed (xs (i + 1)) (xs (i + 2)) (xs (i + 3)) (xs (i + 4)) (xs (i + 5)) J.1 J.2.1 J.2.2.1)
    exact ⟨H2, V2, c1, m2, x2, by rw [eB]; simp only [a1, a2, a3, a4, a5, lift_lt, k_bs, g80, e1, g3, e2, if_true, fin], J2, b1, b2⟩
  rw [if_neg z0] at eB
  by_cases z1 : xs i &&& (63 : Int32) = 1
  · rw [if_pos z1] at eB
    obtain ⟨r, H1, c1, H2, V2, m2, x2, e1, e2, g3, J2, b1, b2⟩ := st_c J (xs (i + 1))
    exact ⟨H2, V2, c1, m2, x2, by rw [eB]; simp only [a1, lift_lt, k_bs, g80, e1, g3, e2, if_true, fin], J2, b1, b2⟩
  rw [if_neg z1] at eB
  by_cases z2 : xs i &&& (63 : Int32) = 2
  · rw [if_pos z2] at eB
    obtain ⟨r, H2, V2, m2, x2, e1, e2, J2, b1, b2⟩ := st_q (F2 := fun h => fX12_fault h 138 (xs (i + 1))) J (lX11_fault H c (xs (i + 1))) (fun h => lX12_fault 138 h m (xs (i + 1))) (op_fault (xs (i + 1)) J.1 J.2.1)
    exact ⟨H2, V2, c, m2, x2, by rw [eB]; simp only [a1, k_bs, g80, e1, g38, e2, if_true, fin], J2, b1, b2⟩
  rw [if_neg z2] at eB
  by_cases z3 : xs i &&& (63 : Int32) = 3
  · rw [if_pos z3] at eB
    obtain ⟨r, H2, V2, m2, x2, e1, e2, J2, b1, b2⟩ := st_q (F2 := fun h => fX12_pair h 138 (xs (i + 1)) (xs (i + 2))) J (lX11_pair H c (xs (i + 1)) (xs (i + 2))) (fun h => lX12_pair 138 h m (xs (i + 1)) (xs (i + 2))) (op_pair (xs (i + 1)) (xs (i + 2)) J.1 J.2.1 J.2.2.1)
    exact ⟨H2, V2, c, m2, x2, by rw [eB]; simp only [a1, a2, k_bs, g80, e1, g38, e2, if_true, fin], J2, b1, b2⟩
  rw [if_neg z3] at eB
  by_cases z4 : xs i &&& (63 : Int32) = 4
  · rw [if_pos z4] at eB
    obtain ⟨r, H1, c1, H2, V2, m2, x2, e1, e2, g3, J2, b1, b2⟩ := st_s (F2 := fun h => fX12_grown h 138 (xs (i + 1)) (xs (i + 2)) (xs (i + 3))) J (lX11_grown H c (xs (i + 1)) (xs (i + 2)) (xs (i + 3))) (fun h => lX12_grown 138 h m (xs (i + 1)) (xs (i + 2)) (xs (i + 3))) (op_grown (xs (i + 1)) (xs (i + 2)) (xs (i + 3)) J.1 J.2.1 J.2.2.1)
    exact ⟨H2, V2, c1, m2, x2, by rw [eB]; simp only [a1, a2, a3, lift_lt, k_bs, g80, e1, g3, e2, if_true, fin], J2, b1, b2⟩
  rw [if_neg z4] at eB
  by_cases z5 : xs i &&& (63 : Int32) = 5
  · rw [if_pos z5] at eB
    obtain ⟨r, H2, V2, m2, x2, e1, e2, J2, b1, b2⟩ := st_q (F2 := fun h => fX12_leadings h 138) J (lX11_leadings H c) (fun h => lX12_leadings 138 h m) (op_leadings J.1 J.2.1 J.2.2.1)
    exact ⟨H2, V2, c, m2, x2, by rw [eB]; simp only [k_bs, g80, e1, g38, e2, if_true, fin], J2, b1, b2⟩
  rw [if_neg z5] at eB
  by_cases z6 : xs i &&& (63 : Int32) = 6
  · rw [if_pos z6] at eB
    obtain ⟨r, H1, c1, H2, V2, m2, x2, e1, e2, g3, J2, b1, b2⟩ := st_s (F2 := fun h => fX12_year h 138 (xs (i + 1))) J (lX11_year H c (xs (i + 1))) (fun h => lX12_year 138 h m (xs (i + 1))) (op_year (xs (i + 1)) J.1 J.2.1 J.2.2.1)
    exact ⟨H2, V2, c1, m2, x2, by rw [eB]; simp only [a1, lift_lt, k_bs, g80, e1, g3, e2, if_true, fin], J2, b1, b2⟩
  rw [if_neg z6] at eB
  by_cases z7 : xs i &&& (63 : Int32) = 7
  · rw [if_pos z7] at eB
    obtain ⟨r, H1, c1, H2, V2, m2, x2, e1, e2, g3, J2, b1, b2⟩ := st_s (F2 := fun h => fX12_lead h 138 (xs (i + 1))) J (lX11_lead H c (xs (i + 1))) (fun h => lX12_lead 138 h m (xs (i + 1))) (op_lead (xs (i + 1)) J.1 J.2.1 J.2.2.1)
    exact ⟨H2, V2, c1, m2, x2, by rw [eB]; simp only [a1, lift_lt, k_bs, g80, e1, g3, e2, if_true, fin], J2, b1, b2⟩
  rw [if_neg z7] at eB
  by_cases z8 : xs i &&& (63 : Int32) = 8
  · rw [if_pos z8] at eB
    obtain ⟨r, H1, c1, H2, V2, m2, x2, e1, e2, g3, J2, b1, b2⟩ := st_s (F2 := fun h => fX12_saw h 138 (xs (i + 1))) J (lX11_saw H c (xs (i + 1))) (fun h => lX12_saw 138 h m (xs (i + 1))) (op_saw (xs (i + 1)) J.1 J.2.1 J.2.2.1)
    exact ⟨H2, V2, c1, m2, x2, by rw [eB]; simp only [a1, lift_lt, k_bs, g80, e1, g3, e2, if_true, fin], J2, b1, b2⟩
  rw [if_neg z8] at eB
  by_cases z9 : xs i &&& (63 : Int32) = 9
  · rw [if_pos z9] at eB
    obtain ⟨r, H1, c1, H2, V2, m2, x2, e1, e2, g3, J2, b1, b2⟩ := st_s (F2 := fun h => fX12_chalk h 138 (xs (i + 1)) (xs (i + 2))) J (lX11_chalk H c (xs (i + 1)) (xs (i + 2))) (fun h => lX12_chalk 138 h m (xs (i + 1)) (xs (i + 2))) (op_chalk (xs (i + 1)) (xs (i + 2)) J.1 J.2.1 J.2.2.1)
    exact ⟨H2, V2, c1, m2, x2, by rw [eB]; simp only [a1, a2, lift_lt, k_bs, g80, e1, g3, e2, if_true, fin], J2, b1, b2⟩
  rw [if_neg z9] at eB
  by_cases z10 : xs i &&& (63 : Int32) = 10
  · rw [if_pos z10] at eB
    obtain ⟨r, H1, c1, H2, V2, m2, x2, e1, e2, g3, J2, b1, b2⟩ := st_s (F2 := fun h => fX12_undo h 138 (xs (i + 1))) J (lX11_undo H c (xs (i + 1))) (fun h => lX12_undo 138 h m (xs (i + 1))) (op_undo (xs (i + 1)) J.1 J.2.1 J.2.2.1)
    exact ⟨H2, V2, c1, m2, x2, by rw [eB]; simp only [a1, lift_lt, k_bs, g80, e1, g3, e2, if_true, fin], J2, b1, b2⟩
  rw [if_neg z10] at eB
  by_cases z11 : xs i &&& (63 : Int32) = 11
  · rw [if_pos z11] at eB
    obtain ⟨r, H1, c1, H2, V2, m2, x2, e1, e2, g3, J2, b1, b2⟩ := st_s (F2 := fun h => fX12_judge h 138 (xs (i + 1)) (xs (i + 2))) J (lX11_judge H c (xs (i + 1)) (xs (i + 2))) (fun h => lX12_judge 138 h m (xs (i + 1)) (xs (i + 2))) (op_judge (xs (i + 1)) (xs (i + 2)) J.1 J.2.1 J.2.2.1)
    exact ⟨H2, V2, c1, m2, x2, by rw [eB]; simp only [a1, a2, lift_lt, k_bs, g80, e1, g3, e2, if_true, fin], J2, b1, b2⟩
  rw [if_neg z11] at eB
  by_cases z12 : xs i &&& (63 : Int32) = 12
  · rw [if_pos z12] at eB
    obtain ⟨r, H1, c1, H2, V2, m2, x2, e1, e2, g3, J2, b1, b2⟩ := st_s (F2 := fun h => fX12_perform h 138 (xs (i + 1))) J (lX11_perform H c (xs (i + 1))) (fun h => lX12_perform 138 h m (xs (i + 1))) (op_perform (xs (i + 1)) J.1 J.2.1 J.2.2.1)
    exact ⟨H2, V2, c1, m2, x2, by rw [eB]; simp only [a1, lift_lt, k_bs, g80, e1, g3, e2, if_true, fin], J2, b1, b2⟩
  rw [if_neg z12] at eB
  by_cases z13 : xs i &&& (63 : Int32) = 13
  · rw [if_pos z13] at eB
    obtain ⟨r, H1, c1, H2, V2, m2, x2, e1, e2, g3, J2, b1, b2⟩ := st_s (F2 := fun h => fX12_age h 138 (xs (i + 1)) (xs (i + 2))) J (lX11_age H c (xs (i + 1)) (xs (i + 2))) (fun h => lX12_age 138 h m (xs (i + 1)) (xs (i + 2))) (op_age (xs (i + 1)) (xs (i + 2)) J.1 J.2.1 J.2.2.1)
    exact ⟨H2, V2, c1, m2, x2, by rw [eB]; simp only [a1, a2, lift_lt, k_bs, g80, e1, g3, e2, if_true, fin], J2, b1, b2⟩
  rw [if_neg z13] at eB
  by_cases z14 : xs i &&& (63 : Int32) = 14
  · rw [if_pos z14] at eB
    obtain ⟨r, H1, c1, H2, V2, m2, x2, e1, e2, g3, J2, b1, b2⟩ := st_s (F2 := fun h => fX12_lies h 138 (xs (i + 1)) (xs (i + 2))) J (lX11_lies H c (xs (i + 1)) (xs (i + 2))) (fun h => lX12_lies 138 h m (xs (i + 1)) (xs (i + 2))) (op_lies (xs (i + 1)) (xs (i + 2)) J.1 J.2.1 J.2.2.1)
    exact ⟨H2, V2, c1, m2, x2, by rw [eB]; simp only [a1, a2, lift_lt, k_bs, g80, e1, g3, e2, if_true, fin], J2, b1, b2⟩
  rw [if_neg z14] at eB
  by_cases z15 : xs i &&& (63 : Int32) = 15
  · rw [if_pos z15] at eB
    obtain ⟨r, H1, c1, H2, V2, m2, x2, e1, e2, g3, J2, b1, b2⟩ := st_s (F2 := fun h => fX12_meets h 138 (xs (i + 1))) J (lX11_meets H c (xs (i + 1))) (fun h => lX12_meets 138 h m (xs (i + 1))) (op_meets (xs (i + 1)) J.1 J.2.1 J.2.2.1)
    exact ⟨H2, V2, c1, m2, x2, by rw [eB]; simp only [a1, lift_lt, k_bs, g80, e1, g3, e2, if_true, fin], J2, b1, b2⟩
  rw [if_neg z15] at eB
  by_cases z16 : xs i &&& (63 : Int32) = 16
  · rw [if_pos z16] at eB
    obtain ⟨r, H1, c1, H2, V2, m2, x2, e1, e2, g3, J2, b1, b2⟩ := st_s (F2 := fun h => fX12_order h 138 (xs (i + 1))) J (lX11_order H c (xs (i + 1))) (fun h => lX12_order 138 h m (xs (i + 1))) (op_order (xs (i + 1)) J.1 J.2.1 J.2.2.1)
    exact ⟨H2, V2, c1, m2, x2, by rw [eB]; simp only [a1, lift_lt, k_bs, g80, e1, g3, e2, if_true, fin], J2, b1, b2⟩
  rw [if_neg z16] at eB
  by_cases z17 : xs i &&& (63 : Int32) = 17
  · rw [if_pos z17] at eB
    obtain ⟨r, H1, c1, H2, V2, m2, x2, e1, e2, g3, J2, b1, b2⟩ := st_s (F2 := fun h => fX12_falls h 138) J (lX11_falls H c) (fun h => lX12_falls 138 h m) (op_falls J.1 J.2.1 J.2.2.1)
    exact ⟨H2, V2, c1, m2, x2, by rw [eB]; simp only [lift_lt, k_bs, g80, e1, g3, e2, if_true, fin], J2, b1, b2⟩
  rw [if_neg z17] at eB
  by_cases z18 : xs i &&& (63 : Int32) = 18
  · rw [if_pos z18] at eB
    obtain ⟨r, H1, c1, H2, V2, m2, x2, e1, e2, g3, J2, b1, b2⟩ := st_s (F2 := fun h => fX12_moved h 138 (xs (i + 1)) (xs (i + 2)) (xs (i + 3))) J (lX11_moved H c (xs (i + 1)) (xs (i + 2)) (xs (i + 3))) (fun h => lX12_moved 138 h m (xs (i + 1)) (xs (i + 2)) (xs (i + 3))) (op_moved (xs (i + 1)) (xs (i + 2)) (xs (i + 3)) J.1 J.2.1 J.2.2.1)
    exact ⟨H2, V2, c1, m2, x2, by rw [eB]; simp only [a1, a2, a3, lift_lt, k_bs, g80, e1, g3, e2, if_true, fin], J2, b1, b2⟩
  rw [if_neg z18] at eB
  by_cases z19 : xs i &&& (63 : Int32) = 19
  · rw [if_pos z19] at eB
    obtain ⟨r, H1, c1, H2, V2, m2, x2, e1, e2, g3, J2, b1, b2⟩ := st_s (F2 := fun h => fX12_soonest h 138 (xs (i + 1))) J (lX11_soonest H c (xs (i + 1))) (fun h => lX12_soonest 138 h m (xs (i + 1))) (op_soonest J.1 J.2.1 J.2.2.1 hT (xs (i + 1)))
    exact ⟨H2, V2, c1, m2, x2, by rw [eB]; simp only [a1, lift_lt, k_bs, g80, e1, g3, e2, if_true, fin], J2, b1, b2⟩
  rw [if_neg z19] at eB
  by_cases z20 : xs i &&& (63 : Int32) = 20
  · rw [if_pos z20] at eB
    obtain ⟨r, H1, c1, H2, V2, m2, x2, e1, e2, g3, J2, b1, b2⟩ := st_s (F2 := fun h => fX12_way h 138 (xs (i + 1)) (xs (i + 2))) J (lX11_way H c (xs (i + 1)) (xs (i + 2))) (fun h => lX12_way 138 h m (xs (i + 1)) (xs (i + 2))) (op_way J.1 J.2.1 J.2.2.1 hT (xs (i + 1)) (xs (i + 2)))
    exact ⟨H2, V2, c1, m2, x2, by rw [eB]; simp only [a1, a2, lift_lt, k_bs, g80, e1, g3, e2, if_true, fin], J2, b1, b2⟩
  rw [if_neg z20] at eB
  by_cases z21 : xs i &&& (63 : Int32) = 21
  · rw [if_pos z21] at eB
    obtain ⟨r, H1, c1, H2, V2, m2, x2, e1, e2, g3, J2, b1, b2⟩ := st_s (F2 := fun h => fX12_rows h 138 (xs (i + 1)) (xs (i + 2))) J (lX11_rows H c (xs (i + 1)) (xs (i + 2))) (fun h => lX12_rows 138 h m (xs (i + 1)) (xs (i + 2))) (op_rows J.1 J.2.1 J.2.2.1 hT (xs (i + 1)) (xs (i + 2)))
    exact ⟨H2, V2, c1, m2, x2, by rw [eB]; simp only [a1, a2, lg_s, lift_lt, k_bs, g80, e1, g3, e2, if_true, fin], J2, b1, b2⟩
  rw [if_neg z21] at eB
  by_cases z22 : xs i &&& (63 : Int32) = 22
  · rw [if_pos z22] at eB
    obtain ⟨r, H1, c1, H2, V2, m2, x2, e1, e2, g3, J2, b1, b2⟩ := st_s (F2 := fun h => fX12_most h 138) J (lX11_most H c) (fun h => lX12_most 138 h m) (op_most J.1 J.2.1 J.2.2.1 hT)
    exact ⟨H2, V2, c1, m2, x2, by rw [eB]; simp only [lift_lt, k_bs, g80, e1, g3, e2, if_true, fin], J2, b1, b2⟩
  rw [if_neg z22] at eB
  by_cases z23 : xs i &&& (63 : Int32) = 23
  · rw [if_pos z23] at eB
    obtain ⟨r, H1, c1, H2, V2, m2, x2, e1, e2, g3, J2, b1, b2⟩ := st_s (F2 := fun h => fX12_holding h 138) J (lX11_holding H c) (fun h => lX12_holding 138 h m) (op_holding J.1 J.2.1 J.2.2.1 hT)
    exact ⟨H2, V2, c1, m2, x2, by rw [eB]; simp only [lift_lt, k_bs, g80, e1, g3, e2, if_true, fin], J2, b1, b2⟩
  rw [if_neg z23] at eB
  by_cases z24 : xs i &&& (63 : Int32) = 24
  · rw [if_pos z24] at eB
    obtain ⟨r, H1, c1, H2, V2, m2, x2, e1, e2, g3, J2, b1, b2⟩ := st_s (F2 := fun h => fX12_felling h 138) J (lX11_felling H c) (fun h => lX12_felling 138 h m) (op_felling J.1 J.2.1 J.2.2.1 hT)
    exact ⟨H2, V2, c1, m2, x2, by rw [eB]; simp only [lift_lt, k_bs, g80, e1, g3, e2, if_true, fin], J2, b1, b2⟩
  rw [if_neg z24] at eB
  by_cases z25 : xs i &&& (63 : Int32) = 25
  · rw [if_pos z25] at eB
    obtain ⟨r, H1, c1, H2, V2, m2, x2, e1, e2, g3, J2, b1, b2⟩ := st_s (F2 := fun h => fX12_stands h 138) J (lX11_stands H c) (fun h => lX12_stands 138 h m) (op_stands J.1 J.2.1 J.2.2.1 hT)
    exact ⟨H2, V2, c1, m2, x2, by rw [eB]; simp only [lift_lt, k_bs, g80, e1, g3, e2, if_true, fin], J2, b1, b2⟩
  rw [if_neg z25] at eB
  by_cases z26 : xs i &&& (63 : Int32) = 26
  · rw [if_pos z26] at eB
    obtain ⟨r, H1, c1, H2, V2, m2, x2, e1, e2, g3, J2, b1, b2⟩ := st_s (F2 := fun h => fX12_seen h 138 (xs (i + 1)) (xs (i + 2))) J (lX11_seen H c (xs (i + 1)) (xs (i + 2))) (fun h => lX12_seen 138 h m (xs (i + 1)) (xs (i + 2))) (op_seen (xs (i + 1)) (xs (i + 2)) J.1 J.2.1 J.2.2.1)
    exact ⟨H2, V2, c1, m2, x2, by rw [eB]; simp only [a1, a2, lift_lt, k_bs, g80, e1, g3, e2, if_true, fin], J2, b1, b2⟩
  rw [if_neg z26] at eB
  by_cases z27 : xs i &&& (63 : Int32) = 27
  · rw [if_pos z27] at eB
    obtain ⟨r, H1, c1, H2, V2, m2, x2, e1, e2, g3, J2, b1, b2⟩ := st_s (F2 := fun h => fX12_seenDry h 138 (xs (i + 1)) (xs (i + 2)) (xs (i + 3))) J (lX11_seenDry H c (xs (i + 1)) (xs (i + 2)) (xs (i + 3))) (fun h => lX12_seenDry 138 h m (xs (i + 1)) (xs (i + 2)) (xs (i + 3))) (op_seenDry (xs (i + 1)) (xs (i + 2)) (xs (i + 3)) J.1 J.2.1 J.2.2.1)
    exact ⟨H2, V2, c1, m2, x2, by rw [eB]; simp only [a1, a2, a3, lift_lt, k_bs, g80, e1, g3, e2, if_true, fin], J2, b1, b2⟩
  rw [if_neg z27] at eB
  by_cases z28 : xs i &&& (63 : Int32) = 28
  · rw [if_pos z28] at eB
    obtain ⟨r, H1, c1, H2, V2, m2, x2, e1, e2, g3, J2, b1, b2⟩ := st_s (F2 := fun h => fX12_surely h 138 (xs (i + 1)) (xs (i + 2)) (xs (i + 3))) J (lX11_surely H c (xs (i + 1)) (xs (i + 2)) (xs (i + 3))) (fun h => lX12_surely 138 h m (xs (i + 1)) (xs (i + 2)) (xs (i + 3))) (op_surely (xs (i + 1)) (xs (i + 2)) (xs (i + 3)) J.1 J.2.1 J.2.2.1)
    exact ⟨H2, V2, c1, m2, x2, by rw [eB]; simp only [a1, a2, a3, lift_lt, k_bs, g80, e1, g3, e2, if_true, fin], J2, b1, b2⟩
  rw [if_neg z28] at eB
  by_cases z29 : xs i &&& (63 : Int32) = 29
  · rw [if_pos z29] at eB
    obtain ⟨r, H1, c1, H2, V2, m2, x2, e1, e2, g3, J2, b1, b2⟩ := st_s (F2 := fun h => fX12_chalks h 138 (xs (i + 1)) (xs (i + 2))) J (lX11_chalks H c (xs (i + 1)) (xs (i + 2))) (fun h => lX12_chalks 138 h m (xs (i + 1)) (xs (i + 2))) (op_chalks (xs (i + 1)) (xs (i + 2)) J.1 J.2.1 J.2.2.1)
    exact ⟨H2, V2, c1, m2, x2, by rw [eB]; simp only [a1, a2, lift_lt, k_bs, g80, e1, g3, e2, if_true, fin], J2, b1, b2⟩
  rw [if_neg z29] at eB
  by_cases z30 : xs i &&& (63 : Int32) = 30
  · rw [if_pos z30] at eB
    obtain ⟨r, H1, c1, H2, V2, m2, x2, e1, e2, g3, J2, b1, b2⟩ := st_s (F2 := fun h => fX12_attempt h 138 (xs (i + 1)) (xs (i + 2))) J (lX11_attempt H c (xs (i + 1)) (xs (i + 2))) (fun h => lX12_attempt 138 h m (xs (i + 1)) (xs (i + 2))) (op_attempt (xs (i + 1)) (xs (i + 2)) J.1 J.2.1 J.2.2.1)
    exact ⟨H2, V2, c1, m2, x2, by rw [eB]; simp only [a1, a2, lift_lt, k_bs, g80, e1, g3, e2, if_true, fin], J2, b1, b2⟩
  rw [if_neg z30] at eB
  by_cases z31 : xs i &&& (63 : Int32) = 31
  · rw [if_pos z31] at eB
    obtain ⟨r, H1, c1, H2, V2, m2, x2, e1, e2, g3, J2, b1, b2⟩ := st_s (F2 := fun h => fX12_forces h 138 (xs (i + 1))) J (lX11_forces H c (xs (i + 1))) (fun h => lX12_forces 138 h m (xs (i + 1))) (op_forces J.1 J.2.1 J.2.2.1 hT (xs (i + 1)))
    exact ⟨H2, V2, c1, m2, x2, by rw [eB]; simp only [a1, lift_lt, k_bs, g80, e1, g3, e2, if_true, fin], J2, b1, b2⟩
  rw [if_neg z31] at eB
  by_cases z32 : xs i &&& (63 : Int32) = 32
  · rw [if_pos z32] at eB
    obtain ⟨r, H1, c1, H2, V2, m2, x2, e1, e2, g3, J2, b1, b2⟩ := st_s (F2 := fun h => fX12_best h 138 (xs (i + 1))) J (lX11_best H c (xs (i + 1))) (fun h => lX12_best 138 h m (xs (i + 1))) (op_best J.1 J.2.1 J.2.2.1 hT (xs (i + 1)))
    exact ⟨H2, V2, c1, m2, x2, by rw [eB]; simp only [a1, lift_lt, k_bs, g80, e1, g3, e2, if_true, fin], J2, b1, b2⟩
  rw [if_neg z32] at eB
  by_cases z33 : xs i &&& (63 : Int32) = 33
  · rw [if_pos z33] at eB
    obtain ⟨r, H1, c1, H2, V2, m2, x2, e1, e2, g3, J2, b1, b2⟩ := st_s (F2 := fun h => fX12_chance h 138 (xs (i + 1)) (xs (i + 2)) (xs (i + 3))) J (lX11_chance H c (xs (i + 1)) (xs (i + 2)) (xs (i + 3))) (fun h => lX12_chance 138 h m (xs (i + 1)) (xs (i + 2)) (xs (i + 3))) (op_chance (xs (i + 1)) (xs (i + 2)) (xs (i + 3)) J.1 J.2.1 J.2.2.1)
    exact ⟨H2, V2, c1, m2, x2, by rw [eB]; simp only [a1, a2, a3, lift_lt, k_bs, g80, e1, g3, e2, if_true, fin], J2, b1, b2⟩
  rw [if_neg z33] at eB
  by_cases z34 : xs i &&& (63 : Int32) = 34
  · rw [if_pos z34] at eB
    obtain ⟨r, H1, c1, H2, V2, m2, x2, e1, e2, g3, J2, b1, b2⟩ := st_s (F2 := fun h => fX12_mean h 138 (xs (i + 1)) (xs (i + 2)) (xs (i + 3))) J (lX11_mean H c (xs (i + 1)) (xs (i + 2)) (xs (i + 3))) (fun h => lX12_mean 138 h m (xs (i + 1)) (xs (i + 2)) (xs (i + 3))) (op_mean (xs (i + 1)) (xs (i + 2)) (xs (i + 3)) J.1 J.2.1 J.2.2.1)
    exact ⟨H2, V2, c1, m2, x2, by rw [eB]; simp only [a1, a2, a3, lift_lt, k_bs, g80, e1, g3, e2, if_true, fin], J2, b1, b2⟩
  rw [if_neg z34] at eB
  by_cases z35 : xs i &&& (63 : Int32) = 35
  · rw [if_pos z35] at eB
    obtain ⟨r, H1, c1, H2, V2, m2, x2, e1, e2, g3, J2, b1, b2⟩ := st_s (F2 := fun h => fX12_fallen h 138 (xs (i + 1)) (xs (i + 2))) J (lX11_fallen H c (xs (i + 1)) (xs (i + 2))) (fun h => lX12_fallen 138 h m (xs (i + 1)) (xs (i + 2))) (op_fallen (xs (i + 1)) (xs (i + 2)) J.1 J.2.1 J.2.2.1)
    exact ⟨H2, V2, c1, m2, x2, by rw [eB]; simp only [a1, a2, lift_lt, k_bs, g80, e1, g3, e2, if_true, fin], J2, b1, b2⟩
  rw [if_neg z35] at eB
  by_cases z36 : xs i &&& (63 : Int32) = 36
  · rw [if_pos z36] at eB
    obtain ⟨r, H1, c1, H2, V2, m2, x2, e1, e2, g3, J2, b1, b2⟩ := st_s (F2 := fun h => fX12_numbers h 138 (xs (i + 1)) (xs (i + 2)) (xs (i + 3))) J (lX11_numbers H c (xs (i + 1)) (xs (i + 2)) (xs (i + 3))) (fun h => lX12_numbers 138 h m (xs (i + 1)) (xs (i + 2)) (xs (i + 3))) (op_numbers (xs (i + 1)) (xs (i + 2)) (xs (i + 3)) J.1 J.2.1 J.2.2.1)
    exact ⟨H2, V2, c1, m2, x2, by rw [eB]; simp only [a1, a2, a3, lift_lt, k_bs, g80, e1, g3, e2, if_true, fin], J2, b1, b2⟩
  rw [if_neg z36] at eB
  by_cases z37 : xs i &&& (63 : Int32) = 37
  · rw [if_pos z37] at eB
    obtain ⟨r, H1, c1, H2, V2, m2, x2, e1, e2, g3, J2, b1, b2⟩ := st_s (F2 := fun h => fX12_write h 138 (xs (i + 1)) (xs (i + 2)) ((((xs (i + 3)).toInt64) <<< ((32 : Int32).toInt64 &&& 63)) ||| (((xs (i + 4)).toInt64) &&& (4294967295 : Int64)))) J (lX11_write H c (xs (i + 1)) (xs (i + 2)) ((((xs (i + 3)).toInt64) <<< ((32 : Int32).toInt64 &&& 63)) ||| (((xs (i + 4)).toInt64) &&& (4294967295 : Int64)))) (fun h => lX12_write 138 h m (xs (i + 1)) (xs (i + 2)) ((((xs (i + 3)).toInt64) <<< ((32 : Int32).toInt64 &&& 63)) ||| (((xs (i + 4)).toInt64) &&& (4294967295 : Int64)))) (op_write (xs (i + 1)) (xs (i + 2)) ((((xs (i + 3)).toInt64) <<< ((32 : Int32).toInt64 &&& 63)) ||| (((xs (i + 4)).toInt64) &&& (4294967295 : Int64))) J.1 J.2.1 J.2.2.1)
    exact ⟨H2, V2, c1, m2, x2, by rw [eB]; simp only [a1, a2, a3, a4, lg_s, lift_lt, k_bs, g80, e1, g3, e2, if_true, fin], J2, b1, b2⟩
  rw [if_neg z37] at eB
  by_cases z38 : xs i &&& (63 : Int32) = 38
  · rw [if_pos z38] at eB
    obtain ⟨r, H1, c1, H2, V2, m2, x2, e1, e2, g3, J2, b1, b2⟩ := st_s (F2 := fun h => fX12_lists h 138 (xs (i + 1)) (xs (i + 2))) J (lX11_lists H c (xs (i + 1)) (xs (i + 2))) (fun h => lX12_lists 138 h m (xs (i + 1)) (xs (i + 2))) (op_lists (xs (i + 1)) (xs (i + 2)) J.1 J.2.1 J.2.2.1)
    exact ⟨H2, V2, c1, m2, x2, by rw [eB]; simp only [a1, a2, lift_lt, k_bs, g80, e1, g3, e2, if_true, fin], J2, b1, b2⟩
  rw [if_neg z38] at eB
  by_cases z39 : xs i &&& (63 : Int32) = 39
  · rw [if_pos z39] at eB
    obtain ⟨r, H1, c1, H2, V2, m2, x2, e1, e2, g3, J2, b1, b2⟩ := st_s (F2 := fun h => fX12_image h 138 (xs (i + 1))) J (lX11_image H c (xs (i + 1))) (fun h => lX12_image 138 h m (xs (i + 1))) (op_image (xs (i + 1)) J.1 J.2.1 J.2.2.1)
    exact ⟨H2, V2, c1, m2, x2, by rw [eB]; simp only [a1, lift_lt, k_bs, g80, e1, g3, e2, if_true, fin], J2, b1, b2⟩
  rw [if_neg z39] at eB
  by_cases z40 : xs i &&& (63 : Int32) = 40
  · rw [if_pos z40] at eB
    obtain ⟨r, H1, c1, H2, V2, m2, x2, e1, e2, g3, J2, b1, b2⟩ := st_s (F2 := fun h => fX12_restore h 138 (xs (i + 1))) J (lX11_restore H c (xs (i + 1))) (fun h => lX12_restore 138 h m (xs (i + 1))) (op_restore (xs (i + 1)) J.1 J.2.1 J.2.2.1)
    exact ⟨H2, V2, c1, m2, x2, by rw [eB]; simp only [a1, lift_lt, k_bs, g80, e1, g3, e2, if_true, fin], J2, b1, b2⟩
  rw [if_neg z40] at eB
  by_cases z41 : xs i &&& (63 : Int32) = 41
  · rw [if_pos z41] at eB
    obtain ⟨r, H2, V2, m2, x2, e1, e2, J2, b1, b2⟩ := st_q (F2 := fun h => fX12_count h 138 (xs (i + 1))) J (lX11_count H c (xs (i + 1))) (fun h => lX12_count 138 h m (xs (i + 1))) (op_count (xs (i + 1)) J.1 J.2.1 J.2.2.1)
    exact ⟨H2, V2, c, m2, x2, by rw [eB]; simp only [a1, k_bs, g80, e1, g38, e2, if_true, fin], J2, b1, b2⟩
  rw [if_neg z41] at eB
  refine ⟨H, V, c, m, x, by rw [eB, fin], ⟨RC_T (by omega) J.1, J.2⟩, by omega, by omega⟩
theorem lt6 : ∀ N, N < 6 → ∀ i, i < 6 → nI N - nI 6 < nI i := by decide
theorem law_run {N : Nat} (xs : Nat → Int32) (hN : N ≤ 3072) : ∀ k i T H V c m x, N < i + 6 * (k + 1) → i ≤ N → T + k ≤ 1000 → Jn T H V c m x → ∃ h', fL_law_18 N xs (cput H c) 80 138 (nI i) = some (1, h') ∧ h'.1 ≤ H.1 + 904 * k ∧ h'.2.1 ≤ H.2.1 + 1121 * k := by
  have stop : ∀ i H c, i ≤ N → ¬ i + 6 ≤ N → fL_law_18 N xs (cput H c) 80 138 (nI i) = some (1, cput H c) := fun i H c hi h6 => by
    have lt : Int32.ofNat N - (6 : Int32) < nI i := by
      show nI N - nI 6 < nI i
      by_cases q : 6 ≤ N
      · rw [pk_sub q, nI_ltI (by omega) (by omega)]
        omega
      · exact lt6 N (by omega) i (by omega)
    have eb : fL_law_18b N xs (cput H c) 80 138 (nI i) = some (.inr (1, cput H c)) := by
      unfold fL_law_18b
      rw [if_pos lt]
    unfold fL_law_18
    exact lpw_r eb
  intro k
  induction k with
  | zero =>
    intro i T H V c m x h1 h2 h3 J
    exact ⟨_, stop i H c h2 (by omega), by show H.1 ≤ _; omega, by show H.2.1 ≤ _; omega⟩
  | succ k ih =>
    intro i T H V c m x h1 h2 h3 J
    by_cases h6 : i + 6 ≤ N
    · obtain ⟨H', V', c', m', x', e, J', b1, b2⟩ := law_step J (by omega) xs hN h6
      obtain ⟨h', e', b3, b4⟩ := ih (i + 6) (T + 1) H' V' c' m' x' (by omega) h6 (by omega) J'
      refine ⟨h', ?_, by omega, by omega⟩
      rw [← e']
      unfold fL_law_18
      exact lpw_l e
    · exact ⟨_, stop i H c h2 h6, by show H.1 ≤ _; omega, by show H.2.1 ≤ _; omega⟩
end LWX
