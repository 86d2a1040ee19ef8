/-! cells made anew behind those of the class -/
theorem cdom_r {a : Nat} (h : 138 ≤ a) : cdom a = false := by
  unfold cdom
  have : decide (a < 138) = false := decide_eq_false (by omega)
  rw [this, Bool.and_false, Bool.false_and]
theorem cput_new {h : Hp} {c : Ch} {n : Nat} {x : Cl} (hh : 162 ≤ h.1) : hp_new (cput h c) n x = cput (hp_new h n x) c := by
  unfold hp_new cput
  refine Prod.ext rfl (Prod.ext rfl ?_)
  funext j
  show (if j = h.1 then some x else if cdom j = true then some (cell c j) else h.2.2 j) = (if cdom j = true then some (cell c j) else if j = h.1 then some x else h.2.2 j)
  by_cases z : j = h.1
  · rw [if_pos z, if_pos z, if_neg (by rw [cdom_r (by omega)]; decide)]
  · rw [if_neg z, if_neg z]
theorem cput_setr {h : Hp} {c : Ch} {a : Nat} {x : Cl} (ha : 138 ≤ a) : hp_set (cput h c) a x = cput (hp_set h a x) c := by
  unfold hp_set cput
  refine Prod.ext rfl (Prod.ext rfl ?_)
  funext j
  show (if j = a then some x else if cdom j = true then some (cell c j) else h.2.2 j) = (if cdom j = true then some (cell c j) else if j = a then some x else h.2.2 j)
  by_cases z : j = a
  · rw [if_pos z, if_pos z, if_neg (by rw [cdom_r (by omega)]; decide)]
  · rw [if_neg z, if_neg z]
theorem cput_getr {h : Hp} {c : Ch} {a : Nat} (ha : 138 ≤ a) : (cput h c).2.2 a = h.2.2 a := if_neg (by rw [cdom_r ha]; decide)
/-- more room is taken, nothing that was there is changed -/
def hgr (h h' : Hp) : Prop := h.1 ≤ h'.1 ∧ h.2.1 ≤ h'.2.1 ∧ ∀ a, a < h.1 → h'.2.2 a = h.2.2 a
theorem hgr_rfl (h : Hp) : hgr h h := ⟨Nat.le_refl _, Nat.le_refl _, fun _ _ => rfl⟩
theorem hgr_tr {h h' h'' : Hp} (g : hgr h h') (g' : hgr h' h'') : hgr h h'' := ⟨Nat.le_trans g.1 g'.1, Nat.le_trans g.2.1 g'.2.1, fun a ha => (g'.2.2 a (by have := g.1; omega)).trans (g.2.2 a ha)⟩
/-- what is there lies below the next cell -/
def hok (h : Hp) : Prop := 162 ≤ h.1 ∧ ∀ a, h.1 ≤ a → h.2.2 a = none
theorem hgr_fr {h h' : Hp} (ho : hok h) (g : hgr h h') : ∀ a, fre a → ∀ c, h.2.2 a = some c → h'.2.2 a = some c := fun a _ c hc => by
  by_cases z : a < h.1
  · rw [g.2.2 a z]; exact hc
  · rw [ho.2 a (by omega)] at hc; cases hc
theorem hok_new {h : Hp} {n : Nat} {x : Cl} (ho : hok h) : hok (hp_new h n x) := ⟨by have := ho.1; show 162 ≤ h.1 + 1; omega, fun a ha => by
  have ha : h.1 + 1 ≤ a := ha
  show (if a = h.1 then some x else h.2.2 a) = none
  rw [if_neg (by omega)]
  exact ho.2 a (by omega)⟩
theorem hgr_new {h : Hp} {n : Nat} {x : Cl} : hgr h (hp_new h n x) := ⟨Nat.le_succ _, Nat.le_add_right _ _, fun a ha => if_neg (by omega)⟩
/-- a copy of the first len of an int row of the class -/
theorem c_copyOf {h : Hp} {c : Ch} {r n len : Nat} (ho : hok h) (hr : cdom r = true) (hc : cell c r = .inl (0, n, .inl (c.2.2.2.1 r))) (hn : n < 2 ^ 20) (hl : len ≤ n) :
    ∃ f : Nat → Int32, fJ7_copyOf_59c91 (cput h c) r (nI len) = some (h.1, cput (hp_new h len (.inl (0, len, .inl f))) c) ∧ ∀ k, k < len → f k = c.2.2.2.1 r k := by
  have hget : (cput h c).2.2 r = some (.inl (0, n, .inl (c.2.2.2.1 r))) := by rw [cput_at h c hr, hc]
  have aLr : aL (cput h c) r = some (nI n) := by
    unfold aL
    rw [hget]
    rfl
  unfold fJ7_copyOf_59c91
  by_cases z : len = n
  · subst z
    refine ⟨c.2.2.2.1 r, ?_, fun k _ => rfl⟩
    have e1 : cln (cput h c) r = some (cput (hp_new h len (.inl (0, len, .inl (c.2.2.2.1 r)))) c) := by
      unfold cln
      rw [hget]
      show (if 0 = 0 then some (hp_new (cput h c) len (.inl (0, len, .inl (c.2.2.2.1 r)))) else none) = _
      rw [if_pos rfl, cput_new ho.1]
    have e2 : ∀ e : Option (Nat × Hp), gA (cput (hp_new h len (.inl (0, len, .inl (c.2.2.2.1 r)))) c) h.1 e = e := fun e => by
      unfold gA
      rw [cput_getr (by have := ho.1; omega)]
      show (match (if h.1 = h.1 then some (.inl (0, len, .inl (c.2.2.2.1 r))) else h.2.2 h.1 : Option Cl) with | some (.inl (t', _, .inl _)) => if t' = 0 then e else none | _ => none) = e
      rw [if_pos rfl]
      rfl
    have e3 : (cput h c).1 = h.1 := rfl
    simp (disch := omega) only [n_lit, n_of, n_o1, nI_add, pk_mul, nI_ltI, nI_leI, nI_eq, ↓lift_lt, ↓k_mt, ↓k_mp, if_true, if_false, Bool.false_eq_true, Nat.not_lt_zero, Nat.zero_le, Nat.reduceEqDiff, Nat.reduceLeDiff, Nat.reduceLT, aLr, e1, e2, e3]
  · obtain ⟨h1, eh1⟩ : ∃ h1, h1 = hp_new h len (.inl (0, len, .inl (fun _ => 0))) := ⟨_, rfl⟩
    have ha := ho.1
    have lt : (nI len).toNatClampNeg = len := nI_clamp (by omega)
    have e1 : nA 0 (cput h c) (nI len) = some (cput h1 c) := by
      unfold nA
      have n0 : ¬ nI len < 0 := by
        show ¬ nI len < nI 0
        rw [nI_ltI (by omega) (by omega)]
        omega
      rw [lt, if_pos ⟨n0, by omega⟩, eh1, ← cput_new ho.1]
      rfl
    have hget1 : (cput h1 c).2.2 r = some (.inl (0, n, .inl (c.2.2.2.1 r))) := by rw [cput_at h1 c hr, hc]
    have aLr1 : aL (cput h1 c) r = some (nI n) := by
      unfold aL
      rw [hget1]
      rfl
    have new1 : (cput h1 c).2.2 h.1 = some (.inl (0, len, .inl (fun _ => 0))) := by
      rw [cput_getr (by omega), eh1]
      exact if_pos rfl
    have mn : imin (nI n) (nI len) = nI len := by
      unfold imin
      by_cases q : len < n
      · rw [if_pos ((nI_ltI (by omega) (by omega)).mpr q)]
      · omega
    have e2 : acp (cput h1 c) r (nI 0) h.1 (nI 0) (nI len) = some (cput (hp_set h1 h.1 (.inl (0, len, .inl (va_cpy (c.2.2.2.1 r) (fun _ => 0) 0 0 len)))) c) := by
      unfold acp
      rw [hget1]
      show (match (cput h1 c).2.2 h.1 with | some (.inl (t1, n1, .inl g)) => _ | _ => none) = _
      rw [new1]
      have z0 : ¬ nI 0 < 0 := by decide
      have zl : ¬ nI len < 0 := by
        show ¬ nI len < nI 0
        rw [nI_ltI (by omega) (by omega)]
        omega
      have c0 : (nI 0).toNatClampNeg = 0 := nI_clamp (by decide)
      show (if (0 = 0 ∧ 0 = 0) ∧ ¬ nI 0 < 0 ∧ ¬ nI 0 < 0 ∧ ¬ nI len < 0 ∧ (nI 0).toNatClampNeg + (nI len).toNatClampNeg ≤ n ∧ (nI 0).toNatClampNeg + (nI len).toNatClampNeg ≤ len then some (hp_set (cput h1 c) h.1 (.inl (0, len, .inl (va_cpy (c.2.2.2.1 r) (fun _ => 0) (nI 0).toNatClampNeg (nI 0).toNatClampNeg (nI len).toNatClampNeg)))) else none) = _
      rw [lt, c0, if_pos ⟨⟨rfl, rfl⟩, z0, z0, zl, by omega, by omega⟩, cput_setr (by omega)]
    have e3 : (cput h c).1 = h.1 := rfl
    have hs : hp_set h1 h.1 (.inl (0, len, .inl (va_cpy (c.2.2.2.1 r) (fun _ => 0) 0 0 len))) = hp_new h len (.inl (0, len, .inl (va_cpy (c.2.2.2.1 r) (fun _ => 0) 0 0 len))) := by
      rw [eh1]
      unfold hp_set hp_new
      refine Prod.ext rfl (Prod.ext rfl ?_)
      funext j
      show (if j = h.1 then some _ else if j = h.1 then some _ else h.2.2 j) = (if j = h.1 then some _ else h.2.2 j)
      by_cases q : j = h.1
      · rw [if_pos q, if_pos q]
      · rw [if_neg q, if_neg q, if_neg q]
    rw [hs] at e2
    refine ⟨va_cpy (c.2.2.2.1 r) (fun _ => 0) 0 0 len, ?_, fun k hk => ?_⟩
    · simp (disch := omega) only [n_lit, n_of, n_o1, nI_add, pk_mul, nI_ltI, nI_leI, nI_eq, ↓lift_lt, ↓k_mt, ↓k_mp, if_true, if_false, Bool.false_eq_true, Nat.not_lt_zero, Nat.zero_le, Nat.reduceEqDiff, Nat.reduceLeDiff, Nat.reduceLT, aLr, z, e1, aLr1, mn, e2, e3]
    · show (if 0 ≤ k ∧ k < 0 + len then c.2.2.2.1 r (0 + (k - 0)) else (0 : Int32)) = c.2.2.2.1 r k
      rw [if_pos (by omega), Nat.zero_add, Nat.sub_zero]
/-- a law of what the parser has put -/
theorem c_newLaw {h : Hp} {c : Ch} {len : Nat} (ho : hok h) (hl : len ≤ 900) : ∃ h', fX3_init (nO (cput h c) 3 1) h.1 85 (nI len) = some (cput h' c) ∧ hok h' ∧ hgr h h' ∧ h'.1 = h.1 + 2 ∧ h'.2.1 = h.2.1 + 1 + len ∧ ∀ code : List Nat, code.length = len → (∀ k, k < len → c.2.2.2.1 85 k = cco (code.getD k 0)) → LawAt h' (some h.1) (some code) := by
  obtain ⟨h1, eh1⟩ : ∃ h1, h1 = hp_new h 1 (.inr (3, dfl 3 1)) := ⟨_, rfl⟩
  have e1 : nO (cput h c) 3 1 = cput h1 c := by
    rw [eh1, ← cput_new ho.1]
    rfl
  have ho1 : hok h1 := by rw [eh1]; exact hok_new ho
  have h11 : h1.1 = h.1 + 1 := by rw [eh1]; rfl
  have h12 : h1.2.1 = h.2.1 + 1 := by rw [eh1]; rfl
  obtain ⟨f, e2, hf⟩ := c_copyOf (h := h1) (c := c) (r := 85) (n := 900) (len := len) ho1 rfl rfl (by decide) hl
  obtain ⟨h2, eh2⟩ : ∃ h2, h2 = hp_new h1 len (.inl (0, len, .inl f)) := ⟨_, rfl⟩
  rw [← eh2, h11] at e2
  have ha := ho.1
  have g2 : h2.2.2 h.1 = some (.inr (3, dfl 3 1)) := by
    rw [eh2]
    show (if h.1 = h1.1 then _ else h1.2.2 h.1) = _
    rw [if_neg (by omega), eh1]
    exact if_pos rfl
  have g3 : h2.2.2 (h.1 + 1) = some (.inl (0, len, .inl f)) := by
    rw [eh2]
    show (if h.1 + 1 = h1.1 then _ else _) = _
    rw [if_pos h11.symm]
  obtain ⟨h3, eh3⟩ : ∃ h3, h3 = hp_set h2 h.1 (.inr (3, [.ref (h.1 + 1)])) := ⟨_, rfl⟩
  have e3 : sV (cput h2 c) 3 h.1 0 (.ref (h.1 + 1)) = some (cput h3 c) := by
    unfold sV
    rw [cput_getr (by omega), g2]
    show (if 3 = 3 then some (hp_set (cput h2 c) h.1 (.inr (3, (dfl 3 1).set 0 (.ref (h.1 + 1))))) else none) = _
    rw [if_pos rfl, cput_setr (by omega), eh3]
    rfl
  have n3 : h3.1 = h.1 + 2 := by rw [eh3]; show h2.1 = _; rw [eh2]; show h1.1 + 1 = _; rw [h11]
  have o3 : ∀ a, ¬ a = h.1 → ¬ a = h.1 + 1 → h3.2.2 a = h.2.2 a := fun a q1 q2 => by
    rw [eh3]
    show (if a = h.1 then _ else h2.2.2 a) = _
    rw [if_neg q1, eh2]
    show (if a = h1.1 then _ else h1.2.2 a) = _
    rw [if_neg (by omega), eh1]
    exact if_neg q1
  refine ⟨h3, ?_, ⟨by omega, fun a q => by rw [o3 a (by omega) (by omega)]; exact ho.2 a (by omega)⟩, ⟨by omega, ?_, fun a q => o3 a (by omega) (by omega)⟩, n3, ?_, fun code hc hk => ?_⟩
  · unfold fX3_init
    rw [e1]
    simp (disch := omega) only [n_lit, n_of, n_o1, nI_add, pk_mul, nI_ltI, nI_leI, nI_eq, ↓lift_lt, ↓k_mt, ↓k_mp, if_true, if_false, Bool.false_eq_true, Nat.not_lt_zero, Nat.zero_le, Nat.reduceEqDiff, Nat.reduceLeDiff, Nat.reduceLT, e2, e3]
  · rw [eh3]
    show h.2.1 ≤ h2.2.1
    rw [eh2]
    show h.2.1 ≤ h1.2.1 + len
    omega
  · rw [eh3]
    show h2.2.1 = _
    rw [eh2]
    show h1.2.1 + len = _
    rw [h12]
  · subst hc
    refine ⟨h.1, h.1 + 1, f, rfl, Or.inr (by omega), Or.inr (by omega), ?_, ?_, fun k hk' => ?_⟩
    · rw [eh3]; exact if_pos rfl
    · rw [eh3]
      show (if h.1 + 1 = h.1 then _ else h2.2.2 (h.1 + 1)) = _
      rw [if_neg (by omega)]
      exact g3
    · rw [hf k hk', hk k hk', List.getD_eq_getElem?_getD, List.getElem?_eq_getElem hk']
      rfl
