/-! the class: cells written at natural places; frames; caves in the rest of the heap -/
def cS (c : Ch) (r i : Nat) (x : Int32) : Ch := (c.1, c.2.1, c.2.2.1, u2 c.2.2.2.1 r i x, c.2.2.2.2)
def cSJ (c : Ch) (r i : Nat) (x : Int64) : Ch := (c.1, c.2.1, c.2.2.1, c.2.2.2.1, u2 c.2.2.2.2.1 r i x, c.2.2.2.2.2)
theorem u2_a {α : Type} (f : Nat → Nat → α) (r k : Nat) (v : α) (q j : Nat) : u2 f r k v q j = if q = r then (if j = k then v else f r j) else f q j := by
  show (if q = r then (fun i => if i = k then v else f r i) else f q) j = _
  split <;> rfl
theorem cS_1 (c : Ch) (r i : Nat) (x : Int32) : (cS c r i x).1 = c.1 := by
  have e : (cS c r i x).1 = c.1 := rfl
  exact e
theorem cS_2 (c : Ch) (r i : Nat) (x : Int32) : (cS c r i x).2.1 = c.2.1 := by
  have e : (cS c r i x).2.1 = c.2.1 := rfl
  exact e
theorem cS_3 (c : Ch) (r i : Nat) (x : Int32) : (cS c r i x).2.2.1 = c.2.2.1 := by
  have e : (cS c r i x).2.2.1 = c.2.2.1 := rfl
  exact e
theorem cS_4 (c : Ch) (r i : Nat) (x : Int32) (q j : Nat) : (cS c r i x).2.2.2.1 q j = if q = r then (if j = i then x else c.2.2.2.1 r j) else c.2.2.2.1 q j := u2_a _ _ _ _ _ _
theorem cS_5 (c : Ch) (r i : Nat) (x : Int32) : (cS c r i x).2.2.2.2 = c.2.2.2.2 := by
  have e : (cS c r i x).2.2.2.2 = c.2.2.2.2 := rfl
  exact e
theorem cS_r (c : Ch) (r i : Nat) (x : Int32) : (cS c r i x).2.2.2.1 r = fun j => if j = i then x else c.2.2.2.1 r j := u2_eq _ _
theorem cS_n (c : Ch) {r i : Nat} {x : Int32} {q : Nat} (h : ¬ q = r) : (cS c r i x).2.2.2.1 q = c.2.2.2.1 q := u2_ne _ _ h
theorem cI_1 (c : Ch) (r i : Nat) (x : Int32) (q j : Nat) : (cI c r i x).1 q j = if q = r then (if j = i then x else c.1 r j) else c.1 q j := u2_a _ _ _ _ _ _
theorem cI_n (c : Ch) {r i : Nat} {x : Int32} {q : Nat} (h : ¬ q = r) : (cI c r i x).1 q = c.1 q := u2_ne _ _ h
theorem cI_2 (c : Ch) (r i : Nat) (x : Int32) : (cI c r i x).2 = c.2 := by
  have e : (cI c r i x).2 = c.2 := rfl
  exact e
theorem cJ_1 (c : Ch) (r i : Nat) (x : Int64) : (cJ c r i x).1 = c.1 := by
  have e : (cJ c r i x).1 = c.1 := rfl
  exact e
theorem cJ_2 (c : Ch) (r i : Nat) (x : Int64) (q j : Nat) : (cJ c r i x).2.1 q j = if q = r then (if j = i then x else c.2.1 r j) else c.2.1 q j := u2_a _ _ _ _ _ _
theorem cJ_3 (c : Ch) (r i : Nat) (x : Int64) : (cJ c r i x).2.2 = c.2.2 := by
  have e : (cJ c r i x).2.2 = c.2.2 := rfl
  exact e
theorem cR_1 (c : Ch) (r i : Nat) (x : Option Nat) : (cR c r i x).1 = c.1 := by
  have e : (cR c r i x).1 = c.1 := rfl
  exact e
theorem cR_2 (c : Ch) (r i : Nat) (x : Option Nat) : (cR c r i x).2.1 = c.2.1 := by
  have e : (cR c r i x).2.1 = c.2.1 := rfl
  exact e
theorem cR_3 (c : Ch) (r i : Nat) (x : Option Nat) (q j : Nat) : (cR c r i x).2.2.1 q j = if q = r then (if j = i then x else c.2.2.1 r j) else c.2.2.1 q j := u2_a _ _ _ _ _ _
theorem cR_4 (c : Ch) (r i : Nat) (x : Option Nat) : (cR c r i x).2.2.2 = c.2.2.2 := by
  have e : (cR c r i x).2.2.2 = c.2.2.2 := rfl
  exact e
theorem cSJ_1 (c : Ch) (r i : Nat) (x : Int64) : (cSJ c r i x).1 = c.1 := by
  have e : (cSJ c r i x).1 = c.1 := rfl
  exact e
theorem cSJ_2 (c : Ch) (r i : Nat) (x : Int64) : (cSJ c r i x).2.1 = c.2.1 := by
  have e : (cSJ c r i x).2.1 = c.2.1 := rfl
  exact e
theorem cSJ_3 (c : Ch) (r i : Nat) (x : Int64) : (cSJ c r i x).2.2.1 = c.2.2.1 := by
  have e : (cSJ c r i x).2.2.1 = c.2.2.1 := rfl
  exact e
theorem cSJ_4 (c : Ch) (r i : Nat) (x : Int64) : (cSJ c r i x).2.2.2.1 = c.2.2.2.1 := by
  have e : (cSJ c r i x).2.2.2.1 = c.2.2.2.1 := rfl
  exact e
theorem cSJ_5 (c : Ch) (r i : Nat) (x : Int64) (q j : Nat) : (cSJ c r i x).2.2.2.2.1 q j = if q = r then (if j = i then x else c.2.2.2.2.1 r j) else c.2.2.2.2.1 q j := u2_a _ _ _ _ _ _
theorem cSJ_6 (c : Ch) (r i : Nat) (x : Int64) : (cSJ c r i x).2.2.2.2.2 = c.2.2.2.2.2 := by
  have e : (cSJ c r i x).2.2.2.2.2 = c.2.2.2.2.2 := rfl
  exact e
theorem cA_g (c : Ch) {r n i : Nat} (h : i < n) (hn : n < 2 ^ 31) : cA c r n (nI i) = some (c.2.2.2.1 r i) := by
  unfold cA
  rw [if_pos (inB_nI h hn), nI_clamp (by omega)]
theorem cL_g (c : Ch) {r n i : Nat} (h : i < n) (hn : n < 2 ^ 31) : cL c r n (nI i) = some (c.2.2.2.2.1 r i) := by
  unfold cL
  rw [if_pos (inB_nI h hn), nI_clamp (by omega)]
theorem cW0_g (c : Ch) {r n i : Nat} (x : Int32) (h : i < n) (hn : n < 2 ^ 31) : cWA c 0 r n (nI i) x = some (cS c r i x) := by
  unfold cWA
  rw [if_pos (inB_nI h hn), nI_clamp (by omega)]
  rfl
theorem cW1_g (c : Ch) {r n i : Nat} (x : Int32) (h : i < n) (hn : n < 2 ^ 31) : cWA c 1 r n (nI i) x = some (cS c r i (x.toInt8.toInt32)) := by
  unfold cWA
  rw [if_pos (inB_nI h hn), nI_clamp (by omega)]
  rfl
theorem cWL_g (c : Ch) {r n i : Nat} (x : Int64) (h : i < n) (hn : n < 2 ^ 31) : cWL c r n (nI i) x = some (cSJ c r i x) := by
  unfold cWL
  rw [if_pos (inB_nI h hn), nI_clamp (by omega)]
  rfl
/-- all but some rows of ints are as they were -/
def cfr (A : Nat → Bool) (c c' : Ch) : Prop := c'.1 = c.1 ∧ c'.2.1 = c.2.1 ∧ c'.2.2.1 = c.2.2.1 ∧ (∀ r, A r = false → c'.2.2.2.1 r = c.2.2.2.1 r) ∧ c'.2.2.2.2 = c.2.2.2.2
theorem cfr_rfl (A : Nat → Bool) (c : Ch) : cfr A c c := ⟨rfl, rfl, rfl, fun _ _ => rfl, rfl⟩
theorem cfr_tr {A : Nat → Bool} {c c' c'' : Ch} (h : cfr A c c') (h' : cfr A c' c'') : cfr A c c'' := ⟨h'.1.trans h.1, h'.2.1.trans h.2.1, h'.2.2.1.trans h.2.2.1, fun r hr => (h'.2.2.2.1 r hr).trans (h.2.2.2.1 r hr), h'.2.2.2.2.trans h.2.2.2.2⟩
theorem cfr_S {A : Nat → Bool} {c c' : Ch} {r i : Nat} {x : Int32} (h : cfr A c c') (hr : A r = true) : cfr A c (cS c' r i x) :=
  ⟨h.1, h.2.1, h.2.2.1, fun q hq => by rw [cS_n c' (fun e => by rw [e, hr] at hq; cases hq)]; exact h.2.2.2.1 q hq, h.2.2.2.2⟩
theorem cfr_le {A B : Nat → Bool} {c c' : Ch} (h : cfr A c c') (hAB : ∀ r, B r = false → A r = false) : cfr B c c' := ⟨h.1, h.2.1, h.2.2.1, fun r hr => h.2.2.2.1 r (hAB r hr), h.2.2.2.2⟩
/-! caves, laws -/
def fre (a : Nat) : Prop := (86 ≤ a ∧ a < 90) ∨ 162 ≤ a
theorem fre_d {a : Nat} (h : fre a) : cdom a = false := by
  unfold cdom
  rcases h with h | h
  · have e1 : decide (86 ≤ a) = true := decide_eq_true h.1
    have e2 : decide (a < 90) = true := decide_eq_true h.2
    rw [e1, e2]
    simp
  · have e1 : decide (a < 138) = false := decide_eq_false (by omega)
    rw [e1]
    simp
theorem cput_fre {a : Nat} (hf : fre a) (h : Hp) (c : Ch) : (cput h c).2.2 a = h.2.2 a := by
  show (if cdom a = true then _ else _) = _
  rw [if_neg (by rw [fre_d hf]; decide)]
theorem mput_fre {a : Nat} (hf : fre a) (h : Hp) (m : Mu) : (mput 138 h m).2.2 a = h.2.2 a := by
  show (if 138 ≤ a ∧ a < 138 + 24 then _ else _) = _
  rw [if_neg (by rcases hf with q | q <;> omega)]
section FCELL
variable {h : Hp} {a : Nat}
theorem gI_c (c : Ch) {ci k : Nat} {fs : List Value} {v : Int32} (hf : fre a) (e : h.2.2 a = some (.inr (ci, fs))) (hk : fs[k]? = some (.int v)) : gI (cput h c) ci a k = some v := by
  unfold gI gV
  rw [cput_fre hf, e]
  show (match (if ci = ci then fs[k]? else none) with | some (.int v) => some v | _ => none) = _
  rw [if_pos rfl, hk]
theorem gN_c (c : Ch) {ci k : Nat} {fs : List Value} {v : Nat} (hf : fre a) (e : h.2.2 a = some (.inr (ci, fs))) (hk : fs[k]? = some (.ref v)) : gN (cput h c) ci a k = some v := by
  unfold gN gV
  rw [cput_fre hf, e]
  show (match (if ci = ci then fs[k]? else none) with | some (.ref v) => some v | _ => none) = _
  rw [if_pos rfl, hk]
theorem gR_c (c : Ch) {ci k : Nat} {fs : List Value} {o : Option Nat} (hf : fre a) (e : h.2.2 a = some (.inr (ci, fs))) (hk : fs[k]? = some (va_rf o)) : gR (cput h c) ci a k = some o := by
  unfold gR gV
  rw [cput_fre hf, e]
  show (match (if ci = ci then fs[k]? else none) with | some (.ref v) => some (some v) | some .null => some none | _ => none) = _
  rw [if_pos rfl, hk]
  cases o <;> rfl
theorem gO_c {α : Type} (c : Ch) {ci : Nat} {fs : List Value} (x : Option α) (hf : fre a) (e : h.2.2 a = some (.inr (ci, fs))) : gO (cput h c) ci a x = x := by
  unfold gO
  rw [cput_fre hf, e]
  exact if_pos rfl
theorem aL_c (c : Ch) {n : Nat} {f : Nat → Int32} (hf : fre a) (e : h.2.2 a = some (.inl (0, n, .inl f))) : aL (cput h c) a = some (nI n) := by
  unfold aL
  rw [cput_fre hf, e]
  rfl
theorem aI_c (c : Ch) {n i : Nat} {f : Nat → Int32} (hf : fre a) (e : h.2.2 a = some (.inl (0, n, .inl f))) (hi : i < n) (hn : n < 2 ^ 31) : aI 0 (cput h c) a (nI i) = some (f i) := by
  unfold aI
  rw [cput_fre hf, e]
  show (if 0 = 0 ∧ inB (nI i) n = true then some (f (nI i).toNatClampNeg) else none) = _
  rw [if_pos ⟨rfl, inB_nI hi hn⟩, nI_clamp (by omega)]
end FCELL
/-- a law's code as the class has it -/
def cco (n : Nat) : Int32 := if n < 1000 then nI n else if n < 3000 then -nI (n - 999) else if n = 3006 then -nI 19 else if n = 3007 then -nI 17 else if n = 3008 then -nI 18 else if n = 3009 then -nI 20 else -nI (n - 2989)
def LawAt (h : Hp) (o : Option Nat) : Option (List Nat) → Prop
  | none => o = none
  | some code => ∃ n a f, o = some n ∧ fre n ∧ fre a ∧ h.2.2 n = some (.inr (3, [.ref a])) ∧ h.2.2 a = some (.inl (0, code.length, .inl f)) ∧ ∀ k (hk : k < code.length), f k = cco code[k]
def isLb (P D l : Nat) : Bool := decide (l < 5 ^ P) && (decide (P = 0) || decide (dsum P l = D))
def leadL (P D : Nat) : List Nat := (List.range 625).filter (isLb P D)
def nL (v : Cv) : Nat := (leadL (vP v) (vD v)).length
def ld (v : Cv) (i : Nat) : Nat := (leadL (vP v) (vD v)).getD i 0
theorem isLb_iff (P D l : Nat) : isLb P D l = true ↔ isL P D l := by
  unfold isLb isL
  simp only [Bool.and_eq_true, Bool.or_eq_true, decide_eq_true_eq]
  constructor
  · rintro ⟨a, b⟩
    exact ⟨a, fun hp => b.resolve_left (by omega)⟩
  · rintro ⟨a, b⟩
    exact ⟨a, (Nat.eq_zero_or_pos P).imp id b⟩
theorem leadL_all : ∀ P : Fin 5, ∀ D : Fin 5, 0 < (leadL P.1 D.1).length ∧ (leadL P.1 D.1).length ≤ 35 := by decide +kernel
theorem leadL_b {P D : Nat} (hP : P < 5) (hD : D < 5) : 0 < (leadL P D).length ∧ (leadL P D).length ≤ 35 := by
  have h := leadL_all ⟨P, hP⟩ ⟨D, hD⟩
  generalize (leadL P D).length = n at h ⊢
  exact h
theorem nL_b {v : Cv} (hW : wV v) : 0 < nL v ∧ nL v ≤ 35 := by
  have h := leadL_b (P := vP v) (D := vD v) (by have := hW.1; omega) (by have := hW.2.1; omega)
  unfold nL
  generalize (leadL (vP v) (vD v)).length = n at h ⊢
  exact h
theorem ld_isL {v : Cv} {i : Nat} (hi : i < nL v) : isL (vP v) (vD v) (ld v i) ∧ ld v i < 625 := by
  have hm : ld v i ∈ leadL (vP v) (vD v) := by
    unfold ld
    rw [List.getD_eq_getElem?_getD, List.getElem?_eq_getElem hi]
    exact List.getElem_mem hi
  unfold leadL at hm
  rw [List.mem_filter] at hm
  exact ⟨(isLb_iff _ _ _).mp hm.2, List.mem_range.mp hm.1⟩
theorem isL_ld {v : Cv} (hP : vP v ≤ 4) {l : Nat} (h : isL (vP v) (vD v) l) : ∃ i, i < nL v ∧ ld v i = l := by
  have hm : l ∈ leadL (vP v) (vD v) := by
    unfold leadL
    rw [List.mem_filter]
    have := pow5_le hP
    exact ⟨List.mem_range.mpr (by have := h.1; omega), (isLb_iff _ _ _).mpr h⟩
  obtain ⟨i, hi, e⟩ := List.getElem_of_mem hm
  exact ⟨i, hi, by unfold ld; rw [List.getD_eq_getElem?_getD, List.getElem?_eq_getElem hi, Option.getD_some, e]⟩
def CaveAt (h : Hp) (a : Nat) (v : Cv) : Prop := fre a ∧ ∃ og of_ la sa fl fs, h.2.2 a = some (.inr (0, [.int (nI (vP v)), .int (nI (vD v)), .int (nI (vY v)), .int (nI (vN v)), .int (nI (vG v)), .int (nI (vC v)), .int (nI (vL v)), va_rf og, va_rf of_, .ref la, .ref sa])) ∧
  LawAt h og (vg v) ∧ LawAt h of_ (vf v) ∧ fre la ∧ fre sa ∧ h.2.2 la = some (.inl (0, nL v, .inl fl)) ∧ (∀ i, i < nL v → fl i = nI (ld v i)) ∧ h.2.2 sa = some (.inl (0, 4 * nL v, .inl fs)) ∧ ∀ i, i < 4 * nL v → fs i = nI (i % 4 * 5 + d5 (ld v (i / 4)) (i % 4))
theorem LawAt_fr {h h' : Hp} (hh : ∀ a, fre a → ∀ c, h.2.2 a = some c → h'.2.2 a = some c) {o : Option Nat} {gl : Option (List Nat)} (H : LawAt h o gl) : LawAt h' o gl := by
  cases gl with
  | none => exact H
  | some code =>
    obtain ⟨n, a, f, e1, f1, f2, e2, e3, hk⟩ := H
    exact ⟨n, a, f, e1, f1, f2, hh n f1 _ e2, hh a f2 _ e3, hk⟩
theorem CaveAt_fr {h h' : Hp} (hh : ∀ a, fre a → ∀ c, h.2.2 a = some c → h'.2.2 a = some c) {a : Nat} {v : Cv} (H : CaveAt h a v) : CaveAt h' a v := by
  obtain ⟨f0, og, of_, la, sa, fl, fs, e0, l1, l2, f1, f2, e1, k1, e2, k2⟩ := H
  exact ⟨f0, og, of_, la, sa, fl, fs, hh _ f0 _ e0, LawAt_fr hh l1, LawAt_fr hh l2, f1, f2, hh _ f1 _ e1, k1, hh _ f2 _ e2, k2⟩
section CAVE
variable {h : Hp} {a : Nat} {v : Cv}
theorem cv_P (H : CaveAt h a v) (c : Ch) : gI (cput h c) 0 a 0 = some (nI (vP v)) := by
  obtain ⟨f0, og, of_, la, sa, fl, fs, e0, -⟩ := H
  exact gI_c c f0 e0 rfl
theorem cv_D (H : CaveAt h a v) (c : Ch) : gI (cput h c) 0 a 1 = some (nI (vD v)) := by
  obtain ⟨f0, og, of_, la, sa, fl, fs, e0, -⟩ := H
  exact gI_c c f0 e0 rfl
theorem cv_Y (H : CaveAt h a v) (c : Ch) : gI (cput h c) 0 a 2 = some (nI (vY v)) := by
  obtain ⟨f0, og, of_, la, sa, fl, fs, e0, -⟩ := H
  exact gI_c c f0 e0 rfl
theorem cv_N (H : CaveAt h a v) (c : Ch) : gI (cput h c) 0 a 3 = some (nI (vN v)) := by
  obtain ⟨f0, og, of_, la, sa, fl, fs, e0, -⟩ := H
  exact gI_c c f0 e0 rfl
theorem cv_G (H : CaveAt h a v) (c : Ch) : gI (cput h c) 0 a 4 = some (nI (vG v)) := by
  obtain ⟨f0, og, of_, la, sa, fl, fs, e0, -⟩ := H
  exact gI_c c f0 e0 rfl
theorem cv_C (H : CaveAt h a v) (c : Ch) : gI (cput h c) 0 a 5 = some (nI (vC v)) := by
  obtain ⟨f0, og, of_, la, sa, fl, fs, e0, -⟩ := H
  exact gI_c c f0 e0 rfl
theorem cv_L (H : CaveAt h a v) (c : Ch) : gI (cput h c) 0 a 6 = some (nI (vL v)) := by
  obtain ⟨f0, og, of_, la, sa, fl, fs, e0, -⟩ := H
  exact gI_c c f0 e0 rfl
theorem cv_O {α : Type} (H : CaveAt h a v) (c : Ch) (x : Option α) : gO (cput h c) 0 a x = x := by
  obtain ⟨f0, og, of_, la, sa, fl, fs, e0, -⟩ := H
  exact gO_c c x f0 e0
theorem cv_g (H : CaveAt h a v) : ∃ o, (∀ c, gR (cput h c) 0 a 7 = some o) ∧ LawAt h o (vg v) := by
  obtain ⟨f0, og, of_, la, sa, fl, fs, e0, l1, -⟩ := H
  exact ⟨og, fun c => gR_c c f0 e0 rfl, l1⟩
theorem cv_f (H : CaveAt h a v) : ∃ o, (∀ c, gR (cput h c) 0 a 8 = some o) ∧ LawAt h o (vf v) := by
  obtain ⟨f0, og, of_, la, sa, fl, fs, e0, l1, l2, -⟩ := H
  exact ⟨of_, fun c => gR_c c f0 e0 rfl, l2⟩
theorem cv_la (hW : wV v) (H : CaveAt h a v) : ∃ la, (∀ c, gN (cput h c) 0 a 9 = some la) ∧ (∀ c, aL (cput h c) la = some (nI (nL v))) ∧ ∀ c i, i < nL v → aI 0 (cput h c) la (nI i) = some (nI (ld v i)) := by
  obtain ⟨f0, og, of_, la, sa, fl, fs, e0, l1, l2, f1, f2, e1, k1, e2, k2⟩ := H
  have := nL_b hW
  exact ⟨la, fun c => gN_c c f0 e0 rfl, fun c => aL_c c f1 e1, fun c i hi => by rw [aI_c c f1 e1 hi (by omega), k1 i hi]⟩
theorem cv_sa (hW : wV v) (H : CaveAt h a v) : ∃ sa, (∀ c, gN (cput h c) 0 a 10 = some sa) ∧ ∀ c i, i < 4 * nL v → aI 0 (cput h c) sa (nI i) = some (nI (i % 4 * 5 + d5 (ld v (i / 4)) (i % 4))) := by
  obtain ⟨f0, og, of_, la, sa, fl, fs, e0, l1, l2, f1, f2, e1, k1, e2, k2⟩ := H
  have := nL_b hW
  exact ⟨sa, fun c => gN_c c f0 e0 rfl, fun c i hi => by rw [aI_c c f2 e2 hi (by omega), k2 i hi]⟩
end CAVE
/-! digits, sums over pairs -/
theorem c_digit {s p : Nat} (hs : s < 2 ^ 31) (hp : p < 4) : gX11_digit (nI s) (nI p) = some (nI (dg s p)) := by
  have h0 : ¬ p < 0 := by omega
  have h1 : 10 ^ p ≤ 10000 := pow10_le (by omega)
  have h2 : 0 < 10 ^ p := Nat.pow_pos (by decide)
  have h3 : s / 10 ^ p < 2 ^ 31 := Nat.lt_of_le_of_lt (Nat.div_le_self _ _) hs
  unfold gX11_digit gX11_digit_23
  simp (disch := omega) only [n_lit, n_of, n_o1, nI_add, pk_mul, nI_ltI, nI_leI, nI_eq, ↓lift_lt, ↓k_mt, ↓k_mp, if_true, if_false, Bool.false_eq_true, Nat.not_lt_zero, Nat.zero_le, h0, hp, n_tT1, n_dv, n_rm]
  rfl
theorem c_dropsOf {s p : Nat} (hs : s < 2 ^ 31) (hp : p < 4) : gX11_dropsOf (nI s) (nI p) = some (nI (d5 s p)) := by
  have h0 : ¬ p < 0 := by omega
  have h1 : 5 ^ p ≤ 625 := pow5_le (by omega)
  have h2 : 0 < 5 ^ p := Nat.pow_pos (by decide)
  have h3 : s / 5 ^ p < 2 ^ 31 := Nat.lt_of_le_of_lt (Nat.div_le_self _ _) hs
  unfold gX11_dropsOf gX11_dropsOf_22
  simp (disch := omega) only [n_lit, n_of, n_o1, nI_add, pk_mul, nI_ltI, nI_leI, nI_eq, ↓lift_lt, ↓k_mt, ↓k_mp, if_true, if_false, Bool.false_eq_true, Nat.not_lt_zero, Nat.zero_le, h0, hp, n_tT2, n_dv, n_rm]
  rfl
theorem imax_n {a b : Nat} (ha : a < 2 ^ 31) (hb : b < 2 ^ 31) : imax (nI a) (nI b) = nI (if a < b then b else a) := by
  unfold imax
  simp (disch := omega) only [nI_ltI]
  split <;> rfl
theorem imin_n {a b : Nat} (ha : a < 2 ^ 31) (hb : b < 2 ^ 31) : imin (nI a) (nI b) = nI (if b < a then b else a) := by
  unfold imin
  simp (disch := omega) only [nI_ltI]
  split <;> rfl
section CSUM
variable {h : Hp} {a : Nat} {v : Cv} {s : Nat}
theorem c_metCount (H : CaveAt h a v) (hP : vP v ≤ 4) (hs : s < 2 ^ 31) (c : Ch) : fX0_metCount (cput h c) a (nI s) = some (nI (mets (vP v) s)) := by
  unfold fX0_metCount fX0_metCount_4
  have K := lpw_iter (body := fun q : Int32 × Int32 => fX0_metCount_4b (cput h c) a (nI s) q.1 q.2) (fun k => (nI (mets k s), nI k)) (vP v) (nI (mets (vP v) s)) ?_ ?_
  · exact K
  · intro k hk
    have h2 : ¬ vP v ≤ k := by omega
    have h3 := dg_lt s k
    unfold fX0_metCount_4b fX0_metCount_26
    simp (disch := omega) only [n_lit, n_of, n_o1, nI_add, pk_mul, nI_ltI, nI_leI, nI_eq, ↓lift_lt, ↓k_mt, ↓k_mp, if_true, if_false, Bool.false_eq_true, Nat.not_lt_zero, Nat.zero_le, cv_P H, h2, lX11_digit, c_digit]
    show _ = some (Sum.inl (nI (mets k s + (if dg s k = 0 then 1 else 0)), nI (k + 1)))
    by_cases h5 : dg s k = 0
    · rw [if_pos h5, if_pos h5]
    · rw [if_neg h5, if_neg h5]
  · unfold fX0_metCount_4b
    simp (disch := omega) only [n_lit, n_of, n_o1, nI_add, pk_mul, nI_ltI, nI_leI, nI_eq, ↓lift_lt, ↓k_mt, ↓k_mp, if_true, if_false, Bool.false_eq_true, Nat.not_lt_zero, Nat.zero_le, cv_P H, Nat.le_refl]
theorem c_gapSum (H : CaveAt h a v) (hP : vP v ≤ 4) (hs : s < 2 ^ 31) (c : Ch) : fX0_gapSum (cput h c) a (nI s) = some (nI (gsum (vP v) s)) := by
  unfold fX0_gapSum fX0_gapSum_4
  have K := lpw_iter (body := fun q : Int32 × Int32 => fX0_gapSum_4b (cput h c) a (nI s) q.1 q.2) (fun k => (nI (gsum k s), nI k)) (vP v) (nI (gsum (vP v) s)) ?_ ?_
  · exact K
  · intro k hk
    have h2 : ¬ vP v ≤ k := by omega
    unfold fX0_gapSum_4b
    simp (disch := omega) only [n_lit, n_of, n_o1, nI_add, pk_mul, nI_ltI, nI_leI, nI_eq, ↓lift_lt, ↓k_mt, ↓k_mp, if_true, if_false, Bool.false_eq_true, Nat.not_lt_zero, Nat.zero_le, cv_P H, h2, lX11_digit, c_digit]
    rfl
  · unfold fX0_gapSum_4b
    simp (disch := omega) only [n_lit, n_of, n_o1, nI_add, pk_mul, nI_ltI, nI_leI, nI_eq, ↓lift_lt, ↓k_mt, ↓k_mp, if_true, if_false, Bool.false_eq_true, Nat.not_lt_zero, Nat.zero_le, cv_P H, Nat.le_refl]
theorem c_widestGap (H : CaveAt h a v) (hP : vP v ≤ 4) (hs : s < 2 ^ 31) (c : Ch) : fX0_widestGap (cput h c) a (nI s) = some (nI (gwid (vP v) s)) := by
  unfold fX0_widestGap fX0_widestGap_4
  have K := lpw_iter (body := fun q : Int32 × Int32 => fX0_widestGap_4b (cput h c) a (nI s) q.1 q.2) (fun k => (nI (gwid k s), nI k)) (vP v) (nI (gwid (vP v) s)) ?_ ?_
  · exact K
  · intro k hk
    have h2 : ¬ vP v ≤ k := by omega
    have h3 := dg_lt s k
    have h4 := gwid_le k s
    unfold fX0_widestGap_4b
    simp (disch := omega) only [n_lit, n_of, n_o1, nI_add, pk_mul, nI_ltI, nI_leI, nI_eq, ↓lift_lt, ↓k_mt, ↓k_mp, if_true, if_false, Bool.false_eq_true, Nat.not_lt_zero, Nat.zero_le, cv_P H, h2, lX11_digit, c_digit, imax_n]
    rfl
  · unfold fX0_widestGap_4b
    simp (disch := omega) only [n_lit, n_of, n_o1, nI_add, pk_mul, nI_ltI, nI_leI, nI_eq, ↓lift_lt, ↓k_mt, ↓k_mp, if_true, if_false, Bool.false_eq_true, Nat.not_lt_zero, Nat.zero_le, cv_P H, Nat.le_refl]
theorem c_metBits (H : CaveAt h a v) (hP : vP v ≤ 4) (hs : s < 2 ^ 31) (c : Ch) : fX0_metBits (cput h c) a (nI s) = some (nI (metb (vP v) s)) := by
  unfold fX0_metBits fX0_metBits_4
  have K := lpw_iter (body := fun q : Int32 × Int32 => fX0_metBits_4b (cput h c) a (nI s) q.1 q.2) (fun k => (nI (metb k s), nI k)) (vP v) (nI (metb (vP v) s)) ?_ ?_
  · exact K
  · intro k hk
    have h2 : ¬ vP v ≤ k := by omega
    have h3 := dg_lt s k
    have h4 : 1 * 2 ^ k < 2 ^ 32 := by
      have : 2 ^ k ≤ 2 ^ 4 := Nat.pow_le_pow_right (by decide) (by omega)
      omega
    unfold fX0_metBits_4b fX0_metBits_26
    simp (disch := omega) only [n_lit, n_of, n_o1, nI_add, pk_mul, nI_ltI, nI_leI, nI_eq, ↓lift_lt, ↓k_mt, ↓k_mp, if_true, if_false, Bool.false_eq_true, Nat.not_lt_zero, Nat.zero_le, cv_P H, h2, lX11_digit, c_digit, n_or, n_and, n_shlN]
    show _ = some (Sum.inl (nI (metb k s + (if dg s k = 0 then 2 ^ k else 0)), nI (k + 1)))
    by_cases h5 : dg s k = 0
    · rw [if_pos h5, if_pos h5, Nat.or_comm, Nat.one_mul]
      have := Nat.two_pow_add_eq_or_of_lt (metb_lt k s) 1
      rw [Nat.mul_one] at this
      rw [← this, Nat.add_comm]
    · simp only [if_neg h5, Nat.add_zero]
  · unfold fX0_metBits_4b
    simp (disch := omega) only [n_lit, n_of, n_o1, nI_add, pk_mul, nI_ltI, nI_leI, nI_eq, ↓lift_lt, ↓k_mt, ↓k_mp, if_true, if_false, Bool.false_eq_true, Nat.not_lt_zero, Nat.zero_le, cv_P H, Nat.le_refl]
theorem c_kept (x : Int32) : gX1_kept x = some (nI (kN x)) := by
  rw [← (kp_n x).1]
  unfold gX1_kept gX1_kept_14 imin kp
  by_cases h : x < 0
  · rw [if_neg (Int32.not_le.mpr h), if_pos h]
  · rw [if_pos (Int32.not_lt.mp h), if_neg h]
end CSUM
