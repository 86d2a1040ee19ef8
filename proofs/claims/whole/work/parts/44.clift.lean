/-! the class: its fixed cells (80 .. 137, but for the first cave 86 .. 89) as numbers, by addresses -/
abbrev Ch : Type := (Nat → Nat → Int32) × (Nat → Nat → Int64) × (Nat → Nat → Option Nat) × (Nat → Nat → Int32) × (Nat → Nat → Int64) × (Nat → Nat → Option Nat)
def isSt (q : Nat) : Bool := (decide (90 ≤ q) && decide (q < 93)) || (decide (95 ≤ q) && decide (q < 105)) || (decide (136 ≤ q) && decide (q < 138))
def isTr (q : Nat) : Bool := decide (128 ≤ q) && decide (q < 136) && decide (q % 2 = 0)
def isTp (q : Nat) : Bool := decide (128 ≤ q) && decide (q < 136) && decide (q % 2 = 1)
def sadr (j : Nat) : Nat := if j < 3 then 90 + j else if j < 13 then 92 + j else if j < 15 then 123 + j else 90
def tadr (j : Nat) : Nat := if j < 4 then 128 + 2 * j else 128
def yadr (j : Nat) : Nat := if j = 0 then 125 else 126
def wadr (j : Nat) : Nat := if j = 0 then 122 else 123
def cdom (q : Nat) : Bool := decide (80 ≤ q) && decide (q < 138) && !(decide (86 ≤ q) && decide (q < 90))
def cc (q : Nat) (I : Nat → Int32) (J : Nat → Int64) (R : Nat → Option Nat) (A : Nat → Int32) (L : Nat → Int64) (Q : Nat → Option Nat) : Cl :=
  if isSt q = true then .inr (8, [.int (I 0), .int (I 1), .int (I 2), .int (I 3)]) else if isTr q = true then .inr (9, [.ref (q + 1), .int (I 1), .int (I 2), .int (I 3)]) else if isTp q = true then .inl (2, 40, .inr (.inl L))
  else if q = 80 then .inr (11, [.ref 81, .int (I 1), .ref 82, va_rf (R 3), .ref 90, .ref 91, .ref 92, .ref 93, .ref 105, .ref 106, .ref 107, .ref 108, .ref 114, .ref 115, .ref 116, .ref 125, .ref 126, .ref 127, .int (I 18)])
  else if q = 82 then .inr (4, [.ref 83, .ref 85, .int (I 2), .int (I 3), .int (I 4), .int (I 5), .int (I 6), .int (I 7), .int (I 8), .int (I 9), .int (I 10), .int (I 11), .int (I 12), .int (I 13), va_rf (R 14), va_rf (R 15)])
  else if q = 83 then .inr (6, [va_rf (R 0), .int (I 1), .int (I 2), .int (I 3), .int (I 4), .int (I 5)])
  else if q = 93 then .inr (5, [.ref 94, .int (I 1), .int (I 2)])
  else if q = 108 then .inr (1, [.ref 109, .ref 110, .ref 111, .ref 112, .ref 113, va_rf (R 5), .int (I 6)])
  else if q = 114 then .inr (10, [.ref 108, .int (I 1), .int (I 2), .int (I 3), .int (I 4), .int (I 5), .int (I 6)])
  else if q = 115 then .inr (2, [.ref 108, .int (I 1), .int (I 2), .int (I 3), .int (I 4), .int (I 5), .int (I 6), .int (I 7), .long (J 8), .long (J 9), .long (J 10), .long (J 11)])
  else if q = 116 then .inr (7, [.ref 108, va_rf (R 1), .int (I 2), .ref 117, .int (I 4), .ref 118, .ref 119, .ref 120, .ref 121, .ref 122, .ref 123, .ref 124, .int (I 12), .int (I 13), .int (I 14), .int (I 15), .int (I 16)])
  else if q = 81 then .inl (1, 900, .inl A)
  else if q = 84 then .inl (1, 0, .inl A)
  else if q = 85 then .inl (0, 900, .inl A)
  else if q = 109 then .inl (0, 8, .inl A)
  else if q = 110 then .inl (0, 64, .inl A)
  else if q = 111 then .inl (1, 2000, .inl A)
  else if q = 112 then .inl (1, 20000, .inl A)
  else if q = 113 then .inl (0, 20, .inl A)
  else if q = 117 then .inl (0, 20000, .inl A)
  else if q = 118 then .inl (0, 20000, .inl A)
  else if q = 119 then .inl (0, 20000, .inl A)
  else if q = 120 then .inl (0, 20000, .inl A)
  else if q = 121 then .inl (2, 20000, .inr (.inl L))
  else if q = 122 then .inl (0, 35, .inl A)
  else if q = 123 then .inl (0, 35, .inl A)
  else if q = 124 then .inl (0, 10, .inl A)
  else if q = 125 then .inl (0, 4, .inl A)
  else if q = 126 then .inl (0, 4, .inl A)
  else if q = 127 then .inl (0, 19, .inl A)
  else if q = 94 then .inl (4, 10, .inr (.inr (.inr (.inr (fun i => if i < 10 then some (95 + i) else none)))))
  else if q = 105 then .inl (5, 4, .inr (.inr (.inr (.inr (fun i => if i < 4 then some (128 + 2 * i) else none)))))
  else if q = 107 then .inl (4, 2, .inr (.inr (.inr (.inr (fun i => if i < 2 then some (136 + i) else none)))))
  else .inl (6, 2, .inr (.inr (.inr (.inr Q))))
def cell (c : Ch) (q : Nat) : Cl := cc q (c.1 q) (c.2.1 q) (c.2.2.1 q) (c.2.2.2.1 q) (c.2.2.2.2.1 q) (c.2.2.2.2.2 q)
def cput (h : Hp) (c : Ch) : Hp := (h.1, h.2.1, fun j => if cdom j = true then some (cell c j) else h.2.2 j)
def u2 {α : Type} (f : Nat → Nat → α) (r k : Nat) (v : α) : Nat → Nat → α := fun q => if q = r then (fun i => if i = k then v else f r i) else f q
def cI (c : Ch) (r k : Nat) (v : Int32) : Ch := (u2 c.1 r k v, c.2)
def cJ (c : Ch) (r k : Nat) (v : Int64) : Ch := (c.1, u2 c.2.1 r k v, c.2.2)
def cR (c : Ch) (r k : Nat) (v : Option Nat) : Ch := (c.1, c.2.1, u2 c.2.2.1 r k v, c.2.2.2)
def cA (c : Ch) (r n : Nat) (i : Int32) : Option Int32 := if inB i n = true then some (c.2.2.2.1 r i.toNatClampNeg) else none
def cL (c : Ch) (r n : Nat) (i : Int32) : Option Int64 := if inB i n = true then some (c.2.2.2.2.1 r i.toNatClampNeg) else none
def cQ (c : Ch) (i : Int32) : Option (Option Nat) := if inB i 2 = true then some (c.2.2.2.2.2 106 i.toNatClampNeg) else none
def cWA (c : Ch) (t r n : Nat) (i x : Int32) : Option Ch := if inB i n = true then some (c.1, c.2.1, c.2.2.1, u2 c.2.2.2.1 r i.toNatClampNeg (nar t x), c.2.2.2.2) else none
def cWL (c : Ch) (r n : Nat) (i : Int32) (x : Int64) : Option Ch := if inB i n = true then some (c.1, c.2.1, c.2.2.1, c.2.2.2.1, u2 c.2.2.2.2.1 r i.toNatClampNeg x, c.2.2.2.2.2) else none
def cWQ (c : Ch) (i : Int32) (x : Nat) : Option Ch := if inB i 2 = true then some (c.1, c.2.1, c.2.2.1, c.2.2.2.1, c.2.2.2.2.1, u2 c.2.2.2.2.2 106 i.toNatClampNeg (some x)) else none
theorem cput_at (h : Hp) (c : Ch) {r : Nat} (hr : cdom r = true) : (cput h c).2.2 r = some (cell c r) := by
  show (if cdom r = true then _ else _) = _
  rw [if_pos hr]
theorem cput_set (h : Hp) (c c' : Ch) {r : Nat} (hr : cdom r = true) {x : Cl} (hx : cell c' r = x) (hc : ∀ q, ¬ q = r → cell c' q = cell c q) : hp_set (cput h c) r x = cput h c' := by
  subst hx
  unfold hp_set cput
  refine Prod.ext rfl (Prod.ext rfl ?_)
  funext j
  show (if j = r then _ else if cdom j = true then _ else _) = if cdom j = true then _ else _
  by_cases e : j = r
  · subst e
    rw [if_pos rfl, if_pos hr]
  · rw [if_neg e, hc j e]
theorem u2_ne {α : Type} (f : Nat → Nat → α) {r k q : Nat} (v : α) (hq : ¬ q = r) : u2 f r k v q = f q := if_neg hq
theorem u2_eq {α : Type} (f : Nat → Nat → α) {r k : Nat} (v : α) : u2 f r k v r = fun i => if i = k then v else f r i := if_pos rfl
theorem cI_ne (c : Ch) {r k q : Nat} (v : Int32) (hq : ¬ q = r) : cell (cI c r k v) q = cell c q := by unfold cell cI; simp only [u2_ne _ _ hq]
theorem cJ_ne (c : Ch) {r k q : Nat} (v : Int64) (hq : ¬ q = r) : cell (cJ c r k v) q = cell c q := by unfold cell cJ; simp only [u2_ne _ _ hq]
theorem cR_ne (c : Ch) {r k q : Nat} (v : Option Nat) (hq : ¬ q = r) : cell (cR c r k v) q = cell c q := by unfold cell cR; simp only [u2_ne _ _ hq]
theorem c_gV (h : Hp) (c : Ch) {r cl k : Nat} {fs : List Value} (hr : cdom r = true) (hc : cell c r = .inr (cl, fs)) : gV (cput h c) cl r k = fs[k]? := by
  unfold gV
  rw [cput_at h c hr, hc]
  simp
theorem c_gO {α : Type} (h : Hp) (c : Ch) {r cl : Nat} {fs : List Value} (e : Option α) (hr : cdom r = true) (hc : cell c r = .inr (cl, fs)) : gO (cput h c) cl r e = e := by
  unfold gO
  rw [cput_at h c hr, hc]
  simp
theorem c_sV (h : Hp) (c c' : Ch) {r cl k : Nat} {fs : List Value} {v : Value} (hr : cdom r = true) (hc : cell c r = .inr (cl, fs)) (hx : cell c' r = .inr (cl, fs.set k v)) (hne : ∀ q, ¬ q = r → cell c' q = cell c q) : sV (cput h c) cl r k v = some (cput h c') := by
  unfold sV
  rw [cput_at h c hr, hc]
  show (if cl = cl then some (hp_set (cput h c) r (.inr (cl, fs.set k v))) else none) = _
  rw [if_pos rfl, cput_set h c c' hr hx hne]
theorem c_aI (h : Hp) (c : Ch) {t r n : Nat} (i : Int32) (hr : cdom r = true) (hc : cell c r = .inl (t, n, .inl (c.2.2.2.1 r))) : aI t (cput h c) r i = cA c r n i := by
  unfold aI
  rw [cput_at h c hr, hc]
  simp only [true_and]
  rfl
theorem c_aJ (h : Hp) (c : Ch) {r n : Nat} (i : Int32) (hr : cdom r = true) (hc : cell c r = .inl (2, n, .inr (.inl (c.2.2.2.2.1 r)))) : aJ (cput h c) r i = cL c r n i := by
  unfold aJ
  rw [cput_at h c hr, hc]
  simp only [true_and]
  rfl
theorem c_wI (h : Hp) (c : Ch) {t r n : Nat} (i x : Int32) (hr : cdom r = true) (hc : ∀ c : Ch, cell c r = .inl (t, n, .inl (c.2.2.2.1 r))) : wI t (cput h c) r i x = (cWA c t r n i x).map (cput h) := by
  unfold wI
  rw [cput_at h c hr, hc]
  unfold cWA
  simp only [true_and]
  split
  · rw [Option.map_some]
    congr 1
    refine cput_set h c _ hr ?_ (fun q hq => ?_)
    · rw [hc]
      simp only [u2_eq]
      rfl
    · unfold cell
      simp only [u2_ne _ _ hq]
  · rfl
theorem c_wJ (h : Hp) (c : Ch) {r n : Nat} (i : Int32) (x : Int64) (hr : cdom r = true) (hc : ∀ c : Ch, cell c r = .inl (2, n, .inr (.inl (c.2.2.2.2.1 r)))) : wJ (cput h c) r i x = (cWL c r n i x).map (cput h) := by
  unfold wJ
  rw [cput_at h c hr, hc]
  unfold cWL
  simp only [true_and]
  split
  · rw [Option.map_some]
    congr 1
    refine cput_set h c _ hr ?_ (fun q hq => ?_)
    · rw [hc]
      simp only [u2_eq]
      rfl
    · unfold cell
      simp only [u2_ne _ _ hq]
  · rfl
theorem c_aL (h : Hp) (c : Ch) {t r n : Nat} {x : (Nat → Int32) ⊕ (Nat → Int64) ⊕ (Nat → UInt32) ⊕ (Nat → UInt64) ⊕ (Nat → Option Nat)} (hr : cdom r = true) (hc : cell c r = .inl (t, n, x)) : aL (cput h c) r = some (Int32.ofNat n) := by
  unfold aL
  rw [cput_at h c hr, hc]
theorem sadr_st (j : Nat) : isSt (sadr j) = true ∧ cdom (sadr j) = true := by
  unfold sadr
  split
  · constructor <;> simp [isSt, cdom] <;> omega
  · split
    · constructor <;> simp [isSt, cdom] <;> omega
    · split
      · constructor <;> simp [isSt, cdom] <;> omega
      · decide
theorem tadr_tr (j : Nat) : (isSt (tadr j) = false ∧ isTr (tadr j) = true ∧ cdom (tadr j) = true) ∧ isSt (tadr j + 1) = false ∧ isTr (tadr j + 1) = false ∧ isTp (tadr j + 1) = true ∧ cdom (tadr j + 1) = true := by
  unfold tadr
  split
  · rename_i hj
    match j, hj with
    | 0, _ => decide
    | 1, _ => decide
    | 2, _ => decide
    | 3, _ => decide
    | k + 4, hj => omega
  · decide
theorem cell_st (c : Ch) (j : Nat) : cell c (sadr j) = .inr (8, [.int (c.1 (sadr j) 0), .int (c.1 (sadr j) 1), .int (c.1 (sadr j) 2), .int (c.1 (sadr j) 3)]) := by
  unfold cell cc
  rw [if_pos (sadr_st j).1]
theorem cell_tr (c : Ch) (j : Nat) : cell c (tadr j) = .inr (9, [.ref (tadr j + 1), .int (c.1 (tadr j) 1), .int (c.1 (tadr j) 2), .int (c.1 (tadr j) 3)]) := by
  unfold cell cc
  rw [if_neg (by rw [(tadr_tr j).1.1]; decide), if_pos (tadr_tr j).1.2.1]
theorem cell_tp (c : Ch) (j : Nat) : cell c (tadr j + 1) = .inl (2, 40, .inr (.inl (c.2.2.2.2.1 (tadr j + 1)))) := by
  unfold cell cc
  rw [if_neg (by rw [(tadr_tr j).2.1]; decide), if_neg (by rw [(tadr_tr j).2.2.1]; decide), if_pos (tadr_tr j).2.2.2.1]
theorem cell_ya (c : Ch) (j : Nat) : cell c (yadr j) = .inl (0, 4, .inl (c.2.2.2.1 (yadr j))) := by
  unfold yadr
  split <;> rfl
theorem cell_wa (c : Ch) (j : Nat) : cell c (wadr j) = .inl (0, 35, .inl (c.2.2.2.1 (wadr j))) := by
  unfold wadr
  split <;> rfl
theorem yadr_d (j : Nat) : cdom (yadr j) = true := by unfold yadr; split <;> decide
theorem wadr_d (j : Nat) : cdom (wadr j) = true := by unfold wadr; split <;> decide
theorem cgO_80 {α : Type} (h : Hp) (c : Ch) (e : Option α) : gO (cput h c) 11 80 e = e := c_gO h c e (by decide) rfl
theorem cgN_80_0 (h : Hp) (c : Ch) : gN (cput h c) 11 80 0 = some (81) := by unfold gN; rw [c_gV h c (fs := _) (by decide) rfl]; rfl
theorem cgI_80_1 (h : Hp) (c : Ch) : gI (cput h c) 11 80 1 = some (c.1 80 1) := by unfold gI; rw [c_gV h c (fs := _) (by decide) rfl]; rfl
theorem csI_80_1 (h : Hp) (c : Ch) (v : Int32) : sV (cput h c) 11 80 1 (.int v) = some (cput h (cI c 80 1 v)) := c_sV h c _ (by decide) rfl rfl (fun q hq => cI_ne c _ hq)
theorem cgN_80_2 (h : Hp) (c : Ch) : gN (cput h c) 11 80 2 = some (82) := by unfold gN; rw [c_gV h c (fs := _) (by decide) rfl]; rfl
theorem cgN_80_3 (h : Hp) (c : Ch) : gN (cput h c) 11 80 3 = c.2.2.1 80 3 := by
  unfold gN
  rw [c_gV h c (fs := _) (by decide) rfl]
  show (match some (va_rf (c.2.2.1 80 3)) with | some (.ref v) => some v | _ => none) = _
  cases c.2.2.1 80 3 <;> rfl
theorem cgR_80_3 (h : Hp) (c : Ch) : gR (cput h c) 11 80 3 = some (c.2.2.1 80 3) := by
  unfold gR
  rw [c_gV h c (fs := _) (by decide) rfl]
  show (match some (va_rf (c.2.2.1 80 3)) with | some (.ref v) => some (some v) | some .null => some none | _ => none) = _
  cases c.2.2.1 80 3 <;> rfl
theorem csR_80_3 (h : Hp) (c : Ch) (v : Nat) : sV (cput h c) 11 80 3 (.ref v) = some (cput h (cR c 80 3 (some v))) := c_sV h c _ (by decide) rfl rfl (fun q hq => cR_ne c _ hq)
theorem csO_80_3 (h : Hp) (c : Ch) (v : Option Nat) : sV (cput h c) 11 80 3 (va_rf v) = some (cput h (cR c 80 3 v)) := c_sV h c _ (by decide) rfl rfl (fun q hq => cR_ne c _ hq)
theorem csN_80_3 (h : Hp) (c : Ch) : sV (cput h c) 11 80 3 .null = some (cput h (cR c 80 3 none)) := c_sV h c _ (by decide) rfl rfl (fun q hq => cR_ne c _ hq)
theorem cgN_80_4 (h : Hp) (c : Ch) : gN (cput h c) 11 80 4 = some (sadr 0) := by unfold gN; rw [c_gV h c (fs := _) (by decide) rfl]; rfl
theorem cgN_80_5 (h : Hp) (c : Ch) : gN (cput h c) 11 80 5 = some (sadr 1) := by unfold gN; rw [c_gV h c (fs := _) (by decide) rfl]; rfl
theorem cgN_80_6 (h : Hp) (c : Ch) : gN (cput h c) 11 80 6 = some (sadr 2) := by unfold gN; rw [c_gV h c (fs := _) (by decide) rfl]; rfl
theorem cgN_80_7 (h : Hp) (c : Ch) : gN (cput h c) 11 80 7 = some (93) := by unfold gN; rw [c_gV h c (fs := _) (by decide) rfl]; rfl
theorem cgN_80_8 (h : Hp) (c : Ch) : gN (cput h c) 11 80 8 = some (105) := by unfold gN; rw [c_gV h c (fs := _) (by decide) rfl]; rfl
theorem cgN_80_9 (h : Hp) (c : Ch) : gN (cput h c) 11 80 9 = some (106) := by unfold gN; rw [c_gV h c (fs := _) (by decide) rfl]; rfl
theorem cgN_80_10 (h : Hp) (c : Ch) : gN (cput h c) 11 80 10 = some (107) := by unfold gN; rw [c_gV h c (fs := _) (by decide) rfl]; rfl
theorem cgN_80_11 (h : Hp) (c : Ch) : gN (cput h c) 11 80 11 = some (108) := by unfold gN; rw [c_gV h c (fs := _) (by decide) rfl]; rfl
theorem cgN_80_12 (h : Hp) (c : Ch) : gN (cput h c) 11 80 12 = some (114) := by unfold gN; rw [c_gV h c (fs := _) (by decide) rfl]; rfl
theorem cgN_80_13 (h : Hp) (c : Ch) : gN (cput h c) 11 80 13 = some (115) := by unfold gN; rw [c_gV h c (fs := _) (by decide) rfl]; rfl
theorem cgN_80_14 (h : Hp) (c : Ch) : gN (cput h c) 11 80 14 = some (116) := by unfold gN; rw [c_gV h c (fs := _) (by decide) rfl]; rfl
theorem cgN_80_15 (h : Hp) (c : Ch) : gN (cput h c) 11 80 15 = some (125) := by unfold gN; rw [c_gV h c (fs := _) (by decide) rfl]; rfl
theorem cgN_80_16 (h : Hp) (c : Ch) : gN (cput h c) 11 80 16 = some (126) := by unfold gN; rw [c_gV h c (fs := _) (by decide) rfl]; rfl
theorem cgN_80_17 (h : Hp) (c : Ch) : gN (cput h c) 11 80 17 = some (127) := by unfold gN; rw [c_gV h c (fs := _) (by decide) rfl]; rfl
theorem cgI_80_18 (h : Hp) (c : Ch) : gI (cput h c) 11 80 18 = some (c.1 80 18) := by unfold gI; rw [c_gV h c (fs := _) (by decide) rfl]; rfl
theorem csI_80_18 (h : Hp) (c : Ch) (v : Int32) : sV (cput h c) 11 80 18 (.int v) = some (cput h (cI c 80 18 v)) := c_sV h c _ (by decide) rfl rfl (fun q hq => cI_ne c _ hq)
theorem cgO_82 {α : Type} (h : Hp) (c : Ch) (e : Option α) : gO (cput h c) 4 82 e = e := c_gO h c e (by decide) rfl
theorem cgN_82_0 (h : Hp) (c : Ch) : gN (cput h c) 4 82 0 = some (83) := by unfold gN; rw [c_gV h c (fs := _) (by decide) rfl]; rfl
theorem cgN_82_1 (h : Hp) (c : Ch) : gN (cput h c) 4 82 1 = some (85) := by unfold gN; rw [c_gV h c (fs := _) (by decide) rfl]; rfl
theorem cgI_82_2 (h : Hp) (c : Ch) : gI (cput h c) 4 82 2 = some (c.1 82 2) := by unfold gI; rw [c_gV h c (fs := _) (by decide) rfl]; rfl
theorem csI_82_2 (h : Hp) (c : Ch) (v : Int32) : sV (cput h c) 4 82 2 (.int v) = some (cput h (cI c 82 2 v)) := c_sV h c _ (by decide) rfl rfl (fun q hq => cI_ne c _ hq)
theorem cgI_82_3 (h : Hp) (c : Ch) : gI (cput h c) 4 82 3 = some (c.1 82 3) := by unfold gI; rw [c_gV h c (fs := _) (by decide) rfl]; rfl
theorem csI_82_3 (h : Hp) (c : Ch) (v : Int32) : sV (cput h c) 4 82 3 (.int v) = some (cput h (cI c 82 3 v)) := c_sV h c _ (by decide) rfl rfl (fun q hq => cI_ne c _ hq)
theorem cgI_82_4 (h : Hp) (c : Ch) : gI (cput h c) 4 82 4 = some (c.1 82 4) := by unfold gI; rw [c_gV h c (fs := _) (by decide) rfl]; rfl
theorem csI_82_4 (h : Hp) (c : Ch) (v : Int32) : sV (cput h c) 4 82 4 (.int v) = some (cput h (cI c 82 4 v)) := c_sV h c _ (by decide) rfl rfl (fun q hq => cI_ne c _ hq)
theorem cgI_82_5 (h : Hp) (c : Ch) : gI (cput h c) 4 82 5 = some (c.1 82 5) := by unfold gI; rw [c_gV h c (fs := _) (by decide) rfl]; rfl
theorem csI_82_5 (h : Hp) (c : Ch) (v : Int32) : sV (cput h c) 4 82 5 (.int v) = some (cput h (cI c 82 5 v)) := c_sV h c _ (by decide) rfl rfl (fun q hq => cI_ne c _ hq)
theorem cgI_82_6 (h : Hp) (c : Ch) : gI (cput h c) 4 82 6 = some (c.1 82 6) := by unfold gI; rw [c_gV h c (fs := _) (by decide) rfl]; rfl
theorem csI_82_6 (h : Hp) (c : Ch) (v : Int32) : sV (cput h c) 4 82 6 (.int v) = some (cput h (cI c 82 6 v)) := c_sV h c _ (by decide) rfl rfl (fun q hq => cI_ne c _ hq)
theorem cgI_82_7 (h : Hp) (c : Ch) : gI (cput h c) 4 82 7 = some (c.1 82 7) := by unfold gI; rw [c_gV h c (fs := _) (by decide) rfl]; rfl
theorem csI_82_7 (h : Hp) (c : Ch) (v : Int32) : sV (cput h c) 4 82 7 (.int v) = some (cput h (cI c 82 7 v)) := c_sV h c _ (by decide) rfl rfl (fun q hq => cI_ne c _ hq)
theorem cgI_82_8 (h : Hp) (c : Ch) : gI (cput h c) 4 82 8 = some (c.1 82 8) := by unfold gI; rw [c_gV h c (fs := _) (by decide) rfl]; rfl
theorem csI_82_8 (h : Hp) (c : Ch) (v : Int32) : sV (cput h c) 4 82 8 (.int v) = some (cput h (cI c 82 8 v)) := c_sV h c _ (by decide) rfl rfl (fun q hq => cI_ne c _ hq)
theorem cgI_82_9 (h : Hp) (c : Ch) : gI (cput h c) 4 82 9 = some (c.1 82 9) := by unfold gI; rw [c_gV h c (fs := _) (by decide) rfl]; rfl
theorem csI_82_9 (h : Hp) (c : Ch) (v : Int32) : sV (cput h c) 4 82 9 (.int v) = some (cput h (cI c 82 9 v)) := c_sV h c _ (by decide) rfl rfl (fun q hq => cI_ne c _ hq)
theorem cgI_82_10 (h : Hp) (c : Ch) : gI (cput h c) 4 82 10 = some (c.1 82 10) := by unfold gI; rw [c_gV h c (fs := _) (by decide) rfl]; rfl
theorem csI_82_10 (h : Hp) (c : Ch) (v : Int32) : sV (cput h c) 4 82 10 (.int v) = some (cput h (cI c 82 10 v)) := c_sV h c _ (by decide) rfl rfl (fun q hq => cI_ne c _ hq)
theorem cgI_82_11 (h : Hp) (c : Ch) : gI (cput h c) 4 82 11 = some (c.1 82 11) := by unfold gI; rw [c_gV h c (fs := _) (by decide) rfl]; rfl
theorem csI_82_11 (h : Hp) (c : Ch) (v : Int32) : sV (cput h c) 4 82 11 (.int v) = some (cput h (cI c 82 11 v)) := c_sV h c _ (by decide) rfl rfl (fun q hq => cI_ne c _ hq)
theorem cgI_82_12 (h : Hp) (c : Ch) : gI (cput h c) 4 82 12 = some (c.1 82 12) := by unfold gI; rw [c_gV h c (fs := _) (by decide) rfl]; rfl
theorem csI_82_12 (h : Hp) (c : Ch) (v : Int32) : sV (cput h c) 4 82 12 (.int v) = some (cput h (cI c 82 12 v)) := c_sV h c _ (by decide) rfl rfl (fun q hq => cI_ne c _ hq)
theorem cgI_82_13 (h : Hp) (c : Ch) : gI (cput h c) 4 82 13 = some (c.1 82 13) := by unfold gI; rw [c_gV h c (fs := _) (by decide) rfl]; rfl
theorem csI_82_13 (h : Hp) (c : Ch) (v : Int32) : sV (cput h c) 4 82 13 (.int v) = some (cput h (cI c 82 13 v)) := c_sV h c _ (by decide) rfl rfl (fun q hq => cI_ne c _ hq)
theorem cgN_82_14 (h : Hp) (c : Ch) : gN (cput h c) 4 82 14 = c.2.2.1 82 14 := by
  unfold gN
  rw [c_gV h c (fs := _) (by decide) rfl]
  show (match some (va_rf (c.2.2.1 82 14)) with | some (.ref v) => some v | _ => none) = _
  cases c.2.2.1 82 14 <;> rfl
theorem cgR_82_14 (h : Hp) (c : Ch) : gR (cput h c) 4 82 14 = some (c.2.2.1 82 14) := by
  unfold gR
  rw [c_gV h c (fs := _) (by decide) rfl]
  show (match some (va_rf (c.2.2.1 82 14)) with | some (.ref v) => some (some v) | some .null => some none | _ => none) = _
  cases c.2.2.1 82 14 <;> rfl
theorem csR_82_14 (h : Hp) (c : Ch) (v : Nat) : sV (cput h c) 4 82 14 (.ref v) = some (cput h (cR c 82 14 (some v))) := c_sV h c _ (by decide) rfl rfl (fun q hq => cR_ne c _ hq)
theorem csO_82_14 (h : Hp) (c : Ch) (v : Option Nat) : sV (cput h c) 4 82 14 (va_rf v) = some (cput h (cR c 82 14 v)) := c_sV h c _ (by decide) rfl rfl (fun q hq => cR_ne c _ hq)
theorem csN_82_14 (h : Hp) (c : Ch) : sV (cput h c) 4 82 14 .null = some (cput h (cR c 82 14 none)) := c_sV h c _ (by decide) rfl rfl (fun q hq => cR_ne c _ hq)
theorem cgN_82_15 (h : Hp) (c : Ch) : gN (cput h c) 4 82 15 = c.2.2.1 82 15 := by
  unfold gN
  rw [c_gV h c (fs := _) (by decide) rfl]
  show (match some (va_rf (c.2.2.1 82 15)) with | some (.ref v) => some v | _ => none) = _
  cases c.2.2.1 82 15 <;> rfl
theorem cgR_82_15 (h : Hp) (c : Ch) : gR (cput h c) 4 82 15 = some (c.2.2.1 82 15) := by
  unfold gR
  rw [c_gV h c (fs := _) (by decide) rfl]
  show (match some (va_rf (c.2.2.1 82 15)) with | some (.ref v) => some (some v) | some .null => some none | _ => none) = _
  cases c.2.2.1 82 15 <;> rfl
theorem csR_82_15 (h : Hp) (c : Ch) (v : Nat) : sV (cput h c) 4 82 15 (.ref v) = some (cput h (cR c 82 15 (some v))) := c_sV h c _ (by decide) rfl rfl (fun q hq => cR_ne c _ hq)
theorem csO_82_15 (h : Hp) (c : Ch) (v : Option Nat) : sV (cput h c) 4 82 15 (va_rf v) = some (cput h (cR c 82 15 v)) := c_sV h c _ (by decide) rfl rfl (fun q hq => cR_ne c _ hq)
theorem csN_82_15 (h : Hp) (c : Ch) : sV (cput h c) 4 82 15 .null = some (cput h (cR c 82 15 none)) := c_sV h c _ (by decide) rfl rfl (fun q hq => cR_ne c _ hq)
theorem cgO_83 {α : Type} (h : Hp) (c : Ch) (e : Option α) : gO (cput h c) 6 83 e = e := c_gO h c e (by decide) rfl
theorem cgN_83_0 (h : Hp) (c : Ch) : gN (cput h c) 6 83 0 = c.2.2.1 83 0 := by
  unfold gN
  rw [c_gV h c (fs := _) (by decide) rfl]
  show (match some (va_rf (c.2.2.1 83 0)) with | some (.ref v) => some v | _ => none) = _
  cases c.2.2.1 83 0 <;> rfl
theorem cgR_83_0 (h : Hp) (c : Ch) : gR (cput h c) 6 83 0 = some (c.2.2.1 83 0) := by
  unfold gR
  rw [c_gV h c (fs := _) (by decide) rfl]
  show (match some (va_rf (c.2.2.1 83 0)) with | some (.ref v) => some (some v) | some .null => some none | _ => none) = _
  cases c.2.2.1 83 0 <;> rfl
theorem csR_83_0 (h : Hp) (c : Ch) (v : Nat) : sV (cput h c) 6 83 0 (.ref v) = some (cput h (cR c 83 0 (some v))) := c_sV h c _ (by decide) rfl rfl (fun q hq => cR_ne c _ hq)
theorem csO_83_0 (h : Hp) (c : Ch) (v : Option Nat) : sV (cput h c) 6 83 0 (va_rf v) = some (cput h (cR c 83 0 v)) := c_sV h c _ (by decide) rfl rfl (fun q hq => cR_ne c _ hq)
theorem csN_83_0 (h : Hp) (c : Ch) : sV (cput h c) 6 83 0 .null = some (cput h (cR c 83 0 none)) := c_sV h c _ (by decide) rfl rfl (fun q hq => cR_ne c _ hq)
theorem cgI_83_1 (h : Hp) (c : Ch) : gI (cput h c) 6 83 1 = some (c.1 83 1) := by unfold gI; rw [c_gV h c (fs := _) (by decide) rfl]; rfl
theorem csI_83_1 (h : Hp) (c : Ch) (v : Int32) : sV (cput h c) 6 83 1 (.int v) = some (cput h (cI c 83 1 v)) := c_sV h c _ (by decide) rfl rfl (fun q hq => cI_ne c _ hq)
theorem cgI_83_2 (h : Hp) (c : Ch) : gI (cput h c) 6 83 2 = some (c.1 83 2) := by unfold gI; rw [c_gV h c (fs := _) (by decide) rfl]; rfl
theorem csI_83_2 (h : Hp) (c : Ch) (v : Int32) : sV (cput h c) 6 83 2 (.int v) = some (cput h (cI c 83 2 v)) := c_sV h c _ (by decide) rfl rfl (fun q hq => cI_ne c _ hq)
theorem cgI_83_3 (h : Hp) (c : Ch) : gI (cput h c) 6 83 3 = some (c.1 83 3) := by unfold gI; rw [c_gV h c (fs := _) (by decide) rfl]; rfl
theorem csI_83_3 (h : Hp) (c : Ch) (v : Int32) : sV (cput h c) 6 83 3 (.int v) = some (cput h (cI c 83 3 v)) := c_sV h c _ (by decide) rfl rfl (fun q hq => cI_ne c _ hq)
theorem cgI_83_4 (h : Hp) (c : Ch) : gI (cput h c) 6 83 4 = some (c.1 83 4) := by unfold gI; rw [c_gV h c (fs := _) (by decide) rfl]; rfl
theorem csI_83_4 (h : Hp) (c : Ch) (v : Int32) : sV (cput h c) 6 83 4 (.int v) = some (cput h (cI c 83 4 v)) := c_sV h c _ (by decide) rfl rfl (fun q hq => cI_ne c _ hq)
theorem cgI_83_5 (h : Hp) (c : Ch) : gI (cput h c) 6 83 5 = some (c.1 83 5) := by unfold gI; rw [c_gV h c (fs := _) (by decide) rfl]; rfl
theorem csI_83_5 (h : Hp) (c : Ch) (v : Int32) : sV (cput h c) 6 83 5 (.int v) = some (cput h (cI c 83 5 v)) := c_sV h c _ (by decide) rfl rfl (fun q hq => cI_ne c _ hq)
theorem cgO_93 {α : Type} (h : Hp) (c : Ch) (e : Option α) : gO (cput h c) 5 93 e = e := c_gO h c e (by decide) rfl
theorem cgN_93_0 (h : Hp) (c : Ch) : gN (cput h c) 5 93 0 = some (94) := by unfold gN; rw [c_gV h c (fs := _) (by decide) rfl]; rfl
theorem cgI_93_1 (h : Hp) (c : Ch) : gI (cput h c) 5 93 1 = some (c.1 93 1) := by unfold gI; rw [c_gV h c (fs := _) (by decide) rfl]; rfl
theorem csI_93_1 (h : Hp) (c : Ch) (v : Int32) : sV (cput h c) 5 93 1 (.int v) = some (cput h (cI c 93 1 v)) := c_sV h c _ (by decide) rfl rfl (fun q hq => cI_ne c _ hq)
theorem cgI_93_2 (h : Hp) (c : Ch) : gI (cput h c) 5 93 2 = some (c.1 93 2) := by unfold gI; rw [c_gV h c (fs := _) (by decide) rfl]; rfl
theorem csI_93_2 (h : Hp) (c : Ch) (v : Int32) : sV (cput h c) 5 93 2 (.int v) = some (cput h (cI c 93 2 v)) := c_sV h c _ (by decide) rfl rfl (fun q hq => cI_ne c _ hq)
theorem cgO_108 {α : Type} (h : Hp) (c : Ch) (e : Option α) : gO (cput h c) 1 108 e = e := c_gO h c e (by decide) rfl
theorem cgN_108_0 (h : Hp) (c : Ch) : gN (cput h c) 1 108 0 = some (109) := by unfold gN; rw [c_gV h c (fs := _) (by decide) rfl]; rfl
theorem cgN_108_1 (h : Hp) (c : Ch) : gN (cput h c) 1 108 1 = some (110) := by unfold gN; rw [c_gV h c (fs := _) (by decide) rfl]; rfl
theorem cgN_108_2 (h : Hp) (c : Ch) : gN (cput h c) 1 108 2 = some (111) := by unfold gN; rw [c_gV h c (fs := _) (by decide) rfl]; rfl
theorem cgN_108_3 (h : Hp) (c : Ch) : gN (cput h c) 1 108 3 = some (112) := by unfold gN; rw [c_gV h c (fs := _) (by decide) rfl]; rfl
theorem cgN_108_4 (h : Hp) (c : Ch) : gN (cput h c) 1 108 4 = some (113) := by unfold gN; rw [c_gV h c (fs := _) (by decide) rfl]; rfl
theorem cgN_108_5 (h : Hp) (c : Ch) : gN (cput h c) 1 108 5 = c.2.2.1 108 5 := by
  unfold gN
  rw [c_gV h c (fs := _) (by decide) rfl]
  show (match some (va_rf (c.2.2.1 108 5)) with | some (.ref v) => some v | _ => none) = _
  cases c.2.2.1 108 5 <;> rfl
theorem cgR_108_5 (h : Hp) (c : Ch) : gR (cput h c) 1 108 5 = some (c.2.2.1 108 5) := by
  unfold gR
  rw [c_gV h c (fs := _) (by decide) rfl]
  show (match some (va_rf (c.2.2.1 108 5)) with | some (.ref v) => some (some v) | some .null => some none | _ => none) = _
  cases c.2.2.1 108 5 <;> rfl
theorem csR_108_5 (h : Hp) (c : Ch) (v : Nat) : sV (cput h c) 1 108 5 (.ref v) = some (cput h (cR c 108 5 (some v))) := c_sV h c _ (by decide) rfl rfl (fun q hq => cR_ne c _ hq)
theorem csO_108_5 (h : Hp) (c : Ch) (v : Option Nat) : sV (cput h c) 1 108 5 (va_rf v) = some (cput h (cR c 108 5 v)) := c_sV h c _ (by decide) rfl rfl (fun q hq => cR_ne c _ hq)
theorem csN_108_5 (h : Hp) (c : Ch) : sV (cput h c) 1 108 5 .null = some (cput h (cR c 108 5 none)) := c_sV h c _ (by decide) rfl rfl (fun q hq => cR_ne c _ hq)
theorem cgI_108_6 (h : Hp) (c : Ch) : gI (cput h c) 1 108 6 = some (c.1 108 6) := by unfold gI; rw [c_gV h c (fs := _) (by decide) rfl]; rfl
theorem csI_108_6 (h : Hp) (c : Ch) (v : Int32) : sV (cput h c) 1 108 6 (.int v) = some (cput h (cI c 108 6 v)) := c_sV h c _ (by decide) rfl rfl (fun q hq => cI_ne c _ hq)
theorem cgO_114 {α : Type} (h : Hp) (c : Ch) (e : Option α) : gO (cput h c) 10 114 e = e := c_gO h c e (by decide) rfl
theorem cgN_114_0 (h : Hp) (c : Ch) : gN (cput h c) 10 114 0 = some (108) := by unfold gN; rw [c_gV h c (fs := _) (by decide) rfl]; rfl
theorem cgI_114_1 (h : Hp) (c : Ch) : gI (cput h c) 10 114 1 = some (c.1 114 1) := by unfold gI; rw [c_gV h c (fs := _) (by decide) rfl]; rfl
theorem csI_114_1 (h : Hp) (c : Ch) (v : Int32) : sV (cput h c) 10 114 1 (.int v) = some (cput h (cI c 114 1 v)) := c_sV h c _ (by decide) rfl rfl (fun q hq => cI_ne c _ hq)
theorem cgI_114_2 (h : Hp) (c : Ch) : gI (cput h c) 10 114 2 = some (c.1 114 2) := by unfold gI; rw [c_gV h c (fs := _) (by decide) rfl]; rfl
theorem csI_114_2 (h : Hp) (c : Ch) (v : Int32) : sV (cput h c) 10 114 2 (.int v) = some (cput h (cI c 114 2 v)) := c_sV h c _ (by decide) rfl rfl (fun q hq => cI_ne c _ hq)
theorem cgI_114_3 (h : Hp) (c : Ch) : gI (cput h c) 10 114 3 = some (c.1 114 3) := by unfold gI; rw [c_gV h c (fs := _) (by decide) rfl]; rfl
theorem csI_114_3 (h : Hp) (c : Ch) (v : Int32) : sV (cput h c) 10 114 3 (.int v) = some (cput h (cI c 114 3 v)) := c_sV h c _ (by decide) rfl rfl (fun q hq => cI_ne c _ hq)
theorem cgI_114_4 (h : Hp) (c : Ch) : gI (cput h c) 10 114 4 = some (c.1 114 4) := by unfold gI; rw [c_gV h c (fs := _) (by decide) rfl]; rfl
theorem csI_114_4 (h : Hp) (c : Ch) (v : Int32) : sV (cput h c) 10 114 4 (.int v) = some (cput h (cI c 114 4 v)) := c_sV h c _ (by decide) rfl rfl (fun q hq => cI_ne c _ hq)
theorem cgI_114_5 (h : Hp) (c : Ch) : gI (cput h c) 10 114 5 = some (c.1 114 5) := by unfold gI; rw [c_gV h c (fs := _) (by decide) rfl]; rfl
theorem csI_114_5 (h : Hp) (c : Ch) (v : Int32) : sV (cput h c) 10 114 5 (.int v) = some (cput h (cI c 114 5 v)) := c_sV h c _ (by decide) rfl rfl (fun q hq => cI_ne c _ hq)
theorem cgI_114_6 (h : Hp) (c : Ch) : gI (cput h c) 10 114 6 = some (c.1 114 6) := by unfold gI; rw [c_gV h c (fs := _) (by decide) rfl]; rfl
theorem csI_114_6 (h : Hp) (c : Ch) (v : Int32) : sV (cput h c) 10 114 6 (.int v) = some (cput h (cI c 114 6 v)) := c_sV h c _ (by decide) rfl rfl (fun q hq => cI_ne c _ hq)
theorem cgO_115 {α : Type} (h : Hp) (c : Ch) (e : Option α) : gO (cput h c) 2 115 e = e := c_gO h c e (by decide) rfl
theorem cgN_115_0 (h : Hp) (c : Ch) : gN (cput h c) 2 115 0 = some (108) := by unfold gN; rw [c_gV h c (fs := _) (by decide) rfl]; rfl
theorem cgI_115_1 (h : Hp) (c : Ch) : gI (cput h c) 2 115 1 = some (c.1 115 1) := by unfold gI; rw [c_gV h c (fs := _) (by decide) rfl]; rfl
theorem csI_115_1 (h : Hp) (c : Ch) (v : Int32) : sV (cput h c) 2 115 1 (.int v) = some (cput h (cI c 115 1 v)) := c_sV h c _ (by decide) rfl rfl (fun q hq => cI_ne c _ hq)
theorem cgI_115_2 (h : Hp) (c : Ch) : gI (cput h c) 2 115 2 = some (c.1 115 2) := by unfold gI; rw [c_gV h c (fs := _) (by decide) rfl]; rfl
theorem csI_115_2 (h : Hp) (c : Ch) (v : Int32) : sV (cput h c) 2 115 2 (.int v) = some (cput h (cI c 115 2 v)) := c_sV h c _ (by decide) rfl rfl (fun q hq => cI_ne c _ hq)
theorem cgI_115_3 (h : Hp) (c : Ch) : gI (cput h c) 2 115 3 = some (c.1 115 3) := by unfold gI; rw [c_gV h c (fs := _) (by decide) rfl]; rfl
theorem csI_115_3 (h : Hp) (c : Ch) (v : Int32) : sV (cput h c) 2 115 3 (.int v) = some (cput h (cI c 115 3 v)) := c_sV h c _ (by decide) rfl rfl (fun q hq => cI_ne c _ hq)
theorem cgI_115_4 (h : Hp) (c : Ch) : gI (cput h c) 2 115 4 = some (c.1 115 4) := by unfold gI; rw [c_gV h c (fs := _) (by decide) rfl]; rfl
theorem csI_115_4 (h : Hp) (c : Ch) (v : Int32) : sV (cput h c) 2 115 4 (.int v) = some (cput h (cI c 115 4 v)) := c_sV h c _ (by decide) rfl rfl (fun q hq => cI_ne c _ hq)
theorem cgI_115_5 (h : Hp) (c : Ch) : gI (cput h c) 2 115 5 = some (c.1 115 5) := by unfold gI; rw [c_gV h c (fs := _) (by decide) rfl]; rfl
theorem csI_115_5 (h : Hp) (c : Ch) (v : Int32) : sV (cput h c) 2 115 5 (.int v) = some (cput h (cI c 115 5 v)) := c_sV h c _ (by decide) rfl rfl (fun q hq => cI_ne c _ hq)
theorem cgI_115_6 (h : Hp) (c : Ch) : gI (cput h c) 2 115 6 = some (c.1 115 6) := by unfold gI; rw [c_gV h c (fs := _) (by decide) rfl]; rfl
theorem csI_115_6 (h : Hp) (c : Ch) (v : Int32) : sV (cput h c) 2 115 6 (.int v) = some (cput h (cI c 115 6 v)) := c_sV h c _ (by decide) rfl rfl (fun q hq => cI_ne c _ hq)
theorem cgI_115_7 (h : Hp) (c : Ch) : gI (cput h c) 2 115 7 = some (c.1 115 7) := by unfold gI; rw [c_gV h c (fs := _) (by decide) rfl]; rfl
theorem csI_115_7 (h : Hp) (c : Ch) (v : Int32) : sV (cput h c) 2 115 7 (.int v) = some (cput h (cI c 115 7 v)) := c_sV h c _ (by decide) rfl rfl (fun q hq => cI_ne c _ hq)
theorem cgJ_115_8 (h : Hp) (c : Ch) : gJ (cput h c) 2 115 8 = some (c.2.1 115 8) := by unfold gJ; rw [c_gV h c (fs := _) (by decide) rfl]; rfl
theorem csJ_115_8 (h : Hp) (c : Ch) (v : Int64) : sV (cput h c) 2 115 8 (.long v) = some (cput h (cJ c 115 8 v)) := c_sV h c _ (by decide) rfl rfl (fun q hq => cJ_ne c _ hq)
theorem cgJ_115_9 (h : Hp) (c : Ch) : gJ (cput h c) 2 115 9 = some (c.2.1 115 9) := by unfold gJ; rw [c_gV h c (fs := _) (by decide) rfl]; rfl
theorem csJ_115_9 (h : Hp) (c : Ch) (v : Int64) : sV (cput h c) 2 115 9 (.long v) = some (cput h (cJ c 115 9 v)) := c_sV h c _ (by decide) rfl rfl (fun q hq => cJ_ne c _ hq)
theorem cgJ_115_10 (h : Hp) (c : Ch) : gJ (cput h c) 2 115 10 = some (c.2.1 115 10) := by unfold gJ; rw [c_gV h c (fs := _) (by decide) rfl]; rfl
theorem csJ_115_10 (h : Hp) (c : Ch) (v : Int64) : sV (cput h c) 2 115 10 (.long v) = some (cput h (cJ c 115 10 v)) := c_sV h c _ (by decide) rfl rfl (fun q hq => cJ_ne c _ hq)
theorem cgJ_115_11 (h : Hp) (c : Ch) : gJ (cput h c) 2 115 11 = some (c.2.1 115 11) := by unfold gJ; rw [c_gV h c (fs := _) (by decide) rfl]; rfl
theorem csJ_115_11 (h : Hp) (c : Ch) (v : Int64) : sV (cput h c) 2 115 11 (.long v) = some (cput h (cJ c 115 11 v)) := c_sV h c _ (by decide) rfl rfl (fun q hq => cJ_ne c _ hq)
theorem cgO_116 {α : Type} (h : Hp) (c : Ch) (e : Option α) : gO (cput h c) 7 116 e = e := c_gO h c e (by decide) rfl
theorem cgN_116_0 (h : Hp) (c : Ch) : gN (cput h c) 7 116 0 = some (108) := by unfold gN; rw [c_gV h c (fs := _) (by decide) rfl]; rfl
theorem cgN_116_1 (h : Hp) (c : Ch) : gN (cput h c) 7 116 1 = c.2.2.1 116 1 := by
  unfold gN
  rw [c_gV h c (fs := _) (by decide) rfl]
  show (match some (va_rf (c.2.2.1 116 1)) with | some (.ref v) => some v | _ => none) = _
  cases c.2.2.1 116 1 <;> rfl
theorem cgR_116_1 (h : Hp) (c : Ch) : gR (cput h c) 7 116 1 = some (c.2.2.1 116 1) := by
  unfold gR
  rw [c_gV h c (fs := _) (by decide) rfl]
  show (match some (va_rf (c.2.2.1 116 1)) with | some (.ref v) => some (some v) | some .null => some none | _ => none) = _
  cases c.2.2.1 116 1 <;> rfl
theorem csR_116_1 (h : Hp) (c : Ch) (v : Nat) : sV (cput h c) 7 116 1 (.ref v) = some (cput h (cR c 116 1 (some v))) := c_sV h c _ (by decide) rfl rfl (fun q hq => cR_ne c _ hq)
theorem csO_116_1 (h : Hp) (c : Ch) (v : Option Nat) : sV (cput h c) 7 116 1 (va_rf v) = some (cput h (cR c 116 1 v)) := c_sV h c _ (by decide) rfl rfl (fun q hq => cR_ne c _ hq)
theorem csN_116_1 (h : Hp) (c : Ch) : sV (cput h c) 7 116 1 .null = some (cput h (cR c 116 1 none)) := c_sV h c _ (by decide) rfl rfl (fun q hq => cR_ne c _ hq)
theorem cgI_116_2 (h : Hp) (c : Ch) : gI (cput h c) 7 116 2 = some (c.1 116 2) := by unfold gI; rw [c_gV h c (fs := _) (by decide) rfl]; rfl
theorem csI_116_2 (h : Hp) (c : Ch) (v : Int32) : sV (cput h c) 7 116 2 (.int v) = some (cput h (cI c 116 2 v)) := c_sV h c _ (by decide) rfl rfl (fun q hq => cI_ne c _ hq)
theorem cgN_116_3 (h : Hp) (c : Ch) : gN (cput h c) 7 116 3 = some (117) := by unfold gN; rw [c_gV h c (fs := _) (by decide) rfl]; rfl
theorem cgI_116_4 (h : Hp) (c : Ch) : gI (cput h c) 7 116 4 = some (c.1 116 4) := by unfold gI; rw [c_gV h c (fs := _) (by decide) rfl]; rfl
theorem csI_116_4 (h : Hp) (c : Ch) (v : Int32) : sV (cput h c) 7 116 4 (.int v) = some (cput h (cI c 116 4 v)) := c_sV h c _ (by decide) rfl rfl (fun q hq => cI_ne c _ hq)
theorem cgN_116_5 (h : Hp) (c : Ch) : gN (cput h c) 7 116 5 = some (118) := by unfold gN; rw [c_gV h c (fs := _) (by decide) rfl]; rfl
theorem cgN_116_6 (h : Hp) (c : Ch) : gN (cput h c) 7 116 6 = some (119) := by unfold gN; rw [c_gV h c (fs := _) (by decide) rfl]; rfl
theorem cgN_116_7 (h : Hp) (c : Ch) : gN (cput h c) 7 116 7 = some (120) := by unfold gN; rw [c_gV h c (fs := _) (by decide) rfl]; rfl
theorem cgN_116_8 (h : Hp) (c : Ch) : gN (cput h c) 7 116 8 = some (121) := by unfold gN; rw [c_gV h c (fs := _) (by decide) rfl]; rfl
theorem cgN_116_9 (h : Hp) (c : Ch) : gN (cput h c) 7 116 9 = some (122) := by unfold gN; rw [c_gV h c (fs := _) (by decide) rfl]; rfl
theorem cgN_116_10 (h : Hp) (c : Ch) : gN (cput h c) 7 116 10 = some (123) := by unfold gN; rw [c_gV h c (fs := _) (by decide) rfl]; rfl
theorem cgN_116_11 (h : Hp) (c : Ch) : gN (cput h c) 7 116 11 = some (124) := by unfold gN; rw [c_gV h c (fs := _) (by decide) rfl]; rfl
theorem cgI_116_12 (h : Hp) (c : Ch) : gI (cput h c) 7 116 12 = some (c.1 116 12) := by unfold gI; rw [c_gV h c (fs := _) (by decide) rfl]; rfl
theorem csI_116_12 (h : Hp) (c : Ch) (v : Int32) : sV (cput h c) 7 116 12 (.int v) = some (cput h (cI c 116 12 v)) := c_sV h c _ (by decide) rfl rfl (fun q hq => cI_ne c _ hq)
theorem cgI_116_13 (h : Hp) (c : Ch) : gI (cput h c) 7 116 13 = some (c.1 116 13) := by unfold gI; rw [c_gV h c (fs := _) (by decide) rfl]; rfl
theorem csI_116_13 (h : Hp) (c : Ch) (v : Int32) : sV (cput h c) 7 116 13 (.int v) = some (cput h (cI c 116 13 v)) := c_sV h c _ (by decide) rfl rfl (fun q hq => cI_ne c _ hq)
theorem cgI_116_14 (h : Hp) (c : Ch) : gI (cput h c) 7 116 14 = some (c.1 116 14) := by unfold gI; rw [c_gV h c (fs := _) (by decide) rfl]; rfl
theorem csI_116_14 (h : Hp) (c : Ch) (v : Int32) : sV (cput h c) 7 116 14 (.int v) = some (cput h (cI c 116 14 v)) := c_sV h c _ (by decide) rfl rfl (fun q hq => cI_ne c _ hq)
theorem cgI_116_15 (h : Hp) (c : Ch) : gI (cput h c) 7 116 15 = some (c.1 116 15) := by unfold gI; rw [c_gV h c (fs := _) (by decide) rfl]; rfl
theorem csI_116_15 (h : Hp) (c : Ch) (v : Int32) : sV (cput h c) 7 116 15 (.int v) = some (cput h (cI c 116 15 v)) := c_sV h c _ (by decide) rfl rfl (fun q hq => cI_ne c _ hq)
theorem cgI_116_16 (h : Hp) (c : Ch) : gI (cput h c) 7 116 16 = some (c.1 116 16) := by unfold gI; rw [c_gV h c (fs := _) (by decide) rfl]; rfl
theorem csI_116_16 (h : Hp) (c : Ch) (v : Int32) : sV (cput h c) 7 116 16 (.int v) = some (cput h (cI c 116 16 v)) := c_sV h c _ (by decide) rfl rfl (fun q hq => cI_ne c _ hq)
theorem caI_81 (h : Hp) (c : Ch) (i : Int32) : aI 1 (cput h c) 81 i = cA c 81 900 i := c_aI h c i (by decide) rfl
theorem cwI_81 (h : Hp) (c : Ch) (i x : Int32) : wI 1 (cput h c) 81 i x = (cWA c 1 81 900 i x).map (cput h) := c_wI h c i x (by decide) (fun _ => rfl)
theorem caL_81 (h : Hp) (c : Ch) : aL (cput h c) 81 = some (Int32.ofNat 900) := c_aL h c (by decide) rfl
theorem caI_84 (h : Hp) (c : Ch) (i : Int32) : aI 1 (cput h c) 84 i = cA c 84 0 i := c_aI h c i (by decide) rfl
theorem cwI_84 (h : Hp) (c : Ch) (i x : Int32) : wI 1 (cput h c) 84 i x = (cWA c 1 84 0 i x).map (cput h) := c_wI h c i x (by decide) (fun _ => rfl)
theorem caL_84 (h : Hp) (c : Ch) : aL (cput h c) 84 = some (Int32.ofNat 0) := c_aL h c (by decide) rfl
theorem caI_85 (h : Hp) (c : Ch) (i : Int32) : aI 0 (cput h c) 85 i = cA c 85 900 i := c_aI h c i (by decide) rfl
theorem cwI_85 (h : Hp) (c : Ch) (i x : Int32) : wI 0 (cput h c) 85 i x = (cWA c 0 85 900 i x).map (cput h) := c_wI h c i x (by decide) (fun _ => rfl)
theorem caL_85 (h : Hp) (c : Ch) : aL (cput h c) 85 = some (Int32.ofNat 900) := c_aL h c (by decide) rfl
theorem caI_109 (h : Hp) (c : Ch) (i : Int32) : aI 0 (cput h c) 109 i = cA c 109 8 i := c_aI h c i (by decide) rfl
theorem cwI_109 (h : Hp) (c : Ch) (i x : Int32) : wI 0 (cput h c) 109 i x = (cWA c 0 109 8 i x).map (cput h) := c_wI h c i x (by decide) (fun _ => rfl)
theorem caL_109 (h : Hp) (c : Ch) : aL (cput h c) 109 = some (Int32.ofNat 8) := c_aL h c (by decide) rfl
theorem caI_110 (h : Hp) (c : Ch) (i : Int32) : aI 0 (cput h c) 110 i = cA c 110 64 i := c_aI h c i (by decide) rfl
theorem cwI_110 (h : Hp) (c : Ch) (i x : Int32) : wI 0 (cput h c) 110 i x = (cWA c 0 110 64 i x).map (cput h) := c_wI h c i x (by decide) (fun _ => rfl)
theorem caL_110 (h : Hp) (c : Ch) : aL (cput h c) 110 = some (Int32.ofNat 64) := c_aL h c (by decide) rfl
theorem caI_111 (h : Hp) (c : Ch) (i : Int32) : aI 1 (cput h c) 111 i = cA c 111 2000 i := c_aI h c i (by decide) rfl
theorem cwI_111 (h : Hp) (c : Ch) (i x : Int32) : wI 1 (cput h c) 111 i x = (cWA c 1 111 2000 i x).map (cput h) := c_wI h c i x (by decide) (fun _ => rfl)
theorem caL_111 (h : Hp) (c : Ch) : aL (cput h c) 111 = some (Int32.ofNat 2000) := c_aL h c (by decide) rfl
theorem caI_112 (h : Hp) (c : Ch) (i : Int32) : aI 1 (cput h c) 112 i = cA c 112 20000 i := c_aI h c i (by decide) rfl
theorem cwI_112 (h : Hp) (c : Ch) (i x : Int32) : wI 1 (cput h c) 112 i x = (cWA c 1 112 20000 i x).map (cput h) := c_wI h c i x (by decide) (fun _ => rfl)
theorem caL_112 (h : Hp) (c : Ch) : aL (cput h c) 112 = some (Int32.ofNat 20000) := c_aL h c (by decide) rfl
theorem caI_113 (h : Hp) (c : Ch) (i : Int32) : aI 0 (cput h c) 113 i = cA c 113 20 i := c_aI h c i (by decide) rfl
theorem cwI_113 (h : Hp) (c : Ch) (i x : Int32) : wI 0 (cput h c) 113 i x = (cWA c 0 113 20 i x).map (cput h) := c_wI h c i x (by decide) (fun _ => rfl)
theorem caL_113 (h : Hp) (c : Ch) : aL (cput h c) 113 = some (Int32.ofNat 20) := c_aL h c (by decide) rfl
theorem caI_117 (h : Hp) (c : Ch) (i : Int32) : aI 0 (cput h c) 117 i = cA c 117 20000 i := c_aI h c i (by decide) rfl
theorem cwI_117 (h : Hp) (c : Ch) (i x : Int32) : wI 0 (cput h c) 117 i x = (cWA c 0 117 20000 i x).map (cput h) := c_wI h c i x (by decide) (fun _ => rfl)
theorem caL_117 (h : Hp) (c : Ch) : aL (cput h c) 117 = some (Int32.ofNat 20000) := c_aL h c (by decide) rfl
theorem caI_118 (h : Hp) (c : Ch) (i : Int32) : aI 0 (cput h c) 118 i = cA c 118 20000 i := c_aI h c i (by decide) rfl
theorem cwI_118 (h : Hp) (c : Ch) (i x : Int32) : wI 0 (cput h c) 118 i x = (cWA c 0 118 20000 i x).map (cput h) := c_wI h c i x (by decide) (fun _ => rfl)
theorem caL_118 (h : Hp) (c : Ch) : aL (cput h c) 118 = some (Int32.ofNat 20000) := c_aL h c (by decide) rfl
theorem caI_119 (h : Hp) (c : Ch) (i : Int32) : aI 0 (cput h c) 119 i = cA c 119 20000 i := c_aI h c i (by decide) rfl
theorem cwI_119 (h : Hp) (c : Ch) (i x : Int32) : wI 0 (cput h c) 119 i x = (cWA c 0 119 20000 i x).map (cput h) := c_wI h c i x (by decide) (fun _ => rfl)
theorem caL_119 (h : Hp) (c : Ch) : aL (cput h c) 119 = some (Int32.ofNat 20000) := c_aL h c (by decide) rfl
theorem caI_120 (h : Hp) (c : Ch) (i : Int32) : aI 0 (cput h c) 120 i = cA c 120 20000 i := c_aI h c i (by decide) rfl
theorem cwI_120 (h : Hp) (c : Ch) (i x : Int32) : wI 0 (cput h c) 120 i x = (cWA c 0 120 20000 i x).map (cput h) := c_wI h c i x (by decide) (fun _ => rfl)
theorem caL_120 (h : Hp) (c : Ch) : aL (cput h c) 120 = some (Int32.ofNat 20000) := c_aL h c (by decide) rfl
theorem caJ_121 (h : Hp) (c : Ch) (i : Int32) : aJ (cput h c) 121 i = cL c 121 20000 i := c_aJ h c i (by decide) rfl
theorem cwJ_121 (h : Hp) (c : Ch) (i : Int32) (x : Int64) : wJ (cput h c) 121 i x = (cWL c 121 20000 i x).map (cput h) := c_wJ h c i x (by decide) (fun _ => rfl)
theorem caL_121 (h : Hp) (c : Ch) : aL (cput h c) 121 = some (Int32.ofNat 20000) := c_aL h c (by decide) rfl
theorem caI_122 (h : Hp) (c : Ch) (i : Int32) : aI 0 (cput h c) 122 i = cA c 122 35 i := c_aI h c i (by decide) rfl
theorem cwI_122 (h : Hp) (c : Ch) (i x : Int32) : wI 0 (cput h c) 122 i x = (cWA c 0 122 35 i x).map (cput h) := c_wI h c i x (by decide) (fun _ => rfl)
theorem caL_122 (h : Hp) (c : Ch) : aL (cput h c) 122 = some (Int32.ofNat 35) := c_aL h c (by decide) rfl
theorem caI_123 (h : Hp) (c : Ch) (i : Int32) : aI 0 (cput h c) 123 i = cA c 123 35 i := c_aI h c i (by decide) rfl
theorem cwI_123 (h : Hp) (c : Ch) (i x : Int32) : wI 0 (cput h c) 123 i x = (cWA c 0 123 35 i x).map (cput h) := c_wI h c i x (by decide) (fun _ => rfl)
theorem caL_123 (h : Hp) (c : Ch) : aL (cput h c) 123 = some (Int32.ofNat 35) := c_aL h c (by decide) rfl
theorem caI_124 (h : Hp) (c : Ch) (i : Int32) : aI 0 (cput h c) 124 i = cA c 124 10 i := c_aI h c i (by decide) rfl
theorem cwI_124 (h : Hp) (c : Ch) (i x : Int32) : wI 0 (cput h c) 124 i x = (cWA c 0 124 10 i x).map (cput h) := c_wI h c i x (by decide) (fun _ => rfl)
theorem caL_124 (h : Hp) (c : Ch) : aL (cput h c) 124 = some (Int32.ofNat 10) := c_aL h c (by decide) rfl
theorem caI_125 (h : Hp) (c : Ch) (i : Int32) : aI 0 (cput h c) 125 i = cA c 125 4 i := c_aI h c i (by decide) rfl
theorem cwI_125 (h : Hp) (c : Ch) (i x : Int32) : wI 0 (cput h c) 125 i x = (cWA c 0 125 4 i x).map (cput h) := c_wI h c i x (by decide) (fun _ => rfl)
theorem caL_125 (h : Hp) (c : Ch) : aL (cput h c) 125 = some (Int32.ofNat 4) := c_aL h c (by decide) rfl
theorem caI_126 (h : Hp) (c : Ch) (i : Int32) : aI 0 (cput h c) 126 i = cA c 126 4 i := c_aI h c i (by decide) rfl
theorem cwI_126 (h : Hp) (c : Ch) (i x : Int32) : wI 0 (cput h c) 126 i x = (cWA c 0 126 4 i x).map (cput h) := c_wI h c i x (by decide) (fun _ => rfl)
theorem caL_126 (h : Hp) (c : Ch) : aL (cput h c) 126 = some (Int32.ofNat 4) := c_aL h c (by decide) rfl
theorem caI_127 (h : Hp) (c : Ch) (i : Int32) : aI 0 (cput h c) 127 i = cA c 127 19 i := c_aI h c i (by decide) rfl
theorem cwI_127 (h : Hp) (c : Ch) (i x : Int32) : wI 0 (cput h c) 127 i x = (cWA c 0 127 19 i x).map (cput h) := c_wI h c i x (by decide) (fun _ => rfl)
theorem caL_127 (h : Hp) (c : Ch) : aL (cput h c) 127 = some (Int32.ofNat 19) := c_aL h c (by decide) rfl
theorem cgO_s {α : Type} (h : Hp) (c : Ch) (j : Nat) (e : Option α) : gO (cput h c) 8 (sadr j) e = e := c_gO h c e (sadr_st j).2 (cell_st c j)
theorem cgO_t {α : Type} (h : Hp) (c : Ch) (j : Nat) (e : Option α) : gO (cput h c) 9 (tadr j) e = e := c_gO h c e (tadr_tr j).1.2.2 (cell_tr c j)
theorem cgI_s_0 (h : Hp) (c : Ch) (j : Nat) : gI (cput h c) 8 (sadr j) 0 = some (c.1 (sadr j) 0) := by unfold gI; rw [c_gV h c (sadr_st j).2 (cell_st c j)]; rfl
theorem csI_s_0 (h : Hp) (c : Ch) (j : Nat) (v : Int32) : sV (cput h c) 8 (sadr j) 0 (.int v) = some (cput h (cI c (sadr j) 0 v)) := c_sV h c _ (sadr_st j).2 (cell_st c j) (by rw [cell_st]; simp only [cI, u2_eq]; rfl) (fun q hq => cI_ne c _ hq)
theorem cgI_s_1 (h : Hp) (c : Ch) (j : Nat) : gI (cput h c) 8 (sadr j) 1 = some (c.1 (sadr j) 1) := by unfold gI; rw [c_gV h c (sadr_st j).2 (cell_st c j)]; rfl
theorem csI_s_1 (h : Hp) (c : Ch) (j : Nat) (v : Int32) : sV (cput h c) 8 (sadr j) 1 (.int v) = some (cput h (cI c (sadr j) 1 v)) := c_sV h c _ (sadr_st j).2 (cell_st c j) (by rw [cell_st]; simp only [cI, u2_eq]; rfl) (fun q hq => cI_ne c _ hq)
theorem cgI_s_2 (h : Hp) (c : Ch) (j : Nat) : gI (cput h c) 8 (sadr j) 2 = some (c.1 (sadr j) 2) := by unfold gI; rw [c_gV h c (sadr_st j).2 (cell_st c j)]; rfl
theorem csI_s_2 (h : Hp) (c : Ch) (j : Nat) (v : Int32) : sV (cput h c) 8 (sadr j) 2 (.int v) = some (cput h (cI c (sadr j) 2 v)) := c_sV h c _ (sadr_st j).2 (cell_st c j) (by rw [cell_st]; simp only [cI, u2_eq]; rfl) (fun q hq => cI_ne c _ hq)
theorem cgI_s_3 (h : Hp) (c : Ch) (j : Nat) : gI (cput h c) 8 (sadr j) 3 = some (c.1 (sadr j) 3) := by unfold gI; rw [c_gV h c (sadr_st j).2 (cell_st c j)]; rfl
theorem csI_s_3 (h : Hp) (c : Ch) (j : Nat) (v : Int32) : sV (cput h c) 8 (sadr j) 3 (.int v) = some (cput h (cI c (sadr j) 3 v)) := c_sV h c _ (sadr_st j).2 (cell_st c j) (by rw [cell_st]; simp only [cI, u2_eq]; rfl) (fun q hq => cI_ne c _ hq)
theorem cgI_t_1 (h : Hp) (c : Ch) (j : Nat) : gI (cput h c) 9 (tadr j) 1 = some (c.1 (tadr j) 1) := by unfold gI; rw [c_gV h c (tadr_tr j).1.2.2 (cell_tr c j)]; rfl
theorem csI_t_1 (h : Hp) (c : Ch) (j : Nat) (v : Int32) : sV (cput h c) 9 (tadr j) 1 (.int v) = some (cput h (cI c (tadr j) 1 v)) := c_sV h c _ (tadr_tr j).1.2.2 (cell_tr c j) (by rw [cell_tr]; simp only [cI, u2_eq]; rfl) (fun q hq => cI_ne c _ hq)
theorem cgI_t_2 (h : Hp) (c : Ch) (j : Nat) : gI (cput h c) 9 (tadr j) 2 = some (c.1 (tadr j) 2) := by unfold gI; rw [c_gV h c (tadr_tr j).1.2.2 (cell_tr c j)]; rfl
theorem csI_t_2 (h : Hp) (c : Ch) (j : Nat) (v : Int32) : sV (cput h c) 9 (tadr j) 2 (.int v) = some (cput h (cI c (tadr j) 2 v)) := c_sV h c _ (tadr_tr j).1.2.2 (cell_tr c j) (by rw [cell_tr]; simp only [cI, u2_eq]; rfl) (fun q hq => cI_ne c _ hq)
theorem cgI_t_3 (h : Hp) (c : Ch) (j : Nat) : gI (cput h c) 9 (tadr j) 3 = some (c.1 (tadr j) 3) := by unfold gI; rw [c_gV h c (tadr_tr j).1.2.2 (cell_tr c j)]; rfl
theorem csI_t_3 (h : Hp) (c : Ch) (j : Nat) (v : Int32) : sV (cput h c) 9 (tadr j) 3 (.int v) = some (cput h (cI c (tadr j) 3 v)) := c_sV h c _ (tadr_tr j).1.2.2 (cell_tr c j) (by rw [cell_tr]; simp only [cI, u2_eq]; rfl) (fun q hq => cI_ne c _ hq)
theorem cgN_t_0 (h : Hp) (c : Ch) (j : Nat) : gN (cput h c) 9 (tadr j) 0 = some (tadr j + 1) := by unfold gN; rw [c_gV h c (tadr_tr j).1.2.2 (cell_tr c j)]; rfl
theorem caJ_tp (h : Hp) (c : Ch) (j : Nat) (i : Int32) : aJ (cput h c) (tadr j + 1) i = cL c (tadr j + 1) 40 i := c_aJ h c i (tadr_tr j).2.2.2.2 (cell_tp c j)
theorem cwJ_tp (h : Hp) (c : Ch) (j : Nat) (i : Int32) (x : Int64) : wJ (cput h c) (tadr j + 1) i x = (cWL c (tadr j + 1) 40 i x).map (cput h) := c_wJ h c i x (tadr_tr j).2.2.2.2 (fun c => cell_tp c j)
theorem caI_ya (h : Hp) (c : Ch) (j : Nat) (i : Int32) : aI 0 (cput h c) (yadr j) i = cA c (yadr j) 4 i := c_aI h c i (yadr_d j) (cell_ya c j)
theorem caL_ya (h : Hp) (c : Ch) (j : Nat) : aL (cput h c) (yadr j) = some (Int32.ofNat 4) := c_aL h c (yadr_d j) (cell_ya c j)
theorem cwI_ya (h : Hp) (c : Ch) (j : Nat) (i x : Int32) : wI 0 (cput h c) (yadr j) i x = (cWA c 0 (yadr j) 4 i x).map (cput h) := c_wI h c i x (yadr_d j) (fun c => cell_ya c j)
theorem caI_wa (h : Hp) (c : Ch) (j : Nat) (i : Int32) : aI 0 (cput h c) (wadr j) i = cA c (wadr j) 35 i := c_aI h c i (wadr_d j) (cell_wa c j)
theorem caL_wa (h : Hp) (c : Ch) (j : Nat) : aL (cput h c) (wadr j) = some (Int32.ofNat 35) := c_aL h c (wadr_d j) (cell_wa c j)
theorem cwI_wa (h : Hp) (c : Ch) (j : Nat) (i x : Int32) : wI 0 (cput h c) (wadr j) i x = (cWA c 0 (wadr j) 35 i x).map (cput h) := c_wI h c i x (wadr_d j) (fun c => cell_wa c j)
/-- rows of objects: which one -/
def iff_ {α : Type} (p : Bool) (e : Option α) : Option α := if p = true then e else none
theorem iff_map {α β : Type} (p : Bool) (e : Option α) (f : α → β) : Option.map f (iff_ p e) = iff_ p (Option.map f e) := by unfold iff_; split <;> rfl
theorem c_aN94 {α : Type} (h : Hp) (c : Ch) (i : Int32) (K : Nat → Option α) : (aN (cput h c) 94 i).bind K = iff_ (inB i 10) (K (sadr (3 + i.toNatClampNeg))) := by
  unfold aN aR
  rw [cput_at h c (by decide)]
  show (match (if 4 ≤ 4 ∧ inB i 10 = true then some (if i.toNatClampNeg < 10 then some (95 + i.toNatClampNeg) else none) else none) with | some (some v) => some v | _ => none).bind K = _
  unfold iff_
  by_cases hb : inB i 10 = true
  · have hlt : i.toNatClampNeg < 10 := Nat.not_le.mp fun q => inB_in hb (Or.inr q)
    rw [if_pos ⟨by decide, hb⟩, if_pos hlt, if_pos hb]
    show K (95 + i.toNatClampNeg) = _
    unfold sadr
    rw [if_neg (by omega), if_pos (by omega), show 92 + (3 + i.toNatClampNeg) = 95 + i.toNatClampNeg by omega]
  · rw [if_neg (fun z => hb z.2), if_neg hb]
    rfl
theorem c_aN107 {α : Type} (h : Hp) (c : Ch) (i : Int32) (K : Nat → Option α) : (aN (cput h c) 107 i).bind K = iff_ (inB i 2) (K (sadr (13 + i.toNatClampNeg))) := by
  unfold aN aR
  rw [cput_at h c (by decide)]
  show (match (if 4 ≤ 4 ∧ inB i 2 = true then some (if i.toNatClampNeg < 2 then some (136 + i.toNatClampNeg) else none) else none) with | some (some v) => some v | _ => none).bind K = _
  unfold iff_
  by_cases hb : inB i 2 = true
  · have hlt : i.toNatClampNeg < 2 := Nat.not_le.mp fun q => inB_in hb (Or.inr q)
    rw [if_pos ⟨by decide, hb⟩, if_pos hlt, if_pos hb]
    show K (136 + i.toNatClampNeg) = _
    unfold sadr
    rw [if_neg (by omega), if_neg (by omega), if_pos (by omega), show 123 + (13 + i.toNatClampNeg) = 136 + i.toNatClampNeg by omega]
  · rw [if_neg (fun z => hb z.2), if_neg hb]
    rfl
theorem c_aN105 {α : Type} (h : Hp) (c : Ch) (i : Int32) (K : Nat → Option α) : (aN (cput h c) 105 i).bind K = iff_ (inB i 4) (K (tadr i.toNatClampNeg)) := by
  unfold aN aR
  rw [cput_at h c (by decide)]
  show (match (if 4 ≤ 5 ∧ inB i 4 = true then some (if i.toNatClampNeg < 4 then some (128 + 2 * i.toNatClampNeg) else none) else none) with | some (some v) => some v | _ => none).bind K = _
  unfold iff_
  by_cases hb : inB i 4 = true
  · have hlt : i.toNatClampNeg < 4 := Nat.not_le.mp fun q => inB_in hb (Or.inr q)
    rw [if_pos ⟨by decide, hb⟩, if_pos hlt, if_pos hb]
    show K (128 + 2 * i.toNatClampNeg) = _
    unfold tadr
    rw [if_pos hlt]
  · rw [if_neg (fun z => hb z.2), if_neg hb]
    rfl
def cWQ2 (h : Hp) (c : Ch) (i : Int32) (x : Nat) : Option Ch := if inB i 2 = true then gO (cput h c) 0 x (some (c.1, c.2.1, c.2.2.1, c.2.2.2.1, c.2.2.2.2.1, u2 c.2.2.2.2.2 106 i.toNatClampNeg (some x))) else none
theorem c_wR106 (h : Hp) (c : Ch) (i : Int32) (x : Nat) : wR 6 0 (cput h c) 106 i x = (cWQ2 h c i x).map (cput h) := by
  unfold wR cWQ2
  rw [cput_at h c (r := 106) (by decide)]
  show (if 6 = 6 ∧ inB i 2 = true then gO (cput h c) 0 x (some (hp_set (cput h c) 106 (.inl (6, 2, .inr (.inr (.inr (.inr (va_up (c.2.2.2.2.2 106) i.toNatClampNeg (some x))))))))) else none) = _
  by_cases hb : inB i 2 = true
  · rw [if_pos ⟨rfl, hb⟩, if_pos hb]
    unfold gO
    split
    · split
      · rw [Option.map_some]
        congr 1
        refine cput_set h c _ (by decide) ?_ (fun q hq => ?_)
        · rfl
        · unfold cell
          simp only [u2_ne _ _ hq]
      · rfl
    · rfl
  · rw [if_neg (fun z => hb z.2), if_neg hb]
    rfl
theorem c_aR106 (h : Hp) (c : Ch) (i : Int32) : aR (cput h c) 106 i = cQ c i := by
  unfold aR
  rw [cput_at h c (by decide)]
  show (if 4 ≤ 6 ∧ inB i 2 = true then some (c.2.2.2.2.2 106 i.toNatClampNeg) else none) = _
  unfold cQ
  by_cases hb : inB i 2 = true
  · rw [if_pos ⟨by decide, hb⟩, if_pos hb]
  · rw [if_neg (fun z => hb z.2), if_neg hb]
