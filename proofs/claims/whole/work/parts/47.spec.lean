/-! what both sides reckon: digits, laws, years -/
def dg (s p : Nat) : Nat := s / 10 ^ p % 10
def d5 (l p : Nat) : Nat := l / 5 ^ p % 5
theorem dg_lt (s p : Nat) : dg s p < 10 := Nat.mod_lt _ (by decide)
theorem d5_lt (s p : Nat) : d5 s p < 5 := Nat.mod_lt _ (by decide)
def mets : Nat → Nat → Nat
  | 0, _ => 0
  | P + 1, s => mets P s + (if dg s P = 0 then 1 else 0)
def metb : Nat → Nat → Nat
  | 0, _ => 0
  | P + 1, s => metb P s + (if dg s P = 0 then 2 ^ P else 0)
def gsum : Nat → Nat → Nat
  | 0, _ => 0
  | P + 1, s => gsum P s + dg s P
def gwid : Nat → Nat → Nat
  | 0, _ => 0
  | P + 1, s => if gwid P s < dg s P then dg s P else gwid P s
def cod (f : Nat → Nat) : Nat → Nat
  | 0 => 0
  | P + 1 => cod f P + f P * 10 ^ P
theorem mets_le (P s : Nat) : mets P s ≤ P := by
  induction P with
  | zero => exact Nat.le_refl 0
  | succ P ih =>
    show mets P s + (if dg s P = 0 then 1 else 0) ≤ P + 1
    split <;> omega
theorem gsum_le (P s : Nat) : gsum P s ≤ 9 * P := by
  induction P with
  | zero => exact Nat.le_refl 0
  | succ P ih =>
    show gsum P s + dg s P ≤ 9 * (P + 1)
    have := dg_lt s P
    omega
theorem gwid_le (P s : Nat) : gwid P s ≤ 9 := by
  induction P with
  | zero => exact Nat.zero_le 9
  | succ P ih =>
    show (if gwid P s < dg s P then dg s P else gwid P s) ≤ 9
    have := dg_lt s P
    split <;> omega
theorem cod_lt (f : Nat → Nat) (hf : ∀ p, f p < 10) (P : Nat) : cod f P < 10 ^ P := by
  induction P with
  | zero => exact Nat.one_pos
  | succ P ih =>
    show cod f P + f P * 10 ^ P < 10 ^ (P + 1)
    rw [Nat.pow_succ]
    have h := hf P
    have h2 : f P * 10 ^ P ≤ 9 * 10 ^ P := Nat.mul_le_mul_right _ (by omega)
    omega
theorem metb_lt (P s : Nat) : metb P s < 2 ^ P := by
  induction P with
  | zero => exact Nat.one_pos
  | succ P ih =>
    show metb P s + (if dg s P = 0 then 2 ^ P else 0) < 2 ^ (P + 1)
    rw [Nat.pow_succ]
    split <;> omega
/-- what is left of a gap -/
def kp (x : Int32) : Int32 := if x < 0 then 0 else if 9 < x then 9 else x
def kN (x : Int32) : Nat := (kp x).toNatClampNeg
theorem kp_n (x : Int32) : kp x = nI (kN x) ∧ kN x < 10 := by
  unfold kN kp
  split
  · exact ⟨rfl, by decide⟩
  · rename_i h
    split
    · exact ⟨rfl, by decide⟩
    · rename_i h2
      obtain ⟨j, hj, e⟩ := nI_of h
      subst e
      have h3 : ¬ 9 < j := fun q => h2 (nI_lt q hj)
      rw [nI_clamp hj]
      exact ⟨rfl, by omega⟩
theorem kN_lt (x : Int32) : kN x < 10 := (kp_n x).2
/-- a year's gaps, of what each pair grows by -/
def ygap (gr : Nat → Nat → Nat → Nat → Nat → Int32) (P s l dry p : Nat) : Nat := if dg s p = 0 then 0 else kN (nI (dg s p) - gr p (d5 l p) (dg s p) (mets P s) dry)
theorem ygap_lt (gr : Nat → Nat → Nat → Nat → Nat → Int32) (P s l dry p : Nat) : ygap gr P s l dry p < 10 := by
  unfold ygap
  split
  · decide
  · exact kN_lt _
def yto (gr : Nat → Nat → Nat → Nat → Nat → Int32) (P s l dry : Nat) : Nat := cod (ygap gr P s l dry) P
/-- the stand behind a year -/
def yr (gr : Nat → Nat → Nat → Nat → Nat → Int32) (rf : Nat → Nat → Bool) (P s l dry : Nat) : Nat := if 10000 ≤ s then s else if rf (yto gr P s l dry) dry = true then yto gr P s l dry + 10000 else yto gr P s l dry
/-- laws: their codes as the reference's, one behind the other -/
def clp (v : Int64) : Int32 := if 1000000 < v then 1000000 else if v < -1000000 then -1000000 else v.toInt32
def btw (n : Nat) (a b : Int32) : Int32 := if n = 3003 then (if a = b then 1 else 0) else if n = 3004 then (if a < b then 1 else 0) else if n = 3005 then (if b < a then 1 else 0) else if n = 3007 then a &&& b else if n = 3008 then a ||| b
  else clp (if n = 3000 then a.toInt64 + b.toInt64 else if n = 3001 then a.toInt64 - b.toInt64 else a.toInt64 * b.toInt64)
def ev1 (w : Nat → Int32) (n : Nat) (st : List Int32) : List Int32 :=
  if n < 1000 then nI n :: st else if n < 3000 then w (n - 1000) :: st
  else if n = 3006 then (match st with
    | a :: r => (1 - a) :: r
    | [] => [])
  else if n = 3009 then (match st with
    | c :: b :: a :: r => (if a = 1 then b else c) :: r
    | _ => [])
  else match st with
    | b :: a :: r => btw n a b :: r
    | _ => []
def evs (w : Nat → Int32) : List Nat → List Int32 → List Int32
  | [], st => st
  | n :: l, st => evs w l (ev1 w n st)
def okw (g : Bool) (j : Nat) : Bool := if g = true then decide (j < 6) else (decide (j < 2) || decide (j = 6) || decide (j = 7))
def psh (b : Bool) (st : List Bool) : Option (List Bool) := if st.length < 64 then some (b :: st) else none
def ty1 (g : Bool) (n : Nat) (st : List Bool) : Option (List Bool) :=
  if n < 1000 then psh false st else if n < 3000 then (if okw g (n - 1000) = true then psh false st else none)
  else if n = 3006 then (match st with
    | true :: r => some (true :: r)
    | _ => none)
  else if n = 3009 then (match st with
    | false :: false :: true :: r => some (false :: r)
    | _ => none)
  else if n = 3007 ∨ n = 3008 then (match st with
    | true :: true :: r => some (true :: r)
    | _ => none)
  else if n < 3006 then (match st with
    | false :: false :: r => some (decide (3003 ≤ n) :: r)
    | _ => none)
  else none
def tys (g : Bool) : List Nat → List Bool → Option (List Bool)
  | [], st => some st
  | n :: l, st => (ty1 g n st).bind (tys g l)
/-- a row of values by its kinds: a truth is 0 or 1 -/
def typ : List Int32 → List Bool → Prop
  | [], [] => True
  | x :: r, b :: q => (b = true → x = 0 ∨ x = 1) ∧ typ r q
  | _, _ => False
theorem typ_len : ∀ (st : List Int32) (ts : List Bool), typ st ts → st.length = ts.length
  | [], [], _ => rfl
  | _ :: r, _ :: q, h => congrArg (· + 1) (typ_len r q h.2)
  | [], _ :: _, h => h.elim
  | _ :: _, [], h => h.elim
/-- a row of values, the topmost first, as it lies in an array -/
def stk (f : Nat → Int32) : List Int32 → Prop
  | [] => True
  | x :: r => f r.length = x ∧ stk f r
theorem stk_eq {f f' : Nat → Int32} : ∀ {st : List Int32}, (∀ i, i < st.length → f' i = f i) → stk f st → stk f' st
  | [], _, _ => True.intro
  | x :: r, h, hs => ⟨by rw [h r.length (by rw [List.length_cons]; omega)]; exact hs.1, stk_eq (fun i hi => h i (by rw [List.length_cons]; omega)) hs.2⟩
/-- what words a law of growth is told by, and a law of the roof -/
def wG (p chalk drops gap met dry : Nat) (j : Nat) : Int32 := if j = 0 then nI met else if j = 1 then nI dry else if j = 2 then nI p else if j = 3 then nI chalk else if j = 4 then nI drops else nI gap
def wF (met dry gaps wid : Nat) (j : Nat) : Int32 := if j = 0 then nI met else if j = 1 then nI dry else if j = 6 then nI gaps else nI wid
def lawv (w : Nat → Int32) (code : List Nat) : Int32 := (evs w code []).headD 0
def cl9 (x : Int32) : Int32 := if x < -9 then -9 else if 9 < x then 9 else x
def grw (gl : Option (List Nat)) (ch p drops gap met dry : Nat) : Int32 := match gl with
  | none => if dry = 1 then 0 else nI drops
  | some code => cl9 (lawv (wG p (dg ch p) drops gap met dry) code)
def roof (fl : Option (List Nat)) (P s dry : Nat) : Bool := match fl with
  | none => false
  | some code => decide (lawv (wF (mets P s) dry (gsum P s) (gwid P s)) code = 1)
