/-! texts -/
def strB : List (List Int32) := [[59, 58, 43, 45, 42, 40, 41, 91, 93, 61, 60, 62], [99, 97, 118, 101], [100, 114, 111, 112, 115], [59], [112, 97, 105, 114], [103, 97, 112], [99, 104, 97, 108, 107], [108, 101, 97, 100], [100, 114, 121], [103, 114, 111, 119, 115], [58], [40], [41], [105, 102], [110, 111, 116], [91], [93], [60], [62], [61], [97, 110, 100], [111, 114], [116, 104, 101, 110], [101, 108, 115, 101], [101, 110, 100], [109, 101, 116], [103, 97, 112, 115], [119, 105, 100, 101, 115, 116], [42], [43], [45], [102, 97, 108, 108, 115], [32, 99, 97, 118, 101, 32, 100, 114, 111, 112, 115, 32, 112, 97, 105, 114, 32, 103, 97, 112, 32, 99, 104, 97, 108, 107, 32, 108, 101, 97, 100, 32, 100, 114, 121, 32, 103, 114, 111, 119, 115, 32, 102, 97, 108, 108, 115, 32, 105, 102, 32, 116, 104, 101, 110, 32, 101, 108, 115, 101, 32, 101, 110, 100, 32, 109, 101, 116, 32, 103, 97, 112, 115, 32, 119, 105, 100, 101, 115, 116, 32, 97, 110, 100, 32, 111, 114, 32, 110, 111, 116, 32], [59, 58, 43, 45, 42, 40, 41, 91, 93, 61, 60, 62]]
def strTm (j : Nat) : Term := match strL[j]? with
  | some q => .string q.1 q.2
  | none => .arg 0
abbrev strVl (j : Nat) : Term := .field (strTm j) "java/lang/String" "value" "[B"
def strF : List Cond := flatC (Jvm.Cond.and given_1 narrow_1)
def strE (j : Nat) : List Cond := [Cond.exactly (strTm j) "java/lang/String", Cond.eq (.field (strTm j) "java/lang/String" "coder" "B") (.int 0), Cond.arrayOf (strVl j) .byte, Cond.eq (.length (strVl j)) (.int (Int32.ofNat (strB.getD j []).length))] ++ (List.range (strB.getD j []).length).map (fun k => Cond.eq (.elem (strVl j) (.int (Int32.ofNat k))) (.int ((strB.getD j []).getD k 0)))
set_option maxRecDepth 100000 in
theorem strP0 : (strF.drop 62).take 16 = strE 0 := by decide +kernel
set_option maxRecDepth 100000 in
theorem strP1 : (strF.drop 78).take 8 = strE 1 := by decide +kernel
set_option maxRecDepth 100000 in
theorem strP2 : (strF.drop 86).take 9 = strE 2 := by decide +kernel
set_option maxRecDepth 100000 in
theorem strP3 : (strF.drop 95).take 5 = strE 3 := by decide +kernel
set_option maxRecDepth 100000 in
theorem strP4 : (strF.drop 100).take 8 = strE 4 := by decide +kernel
set_option maxRecDepth 100000 in
theorem strP5 : (strF.drop 108).take 7 = strE 5 := by decide +kernel
set_option maxRecDepth 100000 in
theorem strP6 : (strF.drop 115).take 9 = strE 6 := by decide +kernel
set_option maxRecDepth 100000 in
theorem strP7 : (strF.drop 124).take 8 = strE 7 := by decide +kernel
set_option maxRecDepth 100000 in
theorem strP8 : (strF.drop 132).take 7 = strE 8 := by decide +kernel
set_option maxRecDepth 100000 in
theorem strP9 : (strF.drop 139).take 9 = strE 9 := by decide +kernel
set_option maxRecDepth 100000 in
theorem strP10 : (strF.drop 148).take 5 = strE 10 := by decide +kernel
set_option maxRecDepth 100000 in
theorem strP11 : (strF.drop 153).take 5 = strE 11 := by decide +kernel
set_option maxRecDepth 100000 in
theorem strP12 : (strF.drop 158).take 5 = strE 12 := by decide +kernel
set_option maxRecDepth 100000 in
theorem strP13 : (strF.drop 163).take 6 = strE 13 := by decide +kernel
set_option maxRecDepth 100000 in
theorem strP14 : (strF.drop 169).take 7 = strE 14 := by decide +kernel
set_option maxRecDepth 100000 in
theorem strP15 : (strF.drop 176).take 5 = strE 15 := by decide +kernel
set_option maxRecDepth 100000 in
theorem strP16 : (strF.drop 181).take 5 = strE 16 := by decide +kernel
set_option maxRecDepth 100000 in
theorem strP17 : (strF.drop 186).take 5 = strE 17 := by decide +kernel
set_option maxRecDepth 100000 in
theorem strP18 : (strF.drop 191).take 5 = strE 18 := by decide +kernel
set_option maxRecDepth 100000 in
theorem strP19 : (strF.drop 196).take 5 = strE 19 := by decide +kernel
set_option maxRecDepth 100000 in
theorem strP20 : (strF.drop 201).take 7 = strE 20 := by decide +kernel
set_option maxRecDepth 100000 in
theorem strP21 : (strF.drop 208).take 6 = strE 21 := by decide +kernel
set_option maxRecDepth 100000 in
theorem strP22 : (strF.drop 214).take 8 = strE 22 := by decide +kernel
set_option maxRecDepth 100000 in
theorem strP23 : (strF.drop 222).take 8 = strE 23 := by decide +kernel
set_option maxRecDepth 100000 in
theorem strP24 : (strF.drop 230).take 7 = strE 24 := by decide +kernel
set_option maxRecDepth 100000 in
theorem strP25 : (strF.drop 237).take 7 = strE 25 := by decide +kernel
set_option maxRecDepth 100000 in
theorem strP26 : (strF.drop 244).take 8 = strE 26 := by decide +kernel
set_option maxRecDepth 100000 in
theorem strP27 : (strF.drop 252).take 10 = strE 27 := by decide +kernel
set_option maxRecDepth 100000 in
theorem strP28 : (strF.drop 262).take 5 = strE 28 := by decide +kernel
set_option maxRecDepth 100000 in
theorem strP29 : (strF.drop 267).take 5 = strE 29 := by decide +kernel
set_option maxRecDepth 100000 in
theorem strP30 : (strF.drop 272).take 5 = strE 30 := by decide +kernel
set_option maxRecDepth 100000 in
theorem strP31 : (strF.drop 277).take 9 = strE 31 := by decide +kernel
set_option maxRecDepth 100000 in
theorem strP32 : (strF.drop 286).take 96 = strE 32 := by decide +kernel
set_option maxRecDepth 100000 in
theorem strP33 : (strF.drop 382).take 16 = strE 33 := by decide +kernel
theorem str_in {j p n : Nat} (h : (strF.drop p).take n = strE j) : ∀ w ∈ strE j, w ∈ strF := by
  intro w hw
  rw [← h] at hw
  exact List.mem_of_mem_drop (List.mem_of_mem_take hw)
theorem strOK : ∀ j, j < 34 → ∀ w ∈ strE j, w ∈ strF := by
  intro j hj
  match j, hj with
  | 0, _ => exact str_in strP0
  | 1, _ => exact str_in strP1
  | 2, _ => exact str_in strP2
  | 3, _ => exact str_in strP3
  | 4, _ => exact str_in strP4
  | 5, _ => exact str_in strP5
  | 6, _ => exact str_in strP6
  | 7, _ => exact str_in strP7
  | 8, _ => exact str_in strP8
  | 9, _ => exact str_in strP9
  | 10, _ => exact str_in strP10
  | 11, _ => exact str_in strP11
  | 12, _ => exact str_in strP12
  | 13, _ => exact str_in strP13
  | 14, _ => exact str_in strP14
  | 15, _ => exact str_in strP15
  | 16, _ => exact str_in strP16
  | 17, _ => exact str_in strP17
  | 18, _ => exact str_in strP18
  | 19, _ => exact str_in strP19
  | 20, _ => exact str_in strP20
  | 21, _ => exact str_in strP21
  | 22, _ => exact str_in strP22
  | 23, _ => exact str_in strP23
  | 24, _ => exact str_in strP24
  | 25, _ => exact str_in strP25
  | 26, _ => exact str_in strP26
  | 27, _ => exact str_in strP27
  | 28, _ => exact str_in strP28
  | 29, _ => exact str_in strP29
  | 30, _ => exact str_in strP30
  | 31, _ => exact str_in strP31
  | 32, _ => exact str_in strP32
  | 33, _ => exact str_in strP33
  | k + 34, hj => omega
theorem strLen : ∀ j, j < 34 → (strB.getD j []).length < 2 ^ 31 := by decide +kernel
theorem oldS : ∀ j, j < 34 → oldT[3 + j]? = some (strTm j) ∧ oldT[37 + j]? = some (strVl j) := by decide +kernel
theorem Wd.str {s0 : State} {D : va_G} {ol : Nat → Nat} {N : Nat} {xs : Nat → Int32} (hw : Wd s0 D ol N xs) {j : Nat} (hj : j < 34) :
    va_O "java/lang/String" (ol (3 + j)) (fun q => s0.heap.size ≤ q) s0 s0.heap ∧ va_OF "java/lang/String" "coder" "B" (.int 0) (ol (3 + j)) (fun q => s0.heap.size ≤ q) s0 s0.heap ∧ va_OF "java/lang/String" "value" "[B" (.ref (ol (37 + j))) (ol (3 + j)) (fun q => s0.heap.size ≤ q) s0 s0.heap ∧ va_T .byte (ol (37 + j)) (strB.getD j []).length (fun k => .int ((strB.getD j []).getD k 0)) (fun q => s0.heap.size ≤ q) s0 s0.heap := by
  have hs := flat_of_before _ hw.2.2.1
  have hc := strOK j hj
  have h1 := hc _ (show Cond.exactly (strTm j) "java/lang/String" ∈ strE j by simp [strE])
  have h2 := hc _ (show Cond.eq (.field (strTm j) "java/lang/String" "coder" "B") (.int 0) ∈ strE j by simp [strE])
  have h3 := hc _ (show Cond.arrayOf (strVl j) .byte ∈ strE j by simp [strE])
  have h4 := hc _ (show Cond.eq (.length (strVl j)) (.int (Int32.ofNat (strB.getD j []).length)) ∈ strE j by simp [strE])
  have h5 : ∀ k, k < (strB.getD j []).length → Cond.eq (.elem (strVl j) (.int (Int32.ofNat k))) (.int ((strB.getD j []).getD k 0)) ∈ strF := fun k hk => hc _ (List.mem_append_right _ (List.mem_map.mpr ⟨k, List.mem_range.mpr hk, rfl⟩))
  have e1 := hw.2.2.2.2.2.1 _ _ (oldS j hj).1
  have e2 := hw.2.2.2.2.2.1 _ _ (oldS j hj).2
  obtain ⟨a, c, cA, kA, q1, q2, q3, q4, q5, q6, -⟩ := Cond.exactly_spec (args := #[Value.ref (ol 0)]) (first := s0) (o := none) (s := s0) (idx := []) (t := strTm j) (cls := "java/lang/String") (hs _ h1)
  have ea : a = ol (3 + j) := Value.ref.inj (Option.some.inj (q1.symm.trans e1))
  subst ea
  obtain ⟨t, ht, hT⟩ := va_Tof (f := fun k => .int ((strB.getD j []).getD k 0)) (A := fun q => s0.heap.size ≤ q) (strLen j hj) (hs _ h3) (va_eqt (hs _ h4)) (fun k hk => va_eqt (hs _ (h5 k hk))) (oldA s0)
  have et : t = ol (37 + j) := Value.ref.inj (Option.some.inj (ht.symm.trans e2))
  subst et
  exact ⟨⟨cA, q3, q5, by rw [q6]; exact q2, oldA s0 _ (Array.getElem?_eq_some_iff.mp q3).1⟩, vk_OFof q1 (va_eqt (hs _ h2)) (oldA s0), vk_OFof q1 ht (oldA s0), hT⟩
/-- a text's number -/
def isT (b : Nat) : Bool := decide (3 ≤ b) && decide (b < 37)
def gT {α : Type} (b : Nat) (e : Option α) : Option α := if isT b = true then e else none
theorem gT_at {α : Type} {b : Nat} {e : Option α} {y : α} (q : gT b e = some y) : isT b = true ∧ e = some y := by
  unfold gT at q
  split at q
  · rename_i h
    exact ⟨h, q⟩
  · cases q
theorem isT_at {b : Nat} (h : isT b = true) : ∃ j, j < 34 ∧ b = 3 + j := by
  simp only [isT, Bool.and_eq_true, decide_eq_true_eq] at h
  exact ⟨b - 3, by omega, by omega⟩
def sA (b : Nat) : Option Nat := gT b (some (b + 34))
def sC (b : Nat) : Option Int32 := gT b (some 0)
def isB (b : Nat) : Bool := decide (37 ≤ b) && decide (b < 71)
def bL (a : Nat) : Option Int32 := if isB a = true then some (Int32.ofNat (strB.getD (a - 37) []).length) else none
def bA (a : Nat) (i : Int32) : Option Int32 := if isB a = true ∧ inB i (strB.getD (a - 37) []).length = true then some ((strB.getD (a - 37) []).getD i.toNatClampNeg 0) else none
def nb {α : Type} (x : Int32) (e : Option α) : Option α := if x.toInt8.toInt32 = x then e else none
def nc {α : Type} (x : Int32) (e : Option α) : Option α := if x.toUInt32.toUInt16.toUInt32.toInt32 = x then e else none
theorem nb_at {α : Type} {x : Int32} {e : Option α} {y : α} (q : nb x e = some y) : narrow .byte (.int x) = .int x ∧ e = some y := by
  unfold nb at q
  split at q
  · rename_i h
    exact ⟨by show Value.int _ = _; rw [h], q⟩
  · cases q
theorem nc_at {α : Type} {x : Int32} {e : Option α} {y : α} (q : nc x e = some y) : narrow .char (.int x) = .int x ∧ e = some y := by
  unfold nc at q
  split at q
  · rename_i h
    exact ⟨by show Value.int _ = _; rw [h], q⟩
  · cases q
section STR
variable {d : Nat} {M : Mt} {pc : Nat} {L : List (Option Value)} {st stk : List Value} {h h' : Hp} {r : Option Value}
theorem go_str {j idx : Nat} {tx : String} (hlk : oldT[j]? = some (.string M.1.cls idx) ∧ j < 80 ∧ Cond.stringRef M.1.cls idx tx ∈ lw_tbl) (hd : decode M.2.1 pc = .ok (.ldc idx, 2)) (kk : Go d M (pc + 2) L (.ref j :: st) h r h') : Go d M pc L st h r h' := by
  refine ⟨kk.1, kk.2.1, fun s0 D ol N xs hw p l e R s m args below meth c C ls H locs cells slots hl hR hf b1 b2 => ?_⟩
  have K := kk.2.2 s0 D ol N xs hw p l e R s m args below meth c C ls H locs cells slots hl hR hf b1 b2
  obtain ⟨hx, hb, hml, hr, hlo, hown, hnm, hW, hfr, hlc, hsz⟩ := C
  have ha : ad s0 ol j = ol j := if_pos hlk.2.1
  have K2 : W p l e R s m args below meth c H locs cells slots (MQ below (Qg s0 D ol r h') args s R.cells R.slots fun q => Array.size s0.heap ≤ q) (F0 m (pc + 2) ls (.ref (ad s0 ol j) :: st.map (rv (ad s0 ol)))) := K
  rw [ha] at K2
  exact va_ldcS hx hb hown (vk_R.warm hW (vk_R.of (hw.1 _ hlk.2.2) (hw.2.2.2.2.2.1 j _ hlk.1))) hd K2
theorem go_strw {j idx : Nat} {tx : String} (hlk : oldT[j]? = some (.string M.1.cls idx) ∧ j < 80 ∧ Cond.stringRef M.1.cls idx tx ∈ lw_tbl) (hd : decode M.2.1 pc = .ok (.ldc idx, 2)) (kk : Go d M (pc + 2) L (.ref j :: st) h r h') : Go d M pc L st h r h' := go_str hlk hd kk
theorem str_cell {s0 s : State} {D : va_G} {ol : Nat → Nat} {N : Nat} {xs : Nat → Int32} {H : Heap} (hw : Wd s0 D ol N xs) (hW : s0.WarmedH s.vm) (hR : Rep s0 D ol h H) {j : Nat} (hj : j < 34) : ∃ cellB : Cell, H[ad s0 ol (3 + j)]? = some cellB ∧ cellB.vm.isStatics = false ∧ s.vm.findClass "java/lang/String" = some cellB.cls := by
  obtain ⟨cell, q1, q2, q3, q4⟩ := va_O.moved hW.alike (hw.str hj).1
  have ha : ad s0 ol (3 + j) = ol (3 + j) := if_pos (by omega)
  exact ⟨cell, by rw [ha, hR.2.2.1 _ (Array.getElem?_eq_some_iff.mp q1).1]; exact q1, q2, q3⟩
theorem go_sA {b v idx : Nat} (hlk : Wg (.fieldLink M.1.cls idx "java/lang/String" "value" "[B")) (hv : sA b = some v) (hd : decode M.2.1 pc = .ok (.getfield idx, 3)) (kk : Go d M (pc + 3) L (.ref v :: st) h r h') : Go d M pc L (.ref b :: st) h r h' := by
  unfold sA at hv
  obtain ⟨hb0, hv2⟩ := gT_at hv
  obtain rfl := Option.some.inj hv2
  clear hv hv2
  obtain ⟨j, hj, rfl⟩ := isT_at hb0
  refine ⟨kk.1, kk.2.1, fun s0 D ol N xs hw p l e R s m args below meth c C ls H locs cells slots hl hR hf b1 b2 => ?_⟩
  have K := kk.2.2 s0 D ol N xs hw p l e R s m args below meth c C ls H locs cells slots hl hR hf b1 b2
  obtain ⟨hx, hb, hml, hr, hlo, hown, hnm, hW, hfr, hlc, hsz⟩ := C
  obtain ⟨cf, k, fi, f, cell, q1, q2, q3, q4, q5, q6⟩ := va_OF.moved hW.alike (hw.str hj).2.2.1
  have ha : ad s0 ol (3 + j) = ol (3 + j) := if_pos (by omega)
  have ha2 : ad s0 ol (3 + j + 34) = ol (37 + j) := by rw [show 3 + j + 34 = 37 + j by omega]; exact if_pos (by omega)
  have K2 : W p l e R s m args below meth c H locs cells slots (MQ below (Qg s0 D ol r h') args s R.cells R.slots fun q => Array.size s0.heap ≤ q) (F0 m (pc + 3) ls (.ref (ad s0 ol (3 + j + 34)) :: st.map (rv (ad s0 ol)))) := K
  rw [ha2] at K2
  show W p l e R s m args below meth c H locs cells slots _ (F0 m pc ls (.ref (ad s0 ol (3 + j)) :: st.map (rv (ad s0 ol))))
  rw [ha]
  exact W.getf hx hb hown (word hw hW hlk) q1 q2 (by rw [hR.2.2.1 _ (Array.getElem?_eq_some_iff.mp q3).1]; exact q3) q4 q5 rfl rfl hd K2
theorem go_sC {b idx : Nat} {v : Int32} (hlk : Wg (.fieldLink M.1.cls idx "java/lang/String" "coder" "B")) (hv : sC b = some v) (hd : decode M.2.1 pc = .ok (.getfield idx, 3)) (kk : Go d M (pc + 3) L (.int v :: st) h r h') : Go d M pc L (.ref b :: st) h r h' := by
  unfold sC at hv
  obtain ⟨hb0, hv2⟩ := gT_at hv
  obtain rfl := Option.some.inj hv2
  clear hv hv2
  obtain ⟨j, hj, rfl⟩ := isT_at hb0
  refine ⟨kk.1, kk.2.1, fun s0 D ol N xs hw p l e R s m args below meth c C ls H locs cells slots hl hR hf b1 b2 => ?_⟩
  have K := kk.2.2 s0 D ol N xs hw p l e R s m args below meth c C ls H locs cells slots hl hR hf b1 b2
  obtain ⟨hx, hb, hml, hr, hlo, hown, hnm, hW, hfr, hlc, hsz⟩ := C
  obtain ⟨cf, k, fi, f, cell, q1, q2, q3, q4, q5, q6⟩ := va_OF.moved hW.alike (hw.str hj).2.1
  have ha : ad s0 ol (3 + j) = ol (3 + j) := if_pos (by omega)
  show W p l e R s m args below meth c H locs cells slots _ (F0 m pc ls (.ref (ad s0 ol (3 + j)) :: st.map (rv (ad s0 ol))))
  rw [ha]
  exact W.getf hx hb hown (word hw hW hlk) q1 q2 (by rw [hR.2.2.1 _ (Array.getElem?_eq_some_iff.mp q3).1]; exact q3) q4 q5 rfl rfl hd K
theorem go_bL {a : Nat} {v : Int32} (hv : bL a = some v) (hd : decode M.2.1 pc = .ok (.arraylength, 1)) (kk : Go d M (pc + 1) L (.int v :: st) h r h') : Go d M pc L (.ref a :: st) h r h' := by
  unfold bL at hv
  split at hv
  · rename_i hB
    cases hv
    simp only [isB, Bool.and_eq_true, decide_eq_true_eq] at hB
    obtain ⟨j, hj, rfl⟩ : ∃ j, j < 34 ∧ a = 37 + j := ⟨a - 37, by omega, by omega⟩
    rw [show 37 + j - 37 = j by omega] at kk
    refine ⟨kk.1, kk.2.1, fun s0 D ol N xs hw p l e R s m args below meth c C ls H locs cells slots hl hR hf b1 b2 => ?_⟩
    have K := kk.2.2 s0 D ol N xs hw p l e R s m args below meth c C ls H locs cells slots hl hR hf b1 b2
    obtain ⟨hx, hb, hml, hr, hlo, hown, hnm, hW, hfr, hlc, hsz⟩ := C
    obtain ⟨cell, h1, h2, h3, h4, h5, h6, h7⟩ := (hw.str hj).2.2.2
    have ha : ad s0 ol (37 + j) = ol (37 + j) := if_pos (by omega)
    show W p l e R s m args below meth c H locs cells slots _ (F0 m pc ls (.ref (ad s0 ol (37 + j)) :: st.map (rv (ad s0 ol))))
    rw [ha]
    exact W.alen hx hb (by rw [hR.2.2.1 _ (Array.getElem?_eq_some_iff.mp h1).1]; exact h1) (State.isArrayOf_alike hW.alike h2) h5 rfl rfl hd K
  · cases hv
theorem go_bA {a : Nat} {i v : Int32} (hv : bA a i = some v) (hd : decode M.2.1 pc = .ok (.baload, 1)) (kk : Go d M (pc + 1) L (.int v :: st) h r h') : Go d M pc L (.int i :: .ref a :: st) h r h' := by
  unfold bA at hv
  split at hv
  · rename_i hB
    obtain ⟨hB, hin⟩ := hB
    cases hv
    simp only [isB, Bool.and_eq_true, decide_eq_true_eq] at hB
    obtain ⟨j, hj, rfl⟩ : ∃ j, j < 34 ∧ a = 37 + j := ⟨a - 37, by omega, by omega⟩
    rw [show 37 + j - 37 = j by omega] at kk hin
    refine ⟨kk.1, kk.2.1, fun s0 D ol N xs hw p l e R s m args below meth c C ls H locs cells slots hl hR hf b1 b2 => ?_⟩
    have K := kk.2.2 s0 D ol N xs hw p l e R s m args below meth c C ls H locs cells slots hl hR hf b1 b2
    obtain ⟨hx, hb, hml, hr, hlo, hown, hnm, hW, hfr, hlc, hsz⟩ := C
    obtain ⟨cell, h1, h2, h3, h4, h5, h6, h7⟩ := (hw.str hj).2.2.2
    have ha : ad s0 ol (37 + j) = ol (37 + j) := if_pos (by omega)
    show W p l e R s m args below meth c H locs cells slots _ (F0 m pc ls (.int i :: .ref (ad s0 ol (37 + j)) :: st.map (rv (ad s0 ol))))
    rw [ha]
    have hvi := inB_in hin
    refine W.bald hx hb (by rw [hR.2.2.1 _ (Array.getElem?_eq_some_iff.mp h1).1]; exact h1) (State.isArrayOf_alike hW.alike h2) h3 (fun q => ?_) (h6 _ (Nat.not_le.mp fun q => hvi (Or.inr q))) rfl rfl hd K
    rcases q with q | q
    · exact hvi (Or.inl q)
    · exact hvi (Or.inr (by omega))
  · cases hv
theorem go_cs {idx : Nat} (hls : Cond.laysStatic "java/lang/String" "COMPACT_STRINGS" "Z" ∈ lw_tbl) (hini : Cond.initialized "java/lang/String" ∈ lw_tbl) (hlk : Wg (.fieldLink M.1.cls idx "java/lang/String" "COMPACT_STRINGS" "Z")) (hd : decode M.2.1 pc = .ok (.getstatic idx, 3)) (kk : Go d M (pc + 3) L (.int 1 :: st) h r h') : Go d M pc L st h r h' := by
  refine ⟨kk.1, kk.2.1, fun s0 D ol N xs hw p l e R s m args below meth c C ls H locs cells slots hl hR hf b1 b2 => ?_⟩
  have K := kk.2.2 s0 D ol N xs hw p l e R s m args below meth c C ls H locs cells slots hl hR hf b1 b2
  obtain ⟨hx, hb, hml, hr, hlo, hown, hnm, hW, hfr, hlc, hsz⟩ := C
  have hs := flat_of_before _ hw.2.2.1
  have hZ := va_Z.moved hW.alike (va_Zof (A := fun q => s0.heap.size ≤ q) (hw.1 _ hls) (hw.1 _ hini) (va_eqi (hs (.eq (.static "java/lang/String" "COMPACT_STRINGS" "Z") (.int 1)) (by decide +kernel))) (oldA s0))
  obtain ⟨cf, kf, fi, f, a, cell, h1, h2, h3, h4, h5, h6, h7, h8⟩ := hZ
  exact W.gets hx hb hown (word hw hW hlk) h1 h2 h3 h4 (by rw [hR.2.2.1 _ (Array.getElem?_eq_some_iff.mp h5).1]; exact h5) (fun e => by rw [e] at h6; cases h6) h7 rfl hd K
theorem go_fmt {idx : Nat} (hls : Cond.laysStatic "jdk/internal/util/Preconditions" "SIOOBE_FORMATTER" "Ljava/util/function/BiFunction;" ∈ lw_tbl) (hini : Cond.initialized "jdk/internal/util/Preconditions" ∈ lw_tbl) (hlk : Wg (.fieldLink M.1.cls idx "jdk/internal/util/Preconditions" "SIOOBE_FORMATTER" "Ljava/util/function/BiFunction;")) (hd : decode M.2.1 pc = .ok (.getstatic idx, 3)) (kk : ∀ o : Option Nat, Go d M (pc + 3) L (va_rf o :: st) h r h') : Go d M pc L st h r h' := by
  refine ⟨(kk none).1, (kk none).2.1, fun s0 D ol N xs hw p l e R s m args below meth c C ls H locs cells slots hl hR hf b1 b2 => ?_⟩
  have K0 := (kk none).2.2 s0 D ol N xs hw p l e R s m args below meth c C ls H locs cells slots hl hR hf b1 b2
  have K1 := (kk (some 71)).2.2 s0 D ol N xs hw p l e R s m args below meth c C ls H locs cells slots hl hR hf b1 b2
  obtain ⟨hx, hb, hml, hr, hlo, hown, hnm, hW, hfr, hlc, hsz⟩ := C
  rcases hw.2.2.2.2.2.2 with hv | hv
  · have hZ := va_Z.moved hW.alike (va_Zof (A := fun q => s0.heap.size ≤ q) (hw.1 _ hls) (hw.1 _ hini) hv (oldA s0))
    obtain ⟨cf, kf, fi, f, a, cell, h1, h2, h3, h4, h5, h6, h7, h8⟩ := hZ
    exact W.gets hx hb hown (word hw hW hlk) h1 h2 h3 h4 (by rw [hR.2.2.1 _ (Array.getElem?_eq_some_iff.mp h5).1]; exact h5) (fun e => by rw [e] at h6; cases h6) h7 rfl hd K0
  · have hZ := va_Z.moved hW.alike (va_Zof (A := fun q => s0.heap.size ≤ q) (hw.1 _ hls) (hw.1 _ hini) hv (oldA s0))
    obtain ⟨cf, kf, fi, f, a, cell, h1, h2, h3, h4, h5, h6, h7, h8⟩ := hZ
    have ha : ad s0 ol 71 = ol 71 := if_pos (by omega)
    have K2 : W p l e R s m args below meth c H locs cells slots (MQ below (Qg s0 D ol r h') args s R.cells R.slots fun q => Array.size s0.heap ≤ q) (F0 m (pc + 3) ls (.ref (ad s0 ol 71) :: st.map (rv (ad s0 ol)))) := K1
    rw [ha] at K2
    exact W.gets hx hb hown (word hw hW hlk) h1 h2 h3 h4 (by rw [hR.2.2.1 _ (Array.getElem?_eq_some_iff.mp h5).1]; exact h5) (fun e => by rw [e] at h6; cases h6) h7 rfl hd K2
end STR
theorem go_invT {d : Nat} {M : Mt} {pc : Nat} {L : List (Option Value)} {st : List Value} {h h' : Hp} {r : Option Value} {M1 : Mt} {d1 index : Nat} {As : List Value} {h1 : Hp} {r1 : Option Value} {j : Nat} (hj : j < 34) (hcn : "java/lang/String" = M1.1.cls) (hcall : Call d1 M1 (.ref (3 + j) :: As) h r1 h1) (hdd : d1 + 1 ≤ d) (hm : MB M1 As.length) (hlk : Wg (.methodLink M.1.cls index M1.1)) (hin : Wg (.instanceMethod M1.1)) (hse : Wg (.selects M1.1.cls M1.1 M1.1)) (hst : (st.map fun v => v.category).sum ≤ 8) (hd : decode M.2.1 pc = .ok (.invokevirtual index, 3))
    (kk : Go d M (pc + 3) L (r1.toList ++ st) h1 r h') : Go d M pc L (As.reverse ++ .ref (3 + j) :: st) h r h' := by
  have c1 := hcall.1
  have c2 := hcall.2.1
  have k1 := kk.1
  have k2 := kk.2.1
  refine ⟨Nat.le_trans c1 k1, Nat.le_trans c2 k2, fun s0 D ol N xs hw p l e R s m args below meth c C ls H locs cells slots hl hR hf b1 b2 => ?_⟩
  have K := kk.2.2 s0 D ol N xs hw p l e R s m args below meth c C ls
  obtain ⟨hx, hb, hml, hr, hlo, hown, hnm, hW, hfr, hlc, hsz⟩ := C
  have hp := hm.parts hw hW
  have hmet := hcall.2.2 s0 D ol N xs hw l
  have ml := hm.2.2.2.2
  have hrecv := str_cell hw hW hR hj
  refine run_go (rest := st.map (rv (ad s0 ol))) (va_runV (As := As.map (rv (ad s0 ol))) (rest := st.map (rv (ad s0 ol))) (n := As.length) ⟨hx, hb, hml, hown, fun w hq => by cases hq⟩ (Ts := []) hmet (C := "java/lang/String") ⟨⟨rfl, rfl, by show d1 + 1 ≤ _; omega, by show 8 + (M1.2.2.1 + 11) + 41 * d1 ≤ _; omega, hp.1, List.mem_singleton.mpr rfl, word hw hW hm.1, word hw hW hm.2.1, hm.2.2.1, hp.2, word hw hW hlk⟩, word hw hW hin, by rw [hcn]; exact word hw hW hse⟩ ⟨Pg_blind _ _ _ _ _, hrecv, fun U hU hWU => ⟨rfl, by rw [hU]; exact hR, State.WarmedH.trans hW hWU⟩⟩ rfl (by rw [List.length_map]) hl.1 (by simp [rv]) (lv_room (cat_map _ st hst)) hd ⟨by omega, by omega⟩) hf (fun H1 locs1 hR1 hf1 => ?_)
  rw [ret_map]
  exact K H1 locs1 _ _ hl hR1 hf1 (by omega) (by omega)
theorem go_T1 {d : Nat} {M : Mt} {pc : Nat} {L : List (Option Value)} {st stk : List Value} {h h' : Hp} {r : Option Value} {M1 : Mt} {d1 index b : Nat} {As : List Value} {h1 : Hp} {v : Value} (hb0 : isT b = true) (hcn : "java/lang/String" = M1.1.cls) (hcall : Call d1 M1 (.ref b :: As) h (some v) h1) (hdd : d1 + 1 ≤ d) (hm : MB M1 As.length) (hlk : Wg (.methodLink M.1.cls index M1.1)) (hin : Wg (.instanceMethod M1.1) ∧ Wg (.selects M1.1.cls M1.1 M1.1)) (hst : (st.map fun v => v.category).sum ≤ 8) (hstk : As.reverse ++ .ref b :: st = stk) (hd : decode M.2.1 pc = .ok (.invokevirtual index, 3))
    (kk : Go d M (pc + 3) L (v :: st) h1 r h') : Go d M pc L stk h r h' := by
  obtain ⟨j, hj, rfl⟩ := isT_at hb0
  subst hstk
  exact go_invT hj hcn hcall hdd hm hlk hin.1 hin.2 hst hd kk
theorem ls_RX6_44 : oldT[3]? = some (.string RX6 44) ∧ 3 < 80 ∧ Cond.stringRef RX6 44 ";:+-*()[]=<>" ∈ lw_tbl := ⟨rfl, by decide, List.mem_of_getElem? (i := 681) (by decide +kernel)⟩
theorem ls_RX4_106 : oldT[4]? = some (.string RX4 106) ∧ 4 < 80 ∧ Cond.stringRef RX4 106 "cave" ∈ lw_tbl := ⟨rfl, by decide, List.mem_of_getElem? (i := 768) (by decide +kernel)⟩
theorem ls_RX4_111 : oldT[5]? = some (.string RX4 111) ∧ 5 < 80 ∧ Cond.stringRef RX4 111 "drops" ∈ lw_tbl := ⟨rfl, by decide, List.mem_of_getElem? (i := 803) (by decide +kernel)⟩
theorem ls_RX4_115 : oldT[6]? = some (.string RX4 115) ∧ 6 < 80 ∧ Cond.stringRef RX4 115 ";" ∈ lw_tbl := ⟨rfl, by decide, List.mem_of_getElem? (i := 808) (by decide +kernel)⟩
theorem ls_RX4_117 : oldT[7]? = some (.string RX4 117) ∧ 7 < 80 ∧ Cond.stringRef RX4 117 "pair" ∈ lw_tbl := ⟨rfl, by decide, List.mem_of_getElem? (i := 813) (by decide +kernel)⟩
theorem ls_RX4_140 : oldT[8]? = some (.string RX4 140) ∧ 8 < 80 ∧ Cond.stringRef RX4 140 "gap" ∈ lw_tbl := ⟨rfl, by decide, List.mem_of_getElem? (i := 818) (by decide +kernel)⟩
theorem ls_RX4_145 : oldT[9]? = some (.string RX4 145) ∧ 9 < 80 ∧ Cond.stringRef RX4 145 "chalk" ∈ lw_tbl := ⟨rfl, by decide, List.mem_of_getElem? (i := 821) (by decide +kernel)⟩
theorem ls_RX4_122 : oldT[10]? = some (.string RX4 122) ∧ 10 < 80 ∧ Cond.stringRef RX4 122 "lead" ∈ lw_tbl := ⟨rfl, by decide, List.mem_of_getElem? (i := 822) (by decide +kernel)⟩
theorem ls_RX4_127 : oldT[11]? = some (.string RX4 127) ∧ 11 < 80 ∧ Cond.stringRef RX4 127 "dry" ∈ lw_tbl := ⟨rfl, by decide, List.mem_of_getElem? (i := 828) (by decide +kernel)⟩
theorem ls_RX4_132 : oldT[12]? = some (.string RX4 132) ∧ 12 < 80 ∧ Cond.stringRef RX4 132 "grows" ∈ lw_tbl := ⟨rfl, by decide, List.mem_of_getElem? (i := 833) (by decide +kernel)⟩
theorem ls_RX4_150 : oldT[13]? = some (.string RX4 150) ∧ 13 < 80 ∧ Cond.stringRef RX4 150 ":" ∈ lw_tbl := ⟨rfl, by decide, List.mem_of_getElem? (i := 838) (by decide +kernel)⟩
theorem ls_RX4_182 : oldT[14]? = some (.string RX4 182) ∧ 14 < 80 ∧ Cond.stringRef RX4 182 "(" ∈ lw_tbl := ⟨rfl, by decide, List.mem_of_getElem? (i := 851) (by decide +kernel)⟩
theorem ls_RX4_187 : oldT[15]? = some (.string RX4 187) ∧ 15 < 80 ∧ Cond.stringRef RX4 187 ")" ∈ lw_tbl := ⟨rfl, by decide, List.mem_of_getElem? (i := 856) (by decide +kernel)⟩
theorem ls_RX4_189 : oldT[16]? = some (.string RX4 189) ∧ 16 < 80 ∧ Cond.stringRef RX4 189 "if" ∈ lw_tbl := ⟨rfl, by decide, List.mem_of_getElem? (i := 857) (by decide +kernel)⟩
theorem ls_RX4_225 : oldT[17]? = some (.string RX4 225) ∧ 17 < 80 ∧ Cond.stringRef RX4 225 "not" ∈ lw_tbl := ⟨rfl, by decide, List.mem_of_getElem? (i := 874) (by decide +kernel)⟩
theorem ls_RX4_227 : oldT[18]? = some (.string RX4 227) ∧ 18 < 80 ∧ Cond.stringRef RX4 227 "[" ∈ lw_tbl := ⟨rfl, by decide, List.mem_of_getElem? (i := 879) (by decide +kernel)⟩
theorem ls_RX4_229 : oldT[19]? = some (.string RX4 229) ∧ 19 < 80 ∧ Cond.stringRef RX4 229 "]" ∈ lw_tbl := ⟨rfl, by decide, List.mem_of_getElem? (i := 880) (by decide +kernel)⟩
theorem ls_RX4_234 : oldT[20]? = some (.string RX4 234) ∧ 20 < 80 ∧ Cond.stringRef RX4 234 "<" ∈ lw_tbl := ⟨rfl, by decide, List.mem_of_getElem? (i := 885) (by decide +kernel)⟩
theorem ls_RX4_236 : oldT[21]? = some (.string RX4 236) ∧ 21 < 80 ∧ Cond.stringRef RX4 236 ">" ∈ lw_tbl := ⟨rfl, by decide, List.mem_of_getElem? (i := 886) (by decide +kernel)⟩
theorem ls_RX4_238 : oldT[22]? = some (.string RX4 238) ∧ 22 < 80 ∧ Cond.stringRef RX4 238 "=" ∈ lw_tbl := ⟨rfl, by decide, List.mem_of_getElem? (i := 887) (by decide +kernel)⟩
theorem ls_RX4_223 : oldT[23]? = some (.string RX4 223) ∧ 23 < 80 ∧ Cond.stringRef RX4 223 "and" ∈ lw_tbl := ⟨rfl, by decide, List.mem_of_getElem? (i := 888) (by decide +kernel)⟩
theorem ls_RX4_218 : oldT[24]? = some (.string RX4 218) ∧ 24 < 80 ∧ Cond.stringRef RX4 218 "or" ∈ lw_tbl := ⟨rfl, by decide, List.mem_of_getElem? (i := 889) (by decide +kernel)⟩
theorem ls_RX4_198 : oldT[25]? = some (.string RX4 198) ∧ 25 < 80 ∧ Cond.stringRef RX4 198 "then" ∈ lw_tbl := ⟨rfl, by decide, List.mem_of_getElem? (i := 890) (by decide +kernel)⟩
theorem ls_RX4_200 : oldT[26]? = some (.string RX4 200) ∧ 26 < 80 ∧ Cond.stringRef RX4 200 "else" ∈ lw_tbl := ⟨rfl, by decide, List.mem_of_getElem? (i := 891) (by decide +kernel)⟩
theorem ls_RX4_202 : oldT[27]? = some (.string RX4 202) ∧ 27 < 80 ∧ Cond.stringRef RX4 202 "end" ∈ lw_tbl := ⟨rfl, by decide, List.mem_of_getElem? (i := 892) (by decide +kernel)⟩
theorem ls_RX4_204 : oldT[28]? = some (.string RX4 204) ∧ 28 < 80 ∧ Cond.stringRef RX4 204 "met" ∈ lw_tbl := ⟨rfl, by decide, List.mem_of_getElem? (i := 897) (by decide +kernel)⟩
theorem ls_RX4_212 : oldT[29]? = some (.string RX4 212) ∧ 29 < 80 ∧ Cond.stringRef RX4 212 "gaps" ∈ lw_tbl := ⟨rfl, by decide, List.mem_of_getElem? (i := 906) (by decide +kernel)⟩
theorem ls_RX4_213 : oldT[30]? = some (.string RX4 213) ∧ 30 < 80 ∧ Cond.stringRef RX4 213 "widest" ∈ lw_tbl := ⟨rfl, by decide, List.mem_of_getElem? (i := 907) (by decide +kernel)⟩
theorem ls_RX4_180 : oldT[31]? = some (.string RX4 180) ∧ 31 < 80 ∧ Cond.stringRef RX4 180 "*" ∈ lw_tbl := ⟨rfl, by decide, List.mem_of_getElem? (i := 908) (by decide +kernel)⟩
theorem ls_RX4_169 : oldT[32]? = some (.string RX4 169) ∧ 32 < 80 ∧ Cond.stringRef RX4 169 "+" ∈ lw_tbl := ⟨rfl, by decide, List.mem_of_getElem? (i := 913) (by decide +kernel)⟩
theorem ls_RX4_175 : oldT[33]? = some (.string RX4 175) ∧ 33 < 80 ∧ Cond.stringRef RX4 175 "-" ∈ lw_tbl := ⟨rfl, by decide, List.mem_of_getElem? (i := 914) (by decide +kernel)⟩
theorem ls_RX4_136 : oldT[34]? = some (.string RX4 136) ∧ 34 < 80 ∧ Cond.stringRef RX4 136 "falls" ∈ lw_tbl := ⟨rfl, by decide, List.mem_of_getElem? (i := 926) (by decide +kernel)⟩
theorem ls_RX12_99 : oldT[35]? = some (.string RX12 99) ∧ 35 < 80 ∧ Cond.stringRef RX12 99 " cave drops pair gap chalk lead dry grows falls if then else end met gaps widest and or not " ∈ lw_tbl := ⟨rfl, by decide, List.mem_of_getElem? (i := 1649) (by decide +kernel)⟩
theorem ls_RX12_137 : oldT[36]? = some (.string RX12 137) ∧ 36 < 80 ∧ Cond.stringRef RX12 137 ";:+-*()[]=<>" ∈ lw_tbl := ⟨rfl, by decide, List.mem_of_getElem? (i := 1655) (by decide +kernel)⟩
theorem dJ_max_0 : decode Lib.Math.max.code 0 = .ok (.iload_n 0, 1) := by decide +kernel
theorem dJ_max_1 : decode Lib.Math.max.code 1 = .ok (.iload_n 1, 1) := by decide +kernel
theorem dJ_max_2 : decode Lib.Math.max.code 2 = .ok (.if_icmp .lt 7, 3) := by decide +kernel
theorem dJ_max_5 : decode Lib.Math.max.code 5 = .ok (.iload_n 0, 1) := by decide +kernel
theorem dJ_max_6 : decode Lib.Math.max.code 6 = .ok (.goto 4, 3) := by decide +kernel
theorem dJ_max_9 : decode Lib.Math.max.code 9 = .ok (.iload_n 1, 1) := by decide +kernel
theorem dJ_max_10 : decode Lib.Math.max.code 10 = .ok (.ireturn, 1) := by decide +kernel
theorem dJ_min_0 : decode Lib.Math.min.code 0 = .ok (.iload_n 0, 1) := by decide +kernel
theorem dJ_min_1 : decode Lib.Math.min.code 1 = .ok (.iload_n 1, 1) := by decide +kernel
theorem dJ_min_2 : decode Lib.Math.min.code 2 = .ok (.if_icmp .gt 7, 3) := by decide +kernel
theorem dJ_min_5 : decode Lib.Math.min.code 5 = .ok (.iload_n 0, 1) := by decide +kernel
theorem dJ_min_6 : decode Lib.Math.min.code 6 = .ok (.goto 4, 3) := by decide +kernel
theorem dJ_min_9 : decode Lib.Math.min.code 9 = .ok (.iload_n 1, 1) := by decide +kernel
theorem dJ_min_10 : decode Lib.Math.min.code 10 = .ok (.ireturn, 1) := by decide +kernel
