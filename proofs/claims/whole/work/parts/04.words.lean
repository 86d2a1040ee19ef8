/-! words by their places; the classes' own words -/
def Wg (w : Cond) : Prop := w ∈ lw_tbl ∧ goodWord w = true
theorem Wg.of {w : Cond} (i : Nat) (h : lw_tbl[i]? = some w) (hg : goodWord w = true) : Wg w := ⟨List.mem_of_getElem? h, hg⟩
theorem Wg.all {ws : List Cond} (ps : List Nat) (hp : ps.map (fun i => lw_tbl[i]?) = ws.map some) (h : ws.all goodWord = true) : ∀ w ∈ ws, Wg w := by
  intro w hw
  refine ⟨?_, List.all_eq_true.mp h w hw⟩
  have h1 : some w ∈ ws.map some := List.mem_map.mpr ⟨w, hw, rfl⟩
  rw [← hp] at h1
  obtain ⟨i, -, hi⟩ := List.mem_map.mp h1
  exact List.mem_of_getElem? hi
theorem word {s0 s : State} {D : va_G} {ol : Nat → Nat} {N : Nat} {xs : Nat → Int32} {args : Array Value} (hw : Wd s0 D ol N xs) (hW : s0.WarmedH s.vm) {w : Cond} (h : Wg w) : w.before args s = true := word_at hW (good_of_word h.2) (hw.1 w h.1)
set_option maxRecDepth 20000 in
theorem ckX0 : ∀ w ∈ u_ws RX0 TX0 11, Wg w := Wg.all [328, 330, 332, 334, 336, 338, 340, 342, 344, 346, 348] (by decide +kernel) (by decide +kernel)
set_option maxRecDepth 20000 in
theorem ckX1 : ∀ w ∈ u_ws RX1 TX1 7, Wg w := Wg.all [410, 412, 414, 416, 418, 420, 422] (by decide +kernel) (by decide +kernel)
set_option maxRecDepth 20000 in
theorem ckX2 : ∀ w ∈ u_ws RX2 TX2 12, Wg w := Wg.all [479, 481, 483, 485, 487, 489, 491, 493, 495, 497, 499, 501] (by decide +kernel) (by decide +kernel)
set_option maxRecDepth 20000 in
theorem ckX3 : ∀ w ∈ u_ws RX3 TX3 1, Wg w := Wg.all [923] (by decide +kernel) (by decide +kernel)
set_option maxRecDepth 20000 in
theorem ckX4 : ∀ w ∈ u_ws RX4 TX4 16, Wg w := Wg.all [225, 227, 229, 231, 233, 235, 237, 239, 241, 243, 245, 247, 249, 251, 253, 255] (by decide +kernel) (by decide +kernel)
set_option maxRecDepth 20000 in
theorem ckX5 : ∀ w ∈ u_ws RX5 TX5 3, Wg w := Wg.all [387, 389, 391] (by decide +kernel) (by decide +kernel)
set_option maxRecDepth 20000 in
theorem ckX6 : ∀ w ∈ u_ws RX6 TX6 6, Wg w := Wg.all [184, 186, 188, 190, 192, 194] (by decide +kernel) (by decide +kernel)
set_option maxRecDepth 20000 in
theorem ckX7 : ∀ w ∈ u_ws RX7 TX7 17, Wg w := Wg.all [528, 530, 532, 534, 536, 538, 540, 542, 544, 546, 548, 550, 552, 554, 556, 558, 560] (by decide +kernel) (by decide +kernel)
set_option maxRecDepth 20000 in
theorem ckX8 : ∀ w ∈ u_ws RX8 TX8 4, Wg w := Wg.all [365, 367, 369, 371] (by decide +kernel) (by decide +kernel)
set_option maxRecDepth 20000 in
theorem ckX9 : ∀ w ∈ u_ws RX9 TX9 4, Wg w := Wg.all [577, 579, 581, 583] (by decide +kernel) (by decide +kernel)
set_option maxRecDepth 20000 in
theorem ckX10 : ∀ w ∈ u_ws RX10 TX10 7, Wg w := Wg.all [438, 440, 442, 444, 446, 448, 450] (by decide +kernel) (by decide +kernel)
set_option maxRecDepth 20000 in
theorem ckX11 : ∀ w ∈ u_ws RX11 TX11 19, Wg w := Wg.all [605, 607, 609, 611, 613, 615, 617, 619, 621, 623, 625, 627, 629, 631, 633, 635, 637, 639, 641] (by decide +kernel) (by decide +kernel)
set_option maxRecDepth 20000 in
theorem ckX12 : ∀ w ∈ u_ws RX12 TX12 41, Wg w := Wg.all [1539, 1541, 1543, 1545, 1547, 1549, 1551, 1553, 1555, 1557, 1559, 1561, 1563, 1565, 1567, 1569, 1571, 1573, 1575, 1577, 1579, 1581, 1583, 1585, 1587, 1589, 1591, 1593, 1595, 1597, 1599, 1601, 1603, 1605, 1607, 1609, 1611, 1613, 1615, 1617, 1619] (by decide +kernel) (by decide +kernel)
def ctyp (ci k : Nat) : FieldType := match ci with
  | 0 => tyX0 k
  | 1 => tyX1 k
  | 2 => tyX2 k
  | 3 => tyX3 k
  | 4 => tyX4 k
  | 5 => tyX5 k
  | 6 => tyX6 k
  | 7 => tyX7 k
  | 8 => tyX8 k
  | 9 => tyX9 k
  | 10 => tyX10 k
  | 11 => tyX11 k
  | _ => tyX12 k
theorem cls_ck : ∀ (ci : Nat) (q : vw_C), cls[ci]? = some q → ∀ w ∈ u_ws q.1 q.2.1 q.2.2, Wg w := by
  intro ci q h
  match ci, h with
  | 0, h => cases h; exact ckX0
  | 1, h => cases h; exact ckX1
  | 2, h => cases h; exact ckX2
  | 3, h => cases h; exact ckX3
  | 4, h => cases h; exact ckX4
  | 5, h => cases h; exact ckX5
  | 6, h => cases h; exact ckX6
  | 7, h => cases h; exact ckX7
  | 8, h => cases h; exact ckX8
  | 9, h => cases h; exact ckX9
  | 10, h => cases h; exact ckX10
  | 11, h => cases h; exact ckX11
  | 12, h => cases h; exact ckX12
  | k + 13, h => simp at h
theorem cls_ty : ∀ (ci : Nat) (q : vw_C), cls[ci]? = some q → ∀ k, k < q.2.2 → parseFieldDescriptor (q.2.1 k).2.2.1 = some (ctyp ci k) := by
  intro ci q h
  match ci, h with
  | 0, h => cases h; exact tyX0_ok
  | 1, h => cases h; exact tyX1_ok
  | 2, h => cases h; exact tyX2_ok
  | 3, h => cases h; exact tyX3_ok
  | 4, h => cases h; exact tyX4_ok
  | 5, h => cases h; exact tyX5_ok
  | 6, h => cases h; exact tyX6_ok
  | 7, h => cases h; exact tyX7_ok
  | 8, h => cases h; exact tyX8_ok
  | 9, h => cases h; exact tyX9_ok
  | 10, h => cases h; exact tyX10_ok
  | 11, h => cases h; exact tyX11_ok
  | 12, h => cases h; exact tyX12_ok
  | k + 13, h => simp at h
theorem cls_nm : ∀ (ci : Nat) (q : vw_C), cls[ci]? = some q → ∀ a, a < q.2.2 → ∀ b, b < q.2.2 → a ≠ b → (q.2.1 a).2.1 ≠ (q.2.1 b).2.1 := by
  intro ci q h
  match ci, h with
  | 0, h => cases h; exact nmX0
  | 1, h => cases h; exact nmX1
  | 2, h => cases h; exact nmX2
  | 3, h => cases h; exact nmX3
  | 4, h => cases h; exact nmX4
  | 5, h => cases h; exact nmX5
  | 6, h => cases h; exact nmX6
  | 7, h => cases h; exact nmX7
  | 8, h => cases h; exact nmX8
  | 9, h => cases h; exact nmX9
  | 10, h => cases h; exact nmX10
  | 11, h => cases h; exact nmX11
  | 12, h => cases h; exact nmX12
  | k + 13, h => simp at h
