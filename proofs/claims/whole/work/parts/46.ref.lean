/-! the reference: cells read and written at natural places -/
def mS (m : Mu) (r i : Nat) (x : Int32) : Mu := (m.1, (fun q => if q = r then (fun j => if j = i then x else m.2.1 r j) else m.2.1 q), m.2.2)
def mSJ (m : Mu) (r i : Nat) (x : Int64) : Mu := (m.1, m.2.1, (fun q => if q = r then (fun j => if j = i then x else m.2.2 r j) else m.2.2 q))
theorem mS_a (m : Mu) (r i : Nat) (x : Int32) (q j : Nat) : (mS m r i x).2.1 q j = if q = r then (if j = i then x else m.2.1 r j) else m.2.1 q j := by
  show (if q = r then (fun j => if j = i then x else m.2.1 r j) else m.2.1 q) j = _
  split <;> rfl
theorem mS_ne (m : Mu) {r : Nat} (i : Nat) (x : Int32) {q : Nat} (h : ¬ q = r) : (mS m r i x).2.1 q = m.2.1 q := if_neg h
theorem mS_f (m : Mu) (r i : Nat) (x : Int32) : (mS m r i x).1 = m.1 := by
  have e : (mS m r i x).1 = m.1 := rfl
  exact e
theorem mS_j (m : Mu) (r i : Nat) (x : Int32) : (mS m r i x).2.2 = m.2.2 := by
  have e : (mS m r i x).2.2 = m.2.2 := rfl
  exact e
theorem mSJ_j (m : Mu) (r i : Nat) (x : Int64) (q j : Nat) : (mSJ m r i x).2.2 q j = if q = r then (if j = i then x else m.2.2 r j) else m.2.2 q j := by
  show (if q = r then (fun j => if j = i then x else m.2.2 r j) else m.2.2 q) j = _
  split <;> rfl
theorem mSJ_ne (m : Mu) {r : Nat} (i : Nat) (x : Int64) {q : Nat} (h : ¬ q = r) : (mSJ m r i x).2.2 q = m.2.2 q := if_neg h
theorem mSJ_f (m : Mu) (r i : Nat) (x : Int64) : (mSJ m r i x).1 = m.1 := by
  have e : (mSJ m r i x).1 = m.1 := rfl
  exact e
theorem mSJ_a (m : Mu) (r i : Nat) (x : Int64) : (mSJ m r i x).2.1 = m.2.1 := by
  have e : (mSJ m r i x).2.1 = m.2.1 := rfl
  exact e
theorem mI_f (m : Mu) (k : Nat) (v : Int32) (j : Nat) : (mI m k v).1 j = if j = k then v else m.1 j := by
  have e : (mI m k v).1 j = if j = k then v else m.1 j := rfl
  exact e
theorem mI_a (m : Mu) (k : Nat) (v : Int32) : (mI m k v).2.1 = m.2.1 := by
  have e : (mI m k v).2.1 = m.2.1 := rfl
  exact e
theorem mI_j (m : Mu) (k : Nat) (v : Int32) : (mI m k v).2.2 = m.2.2 := by
  have e : (mI m k v).2.2 = m.2.2 := rfl
  exact e
theorem mA_g (m : Mu) {r i n : Nat} (hn : mlen r = n) (h : i < n) (hb : n < 2 ^ 31) : mA m r (nI i) = some (m.2.1 r i) := by
  unfold mA
  rw [hn, if_pos (inB_nI h hb), nI_clamp (by omega)]
theorem mJ_g (m : Mu) {r i n : Nat} (hn : mlen r = n) (h : i < n) (hb : n < 2 ^ 31) : mJ m r (nI i) = some (m.2.2 r i) := by
  unfold mJ
  rw [hn, if_pos (inB_nI h hb), nI_clamp (by omega)]
theorem mW_g (m : Mu) {r i n : Nat} (x : Int32) (hn : mlen r = n) (h : i < n) (hb : n < 2 ^ 31) (hx : nar (mtag r) x = x) : mW m r (nI i) x = some (mS m r i x) := by
  unfold mW
  rw [hn, if_pos (inB_nI h hb), nI_clamp (by omega), hx]
  rfl
theorem mWJ_g (m : Mu) {r i n : Nat} (x : Int64) (hn : mlen r = n) (h : i < n) (hb : n < 2 ^ 31) : mWJ m r (nI i) x = some (mSJ m r i x) := by
  unfold mWJ
  rw [hn, if_pos (inB_nI h hb), nI_clamp (by omega)]
  rfl
theorem mA_1 (m : Mu) {i : Nat} (h : i < 3114) : mA m 1 (nI i) = some (m.2.1 1 i) := mA_g m rfl h (by decide)
theorem mW_1 (m : Mu) {i : Nat} (x : Int32) (h : i < 3114) : mW m 1 (nI i) x = some (mS m 1 i x) := mW_g m x rfl h (by decide) rfl
theorem mA_2 (m : Mu) {i : Nat} (h : i < 2) : mA m 2 (nI i) = some (m.2.1 2 i) := mA_g m rfl h (by decide)
theorem mW_2_0 (m : Mu) {i : Nat} (h : i < 2) : mW m 2 (nI i) (nI 0) = some (mS m 2 i (nI 0)) := mW_g m _ rfl h (by decide) (by decide)
theorem mW_2_1 (m : Mu) {i : Nat} (h : i < 2) : mW m 2 (nI i) (nI 1) = some (mS m 2 i (nI 1)) := mW_g m _ rfl h (by decide) (by decide)
theorem mA_3 (m : Mu) {i : Nat} (h : i < 900) : mA m 3 (nI i) = some (m.2.1 3 i) := mA_g m rfl h (by decide)
theorem mW_3 (m : Mu) {i : Nat} (x : Int32) (h : i < 900) : mW m 3 (nI i) x = some (mS m 3 i x) := mW_g m x rfl h (by decide) rfl
theorem mA_4 (m : Mu) {i : Nat} (h : i < 1038) : mA m 4 (nI i) = some (m.2.1 4 i) := mA_g m rfl h (by decide)
theorem mW_4 (m : Mu) {i : Nat} (x : Int32) (h : i < 1038) : mW m 4 (nI i) x = some (mS m 4 i x) := mW_g m x rfl h (by decide) rfl
theorem mA_5 (m : Mu) {i : Nat} (h : i < 900) : mA m 5 (nI i) = some (m.2.1 5 i) := mA_g m rfl h (by decide)
theorem mW_5 (m : Mu) {i : Nat} (x : Int32) (h : i < 900) : mW m 5 (nI i) x = some (mS m 5 i x) := mW_g m x rfl h (by decide) rfl
theorem mA_6 (m : Mu) {i : Nat} (h : i < 8) : mA m 6 (nI i) = some (m.2.1 6 i) := mA_g m rfl h (by decide)
theorem mW_6 (m : Mu) {i : Nat} (x : Int32) (h : i < 8) : mW m 6 (nI i) x = some (mS m 6 i x) := mW_g m x rfl h (by decide) rfl
theorem mA_7 (m : Mu) {i : Nat} (h : i < 2000) : mA m 7 (nI i) = some (m.2.1 7 i) := mA_g m rfl h (by decide)
theorem mW_7 (m : Mu) {i : Nat} (x : Int32) (h : i < 2000) : mW m 7 (nI i) x = some (mS m 7 i x) := mW_g m x rfl h (by decide) rfl
theorem mA_8 (m : Mu) {i : Nat} (h : i < 3700) : mA m 8 (nI i) = some (m.2.1 8 i) := mA_g m rfl h (by decide)
theorem mW_8_0 (m : Mu) {i : Nat} (h : i < 3700) : mW m 8 (nI i) (nI 0) = some (mS m 8 i (nI 0)) := mW_g m _ rfl h (by decide) (by decide)
theorem mW_8_1 (m : Mu) {i : Nat} (h : i < 3700) : mW m 8 (nI i) (nI 1) = some (mS m 8 i (nI 1)) := mW_g m _ rfl h (by decide) (by decide)
theorem mA_9 (m : Mu) {i : Nat} (h : i < 35) : mA m 9 (nI i) = some (m.2.1 9 i) := mA_g m rfl h (by decide)
theorem mW_9 (m : Mu) {i : Nat} (x : Int32) (h : i < 35) : mW m 9 (nI i) x = some (mS m 9 i x) := mW_g m x rfl h (by decide) rfl
theorem mA_10 (m : Mu) {i : Nat} (h : i < 11) : mA m 10 (nI i) = some (m.2.1 10 i) := mA_g m rfl h (by decide)
theorem mW_10 (m : Mu) {i : Nat} (x : Int32) (h : i < 11) : mW m 10 (nI i) x = some (mS m 10 i x) := mW_g m x rfl h (by decide) rfl
theorem mA_11 (m : Mu) {i : Nat} (h : i < 20001) : mA m 11 (nI i) = some (m.2.1 11 i) := mA_g m rfl h (by decide)
theorem mW_11 (m : Mu) {i : Nat} (x : Int32) (h : i < 20001) : mW m 11 (nI i) x = some (mS m 11 i x) := mW_g m x rfl h (by decide) rfl
theorem mA_12 (m : Mu) {i : Nat} (h : i < 20000) : mA m 12 (nI i) = some (m.2.1 12 i) := mA_g m rfl h (by decide)
theorem mW_12 (m : Mu) {i : Nat} (x : Int32) (h : i < 20000) : mW m 12 (nI i) x = some (mS m 12 i x) := mW_g m x rfl h (by decide) rfl
theorem mA_13 (m : Mu) {i : Nat} (h : i < 20000) : mA m 13 (nI i) = some (m.2.1 13 i) := mA_g m rfl h (by decide)
theorem mW_13 (m : Mu) {i : Nat} (x : Int32) (h : i < 20000) : mW m 13 (nI i) x = some (mS m 13 i x) := mW_g m x rfl h (by decide) rfl
theorem mA_14 (m : Mu) {i : Nat} (h : i < 700000) : mA m 14 (nI i) = some (m.2.1 14 i) := mA_g m rfl h (by decide)
theorem mW_14 (m : Mu) {i : Nat} (x : Int32) (h : i < 700000) : mW m 14 (nI i) x = some (mS m 14 i x) := mW_g m x rfl h (by decide) rfl
theorem mA_15 (m : Mu) {i : Nat} (h : i < 20000) : mA m 15 (nI i) = some (m.2.1 15 i) := mA_g m rfl h (by decide)
theorem mW_15 (m : Mu) {i : Nat} (x : Int32) (h : i < 20000) : mW m 15 (nI i) x = some (mS m 15 i x) := mW_g m x rfl h (by decide) rfl
theorem mA_16 (m : Mu) {i : Nat} (h : i < 20000) : mA m 16 (nI i) = some (m.2.1 16 i) := mA_g m rfl h (by decide)
theorem mW_16_0 (m : Mu) {i : Nat} (h : i < 20000) : mW m 16 (nI i) (nI 0) = some (mS m 16 i (nI 0)) := mW_g m _ rfl h (by decide) (by decide)
theorem mW_16_1 (m : Mu) {i : Nat} (h : i < 20000) : mW m 16 (nI i) (nI 1) = some (mS m 16 i (nI 1)) := mW_g m _ rfl h (by decide) (by decide)
theorem mJ_17 (m : Mu) {i : Nat} (h : i < 20000) : mJ m 17 (nI i) = some (m.2.2 17 i) := mJ_g m rfl h (by decide)
theorem mWJ_17 (m : Mu) {i : Nat} (x : Int64) (h : i < 20000) : mWJ m 17 (nI i) x = some (mSJ m 17 i x) := mWJ_g m x rfl h (by decide)
theorem mJ_18 (m : Mu) {i : Nat} (h : i < 20000) : mJ m 18 (nI i) = some (m.2.2 18 i) := mJ_g m rfl h (by decide)
theorem mWJ_18 (m : Mu) {i : Nat} (x : Int64) (h : i < 20000) : mWJ m 18 (nI i) x = some (mSJ m 18 i x) := mWJ_g m x rfl h (by decide)
theorem mA_19 (m : Mu) {i : Nat} (h : i < 19) : mA m 19 (nI i) = some (m.2.1 19 i) := mA_g m rfl h (by decide)
theorem mW_19 (m : Mu) {i : Nat} (x : Int32) (h : i < 19) : mW m 19 (nI i) x = some (mS m 19 i x) := mW_g m x rfl h (by decide) rfl
theorem mA_20 (m : Mu) {i : Nat} (h : i < 700000) : mA m 20 (nI i) = some (m.2.1 20 i) := mA_g m rfl h (by decide)
theorem mW_20 (m : Mu) {i : Nat} (x : Int32) (h : i < 700000) : mW m 20 (nI i) x = some (mS m 20 i x) := mW_g m x rfl h (by decide) rfl
theorem mA_21 (m : Mu) {i : Nat} (h : i < 4) : mA m 21 (nI i) = some (m.2.1 21 i) := mA_g m rfl h (by decide)
theorem mW_21 (m : Mu) {i : Nat} (x : Int32) (h : i < 4) : mW m 21 (nI i) x = some (mS m 21 i x) := mW_g m x rfl h (by decide) rfl
theorem mA_22 (m : Mu) {i : Nat} (h : i < 4) : mA m 22 (nI i) = some (m.2.1 22 i) := mA_g m rfl h (by decide)
theorem mW_22 (m : Mu) {i : Nat} (x : Int32) (h : i < 4) : mW m 22 (nI i) x = some (mS m 22 i x) := mW_g m x rfl h (by decide) rfl
theorem mJ_23 (m : Mu) {i : Nat} (h : i < 160) : mJ m 23 (nI i) = some (m.2.2 23 i) := mJ_g m rfl h (by decide)
theorem mWJ_23 (m : Mu) {i : Nat} (x : Int64) (h : i < 160) : mWJ m 23 (nI i) x = some (mSJ m 23 i x) := mWJ_g m x rfl h (by decide)
