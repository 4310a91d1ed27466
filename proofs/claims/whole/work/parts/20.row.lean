/-! ROWS: a row's object a, its cells a + 1 -/
theorem mIs_SI {h : mH} {a k : Nat} {x : Int32} {b c : Nat} : mIs (mSI h a k x) b c = mIs h b c := rfl
theorem i_of_n {n : Nat} (h : n ≤ 1000000) : (Int32.ofNat n).toNatClampNeg = n := by
  have : (Int32.ofNat n).toInt = n := Int32.toInt_ofNat_of_lt (by omega)
  show (Int32.ofNat n).toInt.toNat = n
  omega
theorem i_of_i {n : Nat} (h : n ≤ 1000000) : (Int32.ofNat n).toInt = n := Int32.toInt_ofNat_of_lt (by omega)
theorem i_lt {x y : Int32} : x < y ↔ x.toInt < y.toInt := Int32.lt_iff_toInt_lt
theorem i_le {x y : Int32} : x ≤ y ↔ x.toInt ≤ y.toInt := Int32.le_iff_toInt_le
theorem i_z : (0 : Int32).toInt = 0 := rfl
theorem i_cl {x : Int32} : x.toNatClampNeg = x.toInt.toNat := rfl
theorem i_in {j : Int32} {n : Nat} (h0 : 0 ≤ j.toInt) (h1 : j.toInt < n) : mIn j n = true := by
  unfold mIn
  rw [decide_eq_true_iff]
  rw [i_lt, i_cl, i_z]
  omega
/-- the row at a, of so many places, holds the list -/
def rR (h : mH) (a n : Nat) (l : List Int32) : Prop := mIs h a 4 = true ∧ mV h a 0 = .ref (a + 1) ∧ mIs h (a + 1) 100 = true ∧ (mK h (a + 1)).2 = n ∧ n ≤ 100000 ∧ l.length ≤ n ∧ mI h a 1 = Int32.ofNat l.length ∧ ∀ k, k < l.length → mI h (a + 1) k = l.getD k 0
def lg (l : List Int32) (j : Int32) : Int32 := if j < 0 then 0 else l.getD j.toNatClampNeg 0
def ls (l : List Int32) (j v : Int32) : List Int32 := if j < 0 then l else l.set j.toNatClampNeg v
def la (n : Nat) (l : List Int32) (v : Int32) : List Int32 := if l.length < n then l ++ [v] else l
def lc (l : List Int32) (j : Int32) : List Int32 := if j < 0 then l else l.take j.toNatClampNeg
theorem l_df {l : List Int32} {k : Nat} (h : l.length ≤ k) : l.getD k 0 = 0 := by
  rw [List.getD_eq_getElem?_getD, List.getElem?_eq_none h]; rfl
theorem r_size {d a n : Nat} {l : List Int32} {h : mH} (hr : rR h a n l) : mCall (d + 1) 15 [.ref a] h = some (.inl (some (.int (Int32.ofNat l.length))), h) := by
  obtain ⟨h1, h2, h3, h4, h5, h6, h7, h8⟩ := hr
  simp only [c_15, x_15_0, x_15_1, h1, x_15_4, h7]
theorem r_get {d a n : Nat} {l : List Int32} {h : mH} {j : Int32} (hr : rR h a n l) : mCall (d + 1) 30 [.ref a, .int j] h = some (.inl (some (.int (lg l j))), h) := by
  obtain ⟨h1, h2, h3, h4, h5, h6, h7, h8⟩ := hr
  have e0 : (Int32.ofNat l.length).toInt = l.length := i_of_i (by omega)
  have e1 : (Int32.ofNat n).toInt = n := i_of_i (by omega)
  simp only [c_30, x_30_0, x_30_1, x_30_4, x_30_5, x_30_6, h1, x_30_9, x_30_12, x_30_13, x_30_14, h2, x_30_17, h3, true_or, x_30_18, x_30_21, x_30_22, x_30_25, x_30_30, x_30_31, h7, h4]
  unfold lg
  by_cases c1 : j < 0
  · simp only [if_pos c1, x_30_31]
  rw [if_neg c1, if_neg c1]
  rw [i_lt, i_z] at c1
  by_cases c2 : Int32.ofNat l.length ≤ j
  · rw [if_pos c2]
    rw [i_le, e0] at c2
    rw [l_df (by rw [i_cl]; omega)]
    simp only [x_30_31]
  rw [if_neg c2]
  rw [i_le, e0] at c2
  rw [if_neg (by rw [i_le, e1]; omega), x_30_26 h3 (i_in (by omega) (by omega)), x_30_27, x_30_31, h8 _ (by rw [i_cl]; omega)]
