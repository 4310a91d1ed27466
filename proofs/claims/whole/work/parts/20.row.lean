/-! ROWS: a row's object a, its cells a + 1 -/
theorem mIs_SI {h : mH} {a k : Nat} {x : Int32} {b c : Nat} : mIs (mSI h a k x) b c = mIs h b c := rfl
theorem i_of_n {n : Nat} (h : n ≤ 1000000) : (Int32.ofNat n).toNatClampNeg = n := by
  have : (Int32.ofNat n).toInt = n := Int32.toInt_ofNat_of_lt (by omega)
  show (Int32.ofNat n).toInt.toNat = n
  omega
theorem i_of_i {n : Nat} (h : n ≤ 1000000) : (Int32.ofNat n).toInt = n := Int32.toInt_ofNat_of_lt (by omega)
theorem i_lt {x y : Int32} : x < y ↔ x.toInt < y.toInt := Int32.lt_iff_toInt_lt
theorem i_le {x y : Int32} : x ≤ y ↔ x.toInt ≤ y.toInt := Int32.le_iff_toInt_le
theorem i_z : (0 : Int32).toInt = 0 := rfl
theorem i_cl {x : Int32} : x.toNatClampNeg = x.toInt.toNat := rfl
theorem i_to {x : Int32} (h : ¬ x < 0) : Int32.ofNat x.toNatClampNeg = x := by
  rw [i_lt, i_z] at h
  apply Int32.toInt_inj.1
  have h1 : x.toInt < 2147483648 := Int32.toInt_lt x
  rw [i_cl, Int32.toInt_ofNat_of_lt (by omega)]
  omega
theorem i_bm {z : Int} (h0 : -2147483648 ≤ z) (h1 : z < 2147483648) : z.bmod 4294967296 = z := by
  rw [Int.bmod_def]
  split <;> omega
theorem i_add {x y : Int32} (h0 : -2147483648 ≤ x.toInt + y.toInt) (h1 : x.toInt + y.toInt < 2147483648) : (x + y).toInt = x.toInt + y.toInt := by
  rw [Int32.toInt_add]; exact i_bm h0 h1
theorem i_sub {x y : Int32} (h0 : -2147483648 ≤ x.toInt - y.toInt) (h1 : x.toInt - y.toInt < 2147483648) : (x - y).toInt = x.toInt - y.toInt := by
  rw [Int32.toInt_sub]; exact i_bm h0 h1
theorem i_mul {x y : Int32} (h0 : -2147483648 ≤ x.toInt * y.toInt) (h1 : x.toInt * y.toInt < 2147483648) : (x * y).toInt = x.toInt * y.toInt := by
  rw [Int32.toInt_mul]; exact i_bm h0 h1
theorem i_in {j : Int32} {n : Nat} (h0 : 0 ≤ j.toInt) (h1 : j.toInt < n) : mIn j n = true := by
  unfold mIn
  rw [decide_eq_true_iff]
  rw [i_lt, i_cl, i_z]
  omega
def rN (h : mH) (a : Nat) : Nat := (mK h (a + 1)).2
def rL (h : mH) (a : Nat) : List Int32 := (List.range (mI h a 1).toNatClampNeg).map (mI h (a + 1))
def rOK (h : mH) (a : Nat) : Prop := mIs h a 4 = true ∧ mV h a 0 = .ref (a + 1) ∧ mIs h (a + 1) 100 = true ∧ rN h a ≤ 100000 ∧ ¬ mI h a 1 < 0 ∧ (mI h a 1).toNatClampNeg ≤ rN h a
def rW (h : mH) (a : Nat) (l : List Int32) : mH := (fun b j => if b = a ∧ j = 1 then Int32.ofNat l.length else if b = a + 1 ∧ j < l.length then l.getD j 0 else h.1 b j, h.2)
def lg (l : List Int32) (j : Int32) : Int32 := if j < 0 then 0 else l.getD j.toNatClampNeg 0
def ls (l : List Int32) (j v : Int32) : List Int32 := if j < 0 then l else l.set j.toNatClampNeg v
def la (n : Nat) (l : List Int32) (v : Int32) : List Int32 := if l.length < n then l ++ [v] else l
def lc (l : List Int32) (j : Int32) : List Int32 := if j < 0 then l else l.take j.toNatClampNeg
def rA (h : mH) (a : Nat) (x : Int32) : mH := rW h a (la (rN h a) (rL h a) x)
def rS (h : mH) (a : Nat) (j x : Int32) : mH := rW h a (ls (rL h a) j x)
def rC (h : mH) (a : Nat) (j : Int32) : mH := rW h a (lc (rL h a) j)
theorem rL_len {h : mH} {a : Nat} : (rL h a).length = (mI h a 1).toNatClampNeg := by
  unfold rL; rw [List.length_map, List.length_range]
theorem rL_size {h : mH} {a : Nat} (hr : rOK h a) : Int32.ofNat (rL h a).length = mI h a 1 := by
  rw [rL_len, i_to hr.2.2.2.2.1]
theorem rL_get {h : mH} {a k : Nat} (hk : k < (rL h a).length) : (rL h a).getD k 0 = mI h (a + 1) k := by
  have hk2 := hk
  rw [rL_len] at hk2
  unfold rL
  rw [List.getD_eq_getElem?_getD, List.getElem?_map, List.getElem?_range hk2]
  rfl
theorem l_df {l : List Int32} {k : Nat} (h : l.length ≤ k) : l.getD k 0 = 0 := by
  rw [List.getD_eq_getElem?_getD, List.getElem?_eq_none h]; rfl
theorem la_len {n : Nat} {l : List Int32} {x : Int32} (h : l.length ≤ n) : (la n l x).length ≤ n := by
  unfold la; split
  · rw [List.length_append]; simpa using by assumption
  · exact h
theorem ls_len {l : List Int32} {j x : Int32} : (ls l j x).length = l.length := by
  unfold ls; split
  · rfl
  · rw [List.length_set]
theorem lc_len {l : List Int32} {j : Int32} : (lc l j).length ≤ l.length := by
  unfold lc; split
  · exact Nat.le_refl _
  · rw [List.length_take]; omega
theorem mI_W (h : mH) (a : Nat) (l : List Int32) (b j : Nat) : mI (rW h a l) b j = if b = a ∧ j = 1 then Int32.ofNat l.length else if b = a + 1 ∧ j < l.length then l.getD j 0 else mI h b j := rfl
theorem rW_id {h : mH} {a : Nat} (hr : rOK h a) : rW h a (rL h a) = h := by
  refine Prod.ext ?_ rfl
  funext b j
  show (if b = a ∧ j = 1 then _ else if b = a + 1 ∧ j < _ then _ else h.1 b j) = h.1 b j
  split
  · next c => rw [rL_size hr, c.1, c.2]; rfl
  · split
    · next c => rw [rL_get c.2, c.1]; rfl
    · rfl
theorem r_size {d a : Nat} {h : mH} (hr : rOK h a) : mCall (d + 1) 15 [.ref a] h = some (.inl (some (.int (Int32.ofNat (rL h a).length))), h) := by
  rw [rL_size hr]
  simp only [x_15_0, x_15_1, x_15_4, c_15, hr.1]
theorem r_get {d a : Nat} {h : mH} {j : Int32} (hr : rOK h a) : mCall (d + 1) 30 [.ref a, .int j] h = some (.inl (some (.int (lg (rL h a) j))), h) := by
  obtain ⟨h1, h2, h3, h4, h5, h6⟩ := id hr
  have e0 : (mI h a 1).toInt = (rL h a).length := by rw [← rL_size hr]; exact i_of_i (by rw [rL_len]; omega)
  have e1 : (Int32.ofNat (rN h a)).toInt = rN h a := i_of_i (by omega)
  have e2 : (rL h a).length ≤ rN h a := by rw [rL_len]; exact h6
  simp only [c_30, x_30_0, x_30_1, x_30_4, x_30_5, x_30_6, h1, x_30_9, x_30_12, x_30_13, x_30_14, h2, x_30_17, h3, true_or, x_30_18, x_30_21, x_30_22, x_30_25, x_30_30, x_30_31]
  unfold lg
  by_cases c1 : j < 0
  · simp only [if_pos c1]
  rw [if_neg c1, if_neg c1]
  rw [i_lt, i_z] at c1
  by_cases c2 : mI h a 1 ≤ j
  · rw [if_pos c2]
    rw [i_le, e0] at c2
    rw [l_df (by rw [i_cl]; omega)]
  rw [if_neg c2]
  rw [i_le, e0] at c2
  have c3 : j.toNatClampNeg < (rL h a).length := by rw [i_cl]; omega
  change (if Int32.ofNat (rN h a) ≤ j then _ else _) = _
  rw [if_neg (by rw [i_le, e1]; omega), x_30_26 h3 (i_in (by omega) (by change _ < ((rN h a : Nat) : Int); omega)), x_30_27, x_30_31, rL_get c3]
theorem r_set {d a : Nat} {h : mH} {j x : Int32} (hr : rOK h a) : mCall (d + 1) 58 [.ref a, .int j, .int x] h = some (.inl none, rS h a j x) := by
  obtain ⟨h1, h2, h3, h4, h5, h6⟩ := id hr
  have e0 : (mI h a 1).toInt = (rL h a).length := by rw [← rL_size hr]; exact i_of_i (by rw [rL_len]; omega)
  have e1 : (Int32.ofNat (rN h a)).toInt = rN h a := i_of_i (by omega)
  have e2 : (rL h a).length ≤ rN h a := by rw [rL_len]; exact h6
  simp only [c_58, x_58_0, x_58_1, x_58_4, x_58_5, x_58_6, h1, x_58_9, x_58_12, x_58_13, x_58_14, h2, x_58_17, h3, true_or, x_58_18, x_58_21, x_58_22, x_58_25, x_58_26, x_58_28]
  unfold rS ls
  by_cases c1 : j < 0
  · simp only [if_pos c1, rW_id hr]
  rw [if_neg c1, if_neg c1]
  rw [i_lt, i_z] at c1
  by_cases c2 : mI h a 1 ≤ j
  · rw [if_pos c2]
    rw [i_le, e0] at c2
    rw [List.set_eq_of_length_le (by rw [i_cl]; omega), rW_id hr]
  rw [if_neg c2]
  rw [i_le, e0] at c2
  have c3 : j.toNatClampNeg < (rL h a).length := by rw [i_cl]; omega
  change (if Int32.ofNat (rN h a) ≤ j then _ else _) = _
  rw [if_neg (by rw [i_le, e1]; omega), x_58_27 h3 (i_in (by omega) (by change _ < ((rN h a : Nat) : Int); omega)), x_58_28]
  refine congrArg (fun z => some (Sum.inl none, z)) (Prod.ext ?_ rfl)
  funext b k
  show (if b = a + 1 ∧ k = j.toNatClampNeg then x else h.1 b k) = (if b = a ∧ k = 1 then _ else if b = a + 1 ∧ k < _ then _ else h.1 b k)
  by_cases q1 : b = a ∧ k = 1
  · rw [if_pos q1, if_neg (by omega), List.length_set, rL_size hr, q1.1, q1.2]; rfl
  rw [if_neg q1]
  by_cases q2 : b = a + 1 ∧ k < ((rL h a).set j.toNatClampNeg x).length
  · rw [if_pos q2]
    have q3 := q2.2
    rw [List.length_set] at q3
    rw [List.getD_eq_getElem?_getD, List.getElem?_set]
    by_cases q4 : j.toNatClampNeg = k
    · rw [if_pos ⟨q2.1, q4.symm⟩, if_pos q4, if_pos (by omega)]; rfl
    · rw [if_neg (by omega), if_neg q4, ← List.getD_eq_getElem?_getD, rL_get q3, q2.1]; rfl
  · rw [if_neg q2, if_neg]
    rw [List.length_set] at q2
    omega
theorem r_add {d a : Nat} {h : mH} {x : Int32} (hr : rOK h a) : mCall (d + 1) 16 [.ref a, .int x] h = some (.inl none, rA h a x) := by
  obtain ⟨h1, h2, h3, h4, h5, h6⟩ := id hr
  have e0 : (mI h a 1).toInt = (rL h a).length := by rw [← rL_size hr]; exact i_of_i (by rw [rL_len]; omega)
  have e1 : (Int32.ofNat (rN h a)).toInt = rN h a := i_of_i (by omega)
  have e2 : (rL h a).length ≤ rN h a := by rw [rL_len]; exact h6
  have e3 : (mI h a 1).toNatClampNeg = (rL h a).length := rL_len.symm
  simp only [c_16, x_16_0, x_16_1, x_16_4, x_16_7, x_16_8, h1, x_16_11, x_16_12, h2, x_16_15, h3, true_or, x_16_16, x_16_19, x_16_20, x_16_23, x_16_24, x_16_27, h5, if_false, x_16_39]
  unfold rA la
  change (if Int32.ofNat (rN h a) ≤ mI h a 1 then _ else _) = _
  by_cases c2 : (rL h a).length < rN h a
  · rw [if_neg (by rw [i_le, e1]; omega), if_pos c2, x_16_28 h3 (i_in (by omega) (by change _ < ((rN h a : Nat) : Int); omega))]
    simp only [x_16_29, x_16_30, x_16_31, mIs_SI, h1, x_16_34, x_16_35, x_16_36, x_16_39, mI_SI]
    rw [if_neg (by omega)]
    refine congrArg (fun z => some (Sum.inl none, z)) (Prod.ext ?_ rfl)
    funext b k
    show (if b = a ∧ k = 1 then _ else if b = a + 1 ∧ k = _ then x else h.1 b k) = (if b = a ∧ k = 1 then _ else if b = a + 1 ∧ k < _ then _ else h.1 b k)
    by_cases q1 : b = a ∧ k = 1
    · rw [if_pos q1, if_pos q1, List.length_append]
      apply Int32.toInt_inj.1
      rw [i_of_i (by simp only [List.length_cons, List.length_nil]; omega), i_add (by rw [e0]; show _ ≤ _ + (1 : Int); omega) (by rw [e0]; show _ + (1 : Int) < _; omega), e0]
      rfl
    rw [if_neg q1, if_neg q1, e3, List.length_append]
    simp only [List.length_cons, List.length_nil]
    by_cases q2 : b = a + 1 ∧ k = (rL h a).length
    · rw [if_pos q2, if_pos ⟨q2.1, by omega⟩, List.getD_eq_getElem?_getD, q2.2, List.getElem?_append_right (Nat.le_refl _), Nat.sub_self]; rfl
    · rw [if_neg q2]
      by_cases q3 : b = a + 1 ∧ k < (rL h a).length
      · rw [if_pos ⟨q3.1, by omega⟩, List.getD_eq_getElem?_getD, List.getElem?_append_left q3.2, ← List.getD_eq_getElem?_getD, rL_get q3.2, q3.1]; rfl
      · rw [if_neg (by omega)]
  · rw [if_pos (by rw [i_le, e1]; omega), if_neg c2, rW_id hr]
theorem r_cut {d a : Nat} {h : mH} {j : Int32} (hr : rOK h a) : mCall (d + 1) 24 [.ref a, .int j] h = some (.inl none, rC h a j) := by
  obtain ⟨h1, h2, h3, h4, h5, h6⟩ := id hr
  have e0 : (mI h a 1).toInt = (rL h a).length := by rw [← rL_size hr]; exact i_of_i (by rw [rL_len]; omega)
  simp only [x_24_0, x_24_1, x_24_4, x_24_5, x_24_6, x_24_9, x_24_12, x_24_13, x_24_14, x_24_17, c_24, h1]
  unfold rC lc
  by_cases c1 : j < 0
  · simp only [if_pos c1, rW_id hr]
  rw [if_neg c1, if_neg c1]
  have c1' := c1
  rw [i_lt, i_z] at c1
  by_cases c2 : mI h a 1 ≤ j
  · rw [if_pos c2]
    rw [i_le, e0] at c2
    rw [List.take_of_length_le (by rw [i_cl]; omega), rW_id hr]
  rw [if_neg c2]
  rw [i_le, e0] at c2
  have c3 : j.toNatClampNeg < (rL h a).length := by rw [i_cl]; omega
  refine congrArg (fun z => some (Sum.inl none, z)) (Prod.ext ?_ rfl)
  funext b k
  show (if b = a ∧ k = 1 then j else h.1 b k) = (if b = a ∧ k = 1 then _ else if b = a + 1 ∧ k < _ then _ else h.1 b k)
  have e5 : ((rL h a).take j.toNatClampNeg).length = j.toNatClampNeg := by rw [List.length_take]; omega
  by_cases q1 : b = a ∧ k = 1
  · rw [if_pos q1, if_pos q1, e5, i_to c1']
  rw [if_neg q1, if_neg q1, e5]
  by_cases q2 : b = a + 1 ∧ k < j.toNatClampNeg
  · rw [if_pos q2, List.getD_eq_getElem?_getD, List.getElem?_take_of_lt q2.2, ← List.getD_eq_getElem?_getD, rL_get (by omega), q2.1]; rfl
  · rw [if_neg q2]
