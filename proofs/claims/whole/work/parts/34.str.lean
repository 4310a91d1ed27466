/-! CONSTANT TEXTS -/
def sT (c : Nat) (l : List Int32) : Prop := c < 200 ∧ mStr.any (fun q => decide (q.1 = c)) = true ∧ l.length ≤ 1000 ∧ (∀ x, x ∈ l → 0 ≤ x.toInt ∧ x.toInt < 128) ∧ ∃ b, b < 200 ∧ ¬ b = 0 ∧ mCF c 0 = some (.ref b) ∧ mCF c 1 = some (.int 0) ∧ mCT.find? (fun q => q.1 == b) = some (b, .byte, l.map (fun x => Value.int x))
theorem sT_rcv {c y : Nat} {l : List Int32} {h : mH} (hs : sT c l) (hy : mCo y = 200) : mRcv y h (some (.ref c)) = true := by
  show ((decide (mCo y < 100) && mIs h c (mCo y)) || (decide (c < mNC) && decide (mCo y = 200) && mStr.any (fun q => decide (q.1 = c)))) = true
  rw [hs.2.1, hy]
  have : decide (c < mNC) = true := decide_eq_true hs.1
  rw [this]
  rfl
theorem sT_ca {h : mH} {b : Nat} {l : List Int32} (hb : ¬ b = 0) (hf : mCT.find? (fun q => q.1 == b) = some (b, .byte, l.map (fun x => Value.int x))) : mCA h b = some (.byte, l.length, fun j => (l.map (fun x => Value.int x)).getD j .null) := by
  unfold mCA
  rw [if_neg hb, hf]
  simp
theorem str_coder {c d : Nat} {l : List Int32} {h : mH} (hs : sT c l) : mCall (d + 1) 36 [.ref c] h = some (.inl (some (.int 0)), h) := by
  obtain ⟨h1, h2, h3, h4, b, hb, hb0, hv, hw, hf⟩ := hs
  have n10 : ¬ (1 : Int32) = 0 := by decide
  simp only [c_36, x_36_0, x_36_3, n10, if_false, x_36_6]
  rw [x_36_7 h1 hw, x_36_10, x_36_14 (by decide)]
theorem str_len {c d : Nat} {l : List Int32} {h : mH} (hs : sT c l) : mCall (d + 2) 37 [.ref c] h = some (.inl (some (.int (Int32.ofNat l.length))), h) := by
  have hc := str_coder (d := d) (h := h) hs
  have hr := sT_rcv (y := 36) (h := h) hs (by decide +kernel)
  obtain ⟨h1, h2, h3, h4, b, hb, hb0, hv, hw, hf⟩ := hs
  rw [c_37, x_37_0, x_37_1 h1 hv, e_cl (show mIns 37 4 = some (.arraylength, 1, []) by decide +kernel) hb (sT_ca hb0 hf), x_37_5, x_37_6 (by rw [mS_i, mS_n]; decide) hr, hc]
  simp only [Option.bind_some, mAft_v, x_37_9, x_37_10]
  have : Int32.ofNat l.length >>> ((0 : Int32) &&& 31) = Int32.ofNat l.length := by
    rw [show (0 : Int32) &&& 31 = 0 from by decide, Int32.shiftRight_zero]
  rw [this]
theorem str_lat {c d : Nat} {l : List Int32} {h : mH} (hs : sT c l) : mCall (d + 1) 38 [.ref c] h = some (.inl (some (.int 1)), h) := by
  obtain ⟨h1, h2, h3, h4, b, hb, hb0, hv, hw, hf⟩ := hs
  have n10 : ¬ (1 : Int32) = 0 := by decide
  simp only [c_38, x_38_0, x_38_3, n10, if_false, x_38_6]
  rw [x_38_7 h1 hw, x_38_10, if_pos rfl, x_38_13, x_38_14, x_38_18 (by decide)]
theorem str_chk {d : Nat} {i n : Int32} {h : mH} (h0 : ¬ i < 0) (h1 : i < n) : mCall (d + 2) 40 [.int i, .int n] h = some (.inl none, h) := by
  simp (maxDischargeDepth := 60) only [x_39_0, x_39_1, x_39_4, x_39_5, x_39_6, x_39_9, x_39_10, x_39_11, x_39_16, x_39_17, c_39, x_40_0, x_40_1, x_40_2, x_40_5, x_40_8, x_40_9, c_40, h0, h1, Option.bind_some, mAft_n, mAft_v, mAft_x, mS_n, mS_i, mS_r, mS_l, mS_d, ne_eq, not_false_eq_true, not_true_eq_false, true_or, or_true, and_true, true_and, if_true, if_false, ite_true, ite_false, reduceIte, Nat.reduceAdd, Nat.reduceLeDiff, Nat.reduceEqDiff, false_and, and_false, or_false, false_or, eq_self, reduceCtorEq]
theorem l_getv {l : List Int32} {k : Nat} (h : k < l.length) : (l.map (fun x => Value.int x)).getD k .null = .int (l.getD k 0) := by
  rw [List.getD_eq_getElem?_getD, List.getElem?_map, List.getD_eq_getElem?_getD, List.getElem?_eq_getElem h]; rfl
theorem ch_id {x : Int32} (h0 : 0 ≤ x.toInt) (h1 : x.toInt < 128) : x &&& 255 = x ∧ (x.toUInt32 % 65536).toInt32 = x ∧ x.toUInt32.toUInt16.toUInt32.toInt32 = x := by
  have e : x = Int32.ofNat x.toInt.toNat := by
    have := i_to (x := x) (by rw [i_lt, i_z]; omega)
    rw [i_cl] at this; exact this.symm
  have h2 : x.toInt.toNat < 128 := by omega
  rw [e]
  generalize x.toInt.toNat = n at h2
  have : ∀ n, n < 128 → Int32.ofNat n &&& 255 = Int32.ofNat n ∧ ((Int32.ofNat n).toUInt32 % 65536).toInt32 = Int32.ofNat n ∧ (Int32.ofNat n).toUInt32.toUInt16.toUInt32.toInt32 = Int32.ofNat n := by decide +kernel
  exact this n h2
theorem str_at {c d : Nat} {l : List Int32} {i : Int32} {h : mH} (hs : sT c l) (h0 : ¬ i < 0) (h1 : i.toNatClampNeg < l.length) : mCall (d + 4) 42 [.ref c, .int i] h = some (.inl (some (.int (lg l i))), h) := by
  have hc := str_lat (d := d + 2) (h := h) hs
  have hr := sT_rcv (y := 38) (h := h) hs (by decide +kernel)
  obtain ⟨g1, g2, g3, g4, b, hb, hb0, hv, hw, hf⟩ := hs
  have n10 : ¬ (1 : Int32) = 0 := by decide
  have hlt : i < Int32.ofNat l.length := by
    rw [i_lt, i_of_i (by omega)]
    rw [i_lt, i_z] at h0
    rw [i_cl] at h1
    omega
  have elg : lg l i = l.getD i.toNatClampNeg 0 := by unfold lg; rw [if_neg h0]
  have hx := g4 (l.getD i.toNatClampNeg 0) (by
    rw [List.getD_eq_getElem?_getD, List.getElem?_eq_getElem h1]
    exact List.getElem_mem h1)
  have hid := ch_id hx.1 hx.2
  rw [c_42, x_42_0, x_42_1 (by decide) hr, hc]
  simp only [Option.bind_some, mAft_v, x_42_4, n10, if_false, x_42_7]
  rw [x_42_8 g1 hv, x_42_11, x_42_12 (by decide), c_41, x_41_0, x_41_1, e_cl (show mIns 41 2 = some (.arraylength, 1, []) by decide +kernel) hb (sT_ca hb0 hf)]
  simp only [Nat.reduceAdd]
  rw [x_41_3 (by decide), str_chk h0 hlt]
  simp only [Option.bind_some, mAft_n, x_41_6, x_41_7]
  rw [x_41_8 hb (sT_ca hb0 hf) rfl (i_in (by rw [i_lt, i_z] at h0; omega) (by rw [i_cl] at h1; rw [i_lt, i_z] at h0; show i.toInt < ((l.length : Nat) : Int); omega))]
  simp only []
  have hn : narrow .char (.int (l.getD i.toNatClampNeg 0)) = .int (l.getD i.toNatClampNeg 0) := by
    show Value.int _ = _
    rw [hid.2.2]
  rw [l_getv h1, x_41_9, x_41_12, x_41_13, hid.1, hid.2.1, x_41_14 hn, Option.bind_some, mAft_v, x_42_15 hn, elg]
