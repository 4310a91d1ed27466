/-! THE REFERENCE'S TOKENS: BYTES, A NEW TOKEN, KEYWORDS -/
/-- the tape holds B -/
def tpR (h : mH) (B : List Int32) : Prop := mI h 316 2 = Int32.ofNat B.length ∧ B.length ≤ 2000 ∧ ∀ k, k < B.length → mI h 317 k = B.getD k 0
def bA (B : List Int32) (k : Nat) : Int32 := if k < B.length then B.getD k 0 else -1
theorem s_byte {d p k : Nat} {B : List Int32} {h : mH} (hk : kM h) (hp : isP p) (hB : tpR h B) (hk2 : k ≤ 100000) : mCall (d + 1) 94 [.ref p, .int (Int32.ofNat k)] h = some (.inl (some (.int (bA B k))), h) := by
  obtain ⟨h1, h2, h3⟩ := hB
  unfold bA
  by_cases c : k < B.length
  · rw [if_pos c]
    have c1 : ¬ Int32.ofNat B.length ≤ Int32.ofNat k := by rw [i_ofle (by omega) (by omega)]; omega
    have hj : mIn (Int32.ofNat k) 2000 = true := i_in (by rw [i_of_i (by omega)]; omega) (by rw [i_of_i (by omega)]; omega)
    have en : (Int32.ofNat k).toNatClampNeg = k := i_of_n (by omega)
    have e := h3 k c
    simp (maxDischargeDepth := 60) only [hk, x_94_0, x_94_1, x_94_2, x_94_5, x_94_8, x_94_11, x_94_12, x_94_15, x_94_18, x_94_19, x_94_20, x_94_23, x_94_24, c_94, hp, h1, c1, hj, en, e, Option.bind_some, mAft_n, mAft_v, mAft_x, mS_n, mS_i, mS_r, mS_l, mS_d, ne_eq, not_false_eq_true, not_true_eq_false, true_or, or_true, and_true, true_and, if_true, if_false, ite_true, ite_false, reduceIte, Nat.reduceAdd, Nat.reduceLeDiff, Nat.reduceEqDiff, false_and, and_false, or_false, false_or, eq_self, reduceCtorEq, mi_316, mi_317, ml_317, mi_318, ml_318, mi_319, ml_319, mi_320, ml_320, mi_321, ml_321, mi_322, ml_322, mi_359, ml_359, mv_316_1, mv_316_4, mv_316_7, mv_316_8, mv_316_9, mv_316_10, mv_316_13, mv_316_14, mv_316_15, pi_0, pi_1, pl_1, pv_1, pi_2, pl_2, pv_2, pi_3, pl_3, pv_3, pi_4, pl_4, pv_4, pi_5, pl_5, pv_5, pi_6, pl_6, pv_10, pi_7, pl_7, pv_11, pi_8, pl_8, pv_12, pi_9, pl_9, pv_13, pi_10, pl_10, pv_14, pi_11, pl_11, pv_15, pv_20, wi_0, wi_1, wl_1, wv_14, wi_2, wl_2, wv_15, wi_3, wl_3, wv_16, wi_4, wl_4, wv_17, wi_5, wl_5, wv_18, wv_21, pt_P, pt_v, pt_w, pt_SI, pt_SL, kM_SI, kM_SL, lI_SL, lV_SL, lK_SL, lN_SL, lL_SL, lIs_SL, nI_SI, nV_SI, nK_SI, nN_SI, nL_SI, nIs_SI, pp_c, pp_l, pp_r, pp_k, pp_k0, pp_j, pp_j0, isl]
  · rw [if_neg c]
    have c1 : Int32.ofNat B.length ≤ Int32.ofNat k := by rw [i_ofle (by omega) (by omega)]; omega
    simp (maxDischargeDepth := 60) only [hk, x_94_0, x_94_1, x_94_2, x_94_5, x_94_8, x_94_11, x_94_12, x_94_15, x_94_18, x_94_19, x_94_20, x_94_23, x_94_24, c_94, hp, h1, c1, Option.bind_some, mAft_n, mAft_v, mAft_x, mS_n, mS_i, mS_r, mS_l, mS_d, ne_eq, not_false_eq_true, not_true_eq_false, true_or, or_true, and_true, true_and, if_true, if_false, ite_true, ite_false, reduceIte, Nat.reduceAdd, Nat.reduceLeDiff, Nat.reduceEqDiff, false_and, and_false, or_false, false_or, eq_self, reduceCtorEq, mi_316, mi_317, ml_317, mi_318, ml_318, mi_319, ml_319, mi_320, ml_320, mi_321, ml_321, mi_322, ml_322, mi_359, ml_359, mv_316_1, mv_316_4, mv_316_7, mv_316_8, mv_316_9, mv_316_10, mv_316_13, mv_316_14, mv_316_15, pi_0, pi_1, pl_1, pv_1, pi_2, pl_2, pv_2, pi_3, pl_3, pv_3, pi_4, pl_4, pv_4, pi_5, pl_5, pv_5, pi_6, pl_6, pv_10, pi_7, pl_7, pv_11, pi_8, pl_8, pv_12, pi_9, pl_9, pv_13, pi_10, pl_10, pv_14, pi_11, pl_11, pv_15, pv_20, wi_0, wi_1, wl_1, wv_14, wi_2, wl_2, wv_15, wi_3, wl_3, wv_16, wi_4, wl_4, wv_17, wi_5, wl_5, wv_18, wv_21, pt_P, pt_v, pt_w, pt_SI, pt_SL, kM_SI, kM_SL, lI_SL, lV_SL, lK_SL, lN_SL, lL_SL, lIs_SL, nI_SI, nV_SI, nK_SI, nN_SI, nL_SI, nIs_SI, pp_c, pp_l, pp_r, pp_k, pp_k0, pp_j, pp_j0, isl]
/-- a token more -/
def adTk (h : mH) (p n : Nat) (kd nu : Int32) (w : Int64) (f : Int32) : mH := mSI (mSI (mSL (mSI (mSI h (p + 1) n kd) (p + 2) n nu) (p + 5) n w) (p + 3) n f) p 0 (Int32.ofNat (n + 1))
theorem s_add {d p n : Nat} {kd nu f : Int32} {w : Int64} {h : mH} (hk : kM h) (hp : isP p) (hn : mI h p 0 = Int32.ofNat n) (hn2 : n < 402) : mCall (d + 1) 95 [.ref p, .int kd, .int nu, .long w, .int f] h = some (.inl none, adTk h p n kd nu w f) := by
  have hj : mIn (Int32.ofNat n) 402 = true := i_in (by rw [i_of_i (by omega)]; omega) (by rw [i_of_i (by omega)]; omega)
  have en : (Int32.ofNat n).toNatClampNeg = n := i_of_n (by omega)
  unfold adTk
  simp (maxDischargeDepth := 60) only [hk, x_95_0, x_95_1, x_95_4, x_95_5, x_95_8, x_95_9, x_95_10, x_95_11, x_95_14, x_95_15, x_95_18, x_95_19, x_95_20, x_95_21, x_95_24, x_95_25, x_95_28, x_95_29, x_95_30, x_95_31, x_95_34, x_95_35, x_95_38, x_95_40, x_95_41, x_95_42, x_95_42i, x_95_43, x_95_46, x_95_47, x_95_48, x_95_51, c_95, hp, hn, hj, en, i_succ, kM_SL, Option.bind_some, mAft_n, mAft_v, mAft_x, mS_n, mS_i, mS_r, mS_l, mS_d, ne_eq, not_false_eq_true, not_true_eq_false, true_or, or_true, and_true, true_and, if_true, if_false, ite_true, ite_false, reduceIte, Nat.reduceAdd, Nat.reduceLeDiff, Nat.reduceEqDiff, false_and, and_false, or_false, false_or, eq_self, reduceCtorEq, mi_316, mi_317, ml_317, mi_318, ml_318, mi_319, ml_319, mi_320, ml_320, mi_321, ml_321, mi_322, ml_322, mi_359, ml_359, mv_316_1, mv_316_4, mv_316_7, mv_316_8, mv_316_9, mv_316_10, mv_316_13, mv_316_14, mv_316_15, pi_0, pi_1, pl_1, pv_1, pi_2, pl_2, pv_2, pi_3, pl_3, pv_3, pi_4, pl_4, pv_4, pi_5, pl_5, pv_5, pi_6, pl_6, pv_10, pi_7, pl_7, pv_11, pi_8, pl_8, pv_12, pi_9, pl_9, pv_13, pi_10, pl_10, pv_14, pi_11, pl_11, pv_15, pv_20, wi_0, wi_1, wl_1, wv_14, wi_2, wl_2, wv_15, wi_3, wl_3, wv_16, wi_4, wl_4, wv_17, wi_5, wl_5, wv_18, wv_21, pt_P, pt_v, pt_w, pt_SI, pt_SL, kM_SI, kM_SL, lI_SL, lV_SL, lK_SL, lN_SL, lL_SL, lIs_SL, nI_SI, nV_SI, nK_SI, nN_SI, nL_SI, nIs_SI, pp_c, pp_l, pp_r, pp_k, pp_k0, pp_j, pp_j0, isl]
def KW : List (List Int32) := [[114, 111, 111, 109], [100, 111, 111, 114], [112, 97, 114, 116], [105, 110], [110, 101, 101, 100, 115], [102, 111, 114], [119, 111, 114, 116, 104], [97, 108, 108], [99, 104, 105, 108, 100], [101, 120, 112, 101, 114, 116], [116, 111, 117, 114], [103, 111], [112, 108, 97, 121], [114, 101, 115, 116], [105, 102], [101, 108, 115, 101], [114, 101, 112, 101, 97, 116], [99, 97, 108, 108], [104, 101, 97, 114, 100], [111, 112, 101, 110], [116, 105, 109, 101], [108, 101, 102, 116], [116, 105, 114, 101, 100], [112, 97, 99, 101], [110, 111, 116], [97, 110, 100], [111, 114], [109, 105, 110], [109, 97, 120]]
def wdL (l : List Int32) (a : Int64) : Int64 := l.foldl (fun a x => 37 * a + (mcd x).toInt64) a
theorem KW_sT : ∀ k, k < 29 → sT (58 + 2 * k) (KW.getD k []) := by
  have a : ∀ k, k < 29 → (58 + 2 * k < 200 ∧ mStr.any (fun q => decide (q.1 = 58 + 2 * k)) = true ∧ (KW.getD k []).length ≤ 1000 ∧ (∀ x, x ∈ KW.getD k [] → 0 ≤ x.toInt ∧ x.toInt < 128) ∧ mCF (58 + 2 * k) 0 = some (.ref (59 + 2 * k)) ∧ mCF (58 + 2 * k) 1 = some (.int 0) ∧ mCT.find? (fun q => q.1 == 59 + 2 * k) = some (59 + 2 * k, .byte, (KW.getD k []).map (fun x => Value.int x))) := by decide +kernel
  intro k hk
  obtain ⟨a1, a2, a3, a4, a5, a6, a7⟩ := a k hk
  exact ⟨a1, a2, a3, a4, 59 + 2 * k, show 59 + 2 * k < 200 by omega, show ¬ 59 + 2 * k = 0 by omega, a5, a6, a7⟩
theorem KW_rf : ∀ k, k < 29 → (([Value.ref 58, .ref 60, .ref 62, .ref 64, .ref 66, .ref 68, .ref 70, .ref 72, .ref 74, .ref 76, .ref 78, .ref 80, .ref 82, .ref 84, .ref 86, .ref 88, .ref 90, .ref 92, .ref 94, .ref 96, .ref 98, .ref 100, .ref 102, .ref 104, .ref 106, .ref 108, .ref 110, .ref 112, .ref 114] : List Value).getD k .null) = .ref (58 + 2 * k) := by decide +kernel
theorem KW_ca {h : mH} : mCA h 57 = some (.object "java/lang/String", 29, fun j => ([Value.ref 58, .ref 60, .ref 62, .ref 64, .ref 66, .ref 68, .ref 70, .ref 72, .ref 74, .ref 76, .ref 78, .ref 80, .ref 82, .ref 84, .ref 86, .ref 88, .ref 90, .ref 92, .ref 94, .ref 96, .ref 98, .ref 100, .ref 102, .ref 104, .ref 106, .ref 108, .ref 110, .ref 112, .ref 114] : List Value).getD j .null) := by
  unfold mCA
  rw [if_neg (by decide)]
  rw [show mCT.find? (fun q => q.1 == 57) = some (57, .object "java/lang/String", [Value.ref 58, .ref 60, .ref 62, .ref 64, .ref 66, .ref 68, .ref 70, .ref 72, .ref 74, .ref 76, .ref 78, .ref 80, .ref 82, .ref 84, .ref 86, .ref 88, .ref 90, .ref 92, .ref 94, .ref 96, .ref 98, .ref 100, .ref 102, .ref 104, .ref 106, .ref 108, .ref 110, .ref 112, .ref 114]) by decide +kernel]
  rfl
theorem KW_21 {C : Nat → List Value → mH → Option mO} {lo : mLo} {st : List Value} {h : mH} {k : Nat} (hk : k < 29) : mExec C 99 21 lo (.int (Int32.ofNat k) :: .ref 57 :: st) h = mExec C 99 22 lo (.ref (58 + 2 * k) :: st) h := by
  have jk : mIn (Int32.ofNat k) 29 = true := i_in (by rw [i_of_i (by omega)]; omega) (by rw [i_of_i (by omega)]; omega)
  have ek : (Int32.ofNat k).toNatClampNeg = k := i_of_n (by omega)
  have rf := KW_rf k hk
  rw [x_99_21 (by decide +kernel) KW_ca rfl jk]
  dsimp only
  rw [ek, rf]
theorem KW_37 {C : Nat → List Value → mH → Option mO} {lo : mLo} {st : List Value} {h : mH} {k : Nat} (hk : k < 29) : mExec C 99 37 lo (.int (Int32.ofNat k) :: .ref 57 :: st) h = mExec C 99 38 lo (.ref (58 + 2 * k) :: st) h := by
  have jk : mIn (Int32.ofNat k) 29 = true := i_in (by rw [i_of_i (by omega)]; omega) (by rw [i_of_i (by omega)]; omega)
  have ek : (Int32.ofNat k).toNatClampNeg = k := i_of_n (by omega)
  have rf := KW_rf k hk
  rw [x_99_37 (by decide +kernel) KW_ca rfl jk]
  dsimp only
  rw [ek, rf]
theorem KW_6 {C : Nat → List Value → mH → Option mO} {lo : mLo} {st : List Value} {h : mH} : mExec C 99 6 lo (.ref 57 :: st) h = mExec C 99 7 lo (.int 29 :: st) h := e_cl (show mIns 99 6 = some (.arraylength, 1, []) by decide +kernel) (by decide +kernel) KW_ca
theorem s_k1 {d k : Nat} {w : Int64} {h : mH} (hk : k < 29) : ∀ (n i : Nat) (a : Int64), i + n = (KW.getD k []).length →
    mExec (mCall (d + 4)) 99 15 [some (.long w), none, some (.int (Int32.ofNat k)), some (.long a), none, some (.int (Int32.ofNat i))] [] h = mExec (mCall (d + 4)) 99 55 [some (.long w), none, some (.int (Int32.ofNat k)), some (.long (wdL ((KW.getD k []).drop i) a)), none, some (.int (Int32.ofNat (KW.getD k []).length))] [] h := by
  have hs := KW_sT k hk
  have sl := str_len (d := d + 2) (h := h) hs
  have sa := fun (i : Int32) h0 h1 => str_at (d := d) (i := i) (h := h) hs h0 h1
  have r1 := sT_rcv (y := 37) (h := h) hs (by decide +kernel)
  have r2 := sT_rcv (y := 42) (h := h) hs (by decide +kernel)
  generalize KW.getD k [] = l at *
  have hl := hs.2.2.1
  intro n
  induction n with
  | zero =>
    intro i a e
    have c1 : Int32.ofNat l.length ≤ Int32.ofNat i := by rw [i_ofle (by omega) (by omega)]; omega
    have e0 : l.drop i = [] := List.drop_eq_nil_of_le (by omega)
    have ei : i = l.length := by omega
    rw [e0, x_99_15]
    simp (maxDischargeDepth := 60) only [c1, sl, r1, KW_21 hk, x_99_0, x_99_1, x_99_2, x_99_3, x_99_6, x_99_7, x_99_10, x_99_11, x_99_12, x_99_13, x_99_17, x_99_20, x_99_22, x_99_25, x_99_28, x_99_31, x_99_32, x_99_33, x_99_36, x_99_38, x_99_40, x_99_43, x_99_46, x_99_47, x_99_48, x_99_49, x_99_52, x_99_56, x_99_57, x_99_58, x_99_61, x_99_62, x_99_63, x_99_66, x_99_69, x_99_72, Option.bind_some, mAft_n, mAft_v, mAft_x, mS_n, mS_i, mS_r, mS_l, mS_d, ne_eq, not_false_eq_true, not_true_eq_false, true_or, or_true, and_true, true_and, if_true, if_false, ite_true, ite_false, reduceIte, Nat.reduceAdd, Nat.reduceLeDiff, Nat.reduceEqDiff, false_and, and_false, or_false, false_or, eq_self, reduceCtorEq]
    rw [ei]
    rfl
  | succ n ih =>
    intro i a e
    have c1 : ¬ Int32.ofNat l.length ≤ Int32.ofNat i := by rw [i_ofle (by omega) (by omega)]; omega
    have n0 : ¬ Int32.ofNat i < 0 := by rw [show (0 : Int32) = Int32.ofNat 0 from rfl, i_oflt (by omega) (by omega)]; omega
    have ca := sa (Int32.ofNat i) n0 (by rw [i_of_n (by omega)]; omega)
    rw [lg_of (by omega)] at ca
    have e0 : l.drop i = l.getD i 0 :: l.drop (i + 1) := by
      rw [List.drop_eq_getElem_cons (by omega), List.getD_eq_getElem?_getD, List.getElem?_eq_getElem (by omega)]; rfl
    have i1 := ih (i + 1) (37 * a + (mcd (l.getD i 0)).toInt64) (by omega)
    rw [e0]
    show _ = mExec (mCall (d + 4)) 99 55 [some (.long w), none, some (.int (Int32.ofNat k)), some (.long (wdL (l.drop (i + 1)) (37 * a + (mcd (l.getD i 0)).toInt64))), none, some (.int (Int32.ofNat l.length))] [] h
    rw [← i1, x_99_15]
    simp (maxDischargeDepth := 60) only [c1, sl, r1, r2, ca, KW_21 hk, KW_37 hk, m_code, i_succ, x_99_0, x_99_1, x_99_2, x_99_3, x_99_6, x_99_7, x_99_10, x_99_11, x_99_12, x_99_13, x_99_17, x_99_20, x_99_22, x_99_25, x_99_28, x_99_31, x_99_32, x_99_33, x_99_36, x_99_38, x_99_40, x_99_43, x_99_46, x_99_47, x_99_48, x_99_49, x_99_52, x_99_56, x_99_57, x_99_58, x_99_61, x_99_62, x_99_63, x_99_66, x_99_69, x_99_72, Option.bind_some, mAft_n, mAft_v, mAft_x, mS_n, mS_i, mS_r, mS_l, mS_d, ne_eq, not_false_eq_true, not_true_eq_false, true_or, or_true, and_true, true_and, if_true, if_false, ite_true, ite_false, reduceIte, Nat.reduceAdd, Nat.reduceLeDiff, Nat.reduceEqDiff, false_and, and_false, or_false, false_or, eq_self, reduceCtorEq]
def keyF (w : Int64) : Nat → Nat → Int32
  | 0, _ => 200
  | n + 1, k => if wdL (KW.getD k []) 0 = w then Int32.ofNat k else keyF w n (k + 1)
theorem s_key {d : Nat} {w : Int64} {h : mH} : mCall (d + 5) 99 [.long w] h = some (.inl (some (.int (keyF w 29 0))), h) := by
  have lp : ∀ (n k : Nat) (l3 l4 l5 : Option Value), k + n = 29 → mExec (mCall (d + 4)) 99 2 [some (.long w), none, some (.int (Int32.ofNat k)), l3, l4, l5] [] h = some (.inl (some (.int (keyF w n k))), h) := by
    intro n
    induction n with
    | zero =>
      intro k l3 l4 l5 e
      have c1 : (29 : Int32) ≤ Int32.ofNat k := by rw [show (29 : Int32) = Int32.ofNat 29 from rfl, i_ofle (by omega) (by omega)]; omega
      rw [x_99_2]
      simp (maxDischargeDepth := 60) only [c1, KW_6, keyF, x_99_0, x_99_1, x_99_3, x_99_7, x_99_10, x_99_11, x_99_12, x_99_13, x_99_17, x_99_20, x_99_21, x_99_22, x_99_25, x_99_28, x_99_31, x_99_32, x_99_33, x_99_36, x_99_37, x_99_38, x_99_40, x_99_43, x_99_46, x_99_47, x_99_48, x_99_49, x_99_52, x_99_56, x_99_57, x_99_58, x_99_61, x_99_62, x_99_63, x_99_66, x_99_69, x_99_72, Option.bind_some, mAft_n, mAft_v, mAft_x, mS_n, mS_i, mS_r, mS_l, mS_d, ne_eq, not_false_eq_true, not_true_eq_false, true_or, or_true, and_true, true_and, if_true, if_false, ite_true, ite_false, reduceIte, Nat.reduceAdd, Nat.reduceLeDiff, Nat.reduceEqDiff, false_and, and_false, or_false, false_or, eq_self, reduceCtorEq]
    | succ n ih =>
      intro k l3 l4 l5 e
      have c1 : ¬ (29 : Int32) ≤ Int32.ofNat k := by rw [show (29 : Int32) = Int32.ofNat 29 from rfl, i_ofle (by omega) (by omega)]; omega
      have kl := (KW_sT k (by omega)).2.2.1
      have i1 := s_k1 (d := d) (w := w) (h := h) (k := k) (by omega) (KW.getD k []).length 0 0 (by omega)
      have st : mExec (mCall (d + 4)) 99 2 [some (.long w), none, some (.int (Int32.ofNat k)), l3, l4, l5] [] h = mExec (mCall (d + 4)) 99 15 [some (.long w), none, some (.int (Int32.ofNat k)), some (.long 0), none, some (.int (Int32.ofNat 0))] [] h := by
        rw [x_99_2]
        simp (maxDischargeDepth := 60) only [c1, KW_6, x_99_0, x_99_1, x_99_3, x_99_7, x_99_10, x_99_11, x_99_12, x_99_13, x_99_17, x_99_20, x_99_21, x_99_22, x_99_25, x_99_28, x_99_31, x_99_32, x_99_33, x_99_36, x_99_37, x_99_38, x_99_40, x_99_43, x_99_46, x_99_47, x_99_48, x_99_49, x_99_52, x_99_56, x_99_57, x_99_58, x_99_61, x_99_62, x_99_63, x_99_66, x_99_69, x_99_72, Option.bind_some, mAft_n, mAft_v, mAft_x, mS_n, mS_i, mS_r, mS_l, mS_d, ne_eq, not_false_eq_true, not_true_eq_false, true_or, or_true, and_true, true_and, if_true, if_false, ite_true, ite_false, reduceIte, Nat.reduceAdd, Nat.reduceLeDiff, Nat.reduceEqDiff, false_and, and_false, or_false, false_or, eq_self, reduceCtorEq]
        rfl
      rw [st, i1, List.drop_zero, keyF, x_99_55]
      by_cases c2 : wdL (KW.getD k []) 0 = w
      · rw [if_pos c2]
        have c2' := eq_true c2
        simp (maxDischargeDepth := 60) only [lcmp_z, c2', x_99_0, x_99_1, x_99_3, x_99_7, x_99_10, x_99_11, x_99_12, x_99_13, x_99_17, x_99_20, x_99_21, x_99_22, x_99_25, x_99_28, x_99_31, x_99_32, x_99_33, x_99_36, x_99_37, x_99_38, x_99_40, x_99_43, x_99_46, x_99_47, x_99_48, x_99_49, x_99_52, x_99_56, x_99_57, x_99_58, x_99_61, x_99_62, x_99_63, x_99_66, x_99_69, x_99_72, Option.bind_some, mAft_n, mAft_v, mAft_x, mS_n, mS_i, mS_r, mS_l, mS_d, ne_eq, not_false_eq_true, not_true_eq_false, true_or, or_true, and_true, true_and, if_true, if_false, ite_true, ite_false, reduceIte, Nat.reduceAdd, Nat.reduceLeDiff, Nat.reduceEqDiff, false_and, and_false, or_false, false_or, eq_self, reduceCtorEq]
      · rw [if_neg c2, ← ih (k + 1) (some (.long (wdL (KW.getD k []) 0))) none (some (.int (Int32.ofNat (KW.getD k []).length))) (by omega)]
        simp (maxDischargeDepth := 60) only [lcmp_z, c2, i_succ, x_99_0, x_99_1, x_99_3, x_99_7, x_99_10, x_99_11, x_99_12, x_99_13, x_99_17, x_99_20, x_99_21, x_99_22, x_99_25, x_99_28, x_99_31, x_99_32, x_99_33, x_99_36, x_99_37, x_99_38, x_99_40, x_99_43, x_99_46, x_99_47, x_99_48, x_99_49, x_99_52, x_99_56, x_99_57, x_99_58, x_99_61, x_99_62, x_99_63, x_99_66, x_99_69, x_99_72, Option.bind_some, mAft_n, mAft_v, mAft_x, mS_n, mS_i, mS_r, mS_l, mS_d, ne_eq, not_false_eq_true, not_true_eq_false, true_or, or_true, and_true, true_and, if_true, if_false, ite_true, ite_false, reduceIte, Nat.reduceAdd, Nat.reduceLeDiff, Nat.reduceEqDiff, false_and, and_false, or_false, false_or, eq_self, reduceCtorEq]
  have := lp 29 0 none none none (by omega)
  simp only [c_99, x_99_0, x_99_1]
  exact this
