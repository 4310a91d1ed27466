/-! THE REFERENCE WRITES -/
def WPp (h H : mH) : Prop := Fr [316, 318] h H ∧ ∀ j, ¬ j = 5 → mI H 316 j = mI h 316 j
theorem WPp_r {h : mH} : WPp h h := ⟨⟨rfl, fun _ _ _ => rfl⟩, fun _ _ => rfl⟩
theorem WPp_t {h H G : mH} (a : WPp h H) (b : WPp H G) : WPp h G := ⟨Fr_trans a.1 b.1, fun j hj => (b.2 j hj).trans (a.2 j hj)⟩
theorem pp_put {h : mH} {P : List Int32} {x : Int32} (m : ppR h P) (hl : P.length < 1000) : ppR (mSI (mSI h 318 P.length x) 316 5 (Int32.ofNat (P.length + 1))) (P ++ [x]) ∧ WPp h (mSI (mSI h 318 P.length x) 316 5 (Int32.ofNat (P.length + 1))) := by
  obtain ⟨a, b, c⟩ := m
  refine ⟨⟨by rw [nI_SI, if_pos ⟨rfl, rfl⟩, List.length_append]; rfl, by rw [List.length_append]; exact hl, fun k hk => ?_⟩, Fr_SI (Fr_SI ⟨rfl, fun _ _ _ => rfl⟩ (by simp)) (by simp), fun j hj => by rw [nI_SI, if_neg (by omega), mI_SI_other (by decide)]⟩
  rw [List.length_append, List.length_cons, List.length_nil] at hk
  rw [mI_SI_other (by decide), nI_SI, List.getD_eq_getElem?_getD]
  by_cases e : k = P.length
  · rw [if_pos ⟨rfl, e⟩, e, List.getElem?_append_right (Nat.le_refl _), Nat.sub_self]; rfl
  · rw [if_neg (fun z => e z.2), List.getElem?_append_left (by omega), ← List.getD_eq_getElem?_getD]
    exact c k (by omega)
theorem m_write {d c : Nat} {l : List Int32} {P : List Int32} {h : mH} (hk : kM h) (hs : sT c l) (m : ppR h P) (hl : P.length + l.length ≤ 1000) : ∃ H, mCall (d + 5) 243 [.ref 316, .ref c] h = some (.inl none, H) ∧ ppR H (P ++ l) ∧ WPp h H := by
  have lp : ∀ (n i : Nat) (h' : mH), i + n = l.length → kM h' → ppR h' (P ++ l.take i) → ∃ H, mExec (mCall (d + 4)) 243 2 [some (.ref 316), some (.ref c), some (.int (Int32.ofNat i))] [] h' = some (.inl none, H) ∧ ppR H (P ++ l) ∧ WPp h' H := by
    intro n
    induction n with
    | zero =>
      intro i h' e hk' m'
      have sl := str_len (d := d + 2) (h := h') hs
      have r1 := sT_rcv (y := 37) (h := h') hs (by decide +kernel)
      have c1 := eq_true (show Int32.ofNat l.length ≤ Int32.ofNat i by rw [i_ofle (by omega) (by omega)]; omega)
      rw [List.take_of_length_le (by omega)] at m'
      refine ⟨h', ?_, m', WPp_r⟩
      rw [x_243_2]
      simp (maxDischargeDepth := 60) only [hk', sl, r1, c1, x_243_0, x_243_1, x_243_3, x_243_4, x_243_7, x_243_10, x_243_11, x_243_14, x_243_15, x_243_18, x_243_19, x_243_20, x_243_23, x_243_24, x_243_25, x_243_25i, x_243_26, x_243_29, x_243_30, x_243_31, x_243_34, x_243_37, x_243_40, Option.bind_some, mAft_n, mAft_v, mAft_x, mS_n, mS_i, mS_r, mS_l, mS_d, ne_eq, not_false_eq_true, not_true_eq_false, true_or, or_true, and_true, true_and, if_true, if_false, ite_true, ite_false, reduceIte, Nat.reduceAdd, Nat.reduceLeDiff, Nat.reduceEqDiff, false_and, and_false, or_false, false_or, eq_self, reduceCtorEq]
    | succ n ih =>
      intro i h' e hk' m'
      have hk := hk'
      have sl := str_len (d := d + 2) (h := h') hs
      have r1 := sT_rcv (y := 37) (h := h') hs (by decide +kernel)
      have r2 := sT_rcv (y := 42) (h := h') hs (by decide +kernel)
      have c1 : ¬ Int32.ofNat l.length ≤ Int32.ofNat i := by rw [i_ofle (by omega) (by omega)]; omega
      have n0 : ¬ Int32.ofNat i < 0 := by rw [show (0 : Int32) = Int32.ofNat 0 from rfl, i_oflt (by omega) (by omega)]; omega
      have ca := str_at (d := d) (i := Int32.ofNat i) (h := h') hs n0 (by rw [i_of_n (by omega)]; omega)
      rw [lg_of (by omega)] at ca
      have el : (P ++ l.take i).length = P.length + i := by rw [List.length_append, List.length_take, Nat.min_eq_left (by omega)]
      have p1 := m'.1
      rw [el] at p1
      have hj : mIn (Int32.ofNat (P.length + i)) 1000 = true := i_in (by rw [i_of_i (by omega)]; omega) (by rw [i_of_i (by omega)]; omega)
      have en : (Int32.ofNat (P.length + i)).toNatClampNeg = P.length + i := i_of_n (by omega)
      have pu := pp_put (x := l.getD i 0) m' (by omega)
      rw [el, List.append_assoc] at pu
      have et : l.take i ++ [l.getD i 0] = l.take (i + 1) := by
        rw [List.take_succ, List.getD_eq_getElem?_getD, List.getElem?_eq_getElem (by omega)]; rfl
      rw [et] at pu
      obtain ⟨H, b1, b2, b3⟩ := ih (i + 1) _ (by omega) (by rw [kM_SI, kM_SI]; exact hk') pu.1
      refine ⟨H, ?_, b2, WPp_t pu.2 b3⟩
      rw [← b1, x_243_2]
      simp (maxDischargeDepth := 60) only [hk, x_243_0, x_243_1, x_243_3, x_243_4, x_243_7, x_243_10, x_243_11, x_243_14, x_243_15, x_243_18, x_243_19, x_243_20, x_243_23, x_243_24, x_243_25, x_243_25i, x_243_26, x_243_29, x_243_30, x_243_31, x_243_34, x_243_37, x_243_40, sl, r1, r2, ca, c1, p1, hj, en, i_succ, Option.bind_some, mAft_n, mAft_v, mAft_x, mS_n, mS_i, mS_r, mS_l, mS_d, ne_eq, not_false_eq_true, not_true_eq_false, true_or, or_true, and_true, true_and, if_true, if_false, ite_true, ite_false, reduceIte, Nat.reduceAdd, Nat.reduceLeDiff, Nat.reduceEqDiff, false_and, and_false, or_false, false_or, eq_self, reduceCtorEq, mi_316, mi_317, ml_317, mi_318, ml_318, mi_319, ml_319, mi_320, ml_320, mi_321, ml_321, mi_322, ml_322, mi_359, ml_359, mv_316_1, mv_316_4, mv_316_7, mv_316_8, mv_316_9, mv_316_10, mv_316_13, mv_316_14, mv_316_15, pi_0, pi_1, pl_1, pv_1, pi_2, pl_2, pv_2, pi_3, pl_3, pv_3, pi_4, pl_4, pv_4, pi_5, pl_5, pv_5, pi_6, pl_6, pv_10, pi_7, pl_7, pv_11, pi_8, pl_8, pv_12, pi_9, pl_9, pv_13, pi_10, pl_10, pv_14, pi_11, pl_11, pv_15, pv_20, wi_0, wi_1, wl_1, wv_14, wi_2, wl_2, wv_15, wi_3, wl_3, wv_16, wi_4, wl_4, wv_17, wi_5, wl_5, wv_18, wv_21, pt_P, pt_v, pt_w, pt_SI, pt_SL, kM_SI, kM_SL, lI_SL, lV_SL, lK_SL, lN_SL, lL_SL, lIs_SL, nI_SI, nV_SI, nK_SI, nN_SI, nL_SI, nIs_SI, pp_c, pp_l, pp_r, pp_k, pp_k0, pp_j, pp_j0, isl]
  obtain ⟨H, b1, b2, b3⟩ := lp l.length 0 h (by omega) hk (by rw [List.take_zero, List.append_nil]; exact m)
  refine ⟨H, ?_, b2, b3⟩
  have b1' : mExec (mCall (d + 4)) 243 2 [some (.ref 316), some (.ref c), some (.int 0)] [] h = some (.inl none, H) := b1
  rw [← b1']
  simp (maxDischargeDepth := 60) only [x_243_0, x_243_1, x_243_3, x_243_4, x_243_7, x_243_10, x_243_11, x_243_14, x_243_15, x_243_18, x_243_19, x_243_20, x_243_23, x_243_24, x_243_25, x_243_25i, x_243_26, x_243_29, x_243_30, x_243_31, x_243_34, x_243_37, x_243_40, c_243, Option.bind_some, mAft_n, mAft_v, mAft_x, mS_n, mS_i, mS_r, mS_l, mS_d, ne_eq, not_false_eq_true, not_true_eq_false, true_or, or_true, and_true, true_and, if_true, if_false, ite_true, ite_false, reduceIte, Nat.reduceAdd, Nat.reduceLeDiff, Nat.reduceEqDiff, false_and, and_false, or_false, false_or, eq_self, reduceCtorEq]
theorem lc_le {n : Nat} (hn : n < 2 ^ 63) : (lg_cmp (Int64.ofNat n) 0 ≤ 0) = (n = 0) := by
  have h0 : (0 : Int64).toInt = 0 := by decide
  have hv : (Int64.ofNat n).toInt = n := Int64.toInt_ofNat_of_lt hn
  apply propext
  unfold lg_cmp
  by_cases c : n = 0
  · subst c
    decide
  · have h1 : ¬ Int64.ofNat n < 0 := by rw [Int64.lt_iff_toInt_lt, h0, hv]; omega
    have h2 : 0 < Int64.ofNat n := by rw [Int64.lt_iff_toInt_lt, h0, hv]; omega
    have h3 : ¬ Int64.ofNat n = 0 := fun z => by rw [z, h0] at hv; omega
    constructor
    · intro z
      exfalso
      revert z
      repeat' split
      all_goals first
        | decide
        | simp_all
    · intro z; exact absurd z c
theorem l37 {a c : Nat} (hc : c ≤ 36) (h : 37 * a + c < 2 ^ 63) : Int64.ofNat (37 * a + c) / 37 = Int64.ofNat a ∧ Int64.ofNat (37 * a + c) - Int64.ofNat a * 37 = Int64.ofNat c ∧ (Int64.ofNat c).toInt32 = Int32.ofNat c := by
  refine ⟨?_, ?_, ?_⟩
  · apply Int64.toInt_inj.mp
    rw [Int64.toInt_div_of_ne_right _ _ (by decide), Int64.toInt_ofNat_of_lt h, Int64.toInt_ofNat_of_lt (by omega), show (37 : Int64).toInt = 37 by decide, Int.tdiv_eq_ediv_of_nonneg (by omega)]
    omega
  · rw [Int64.ofNat_add, Int64.ofNat_mul, Int64.mul_comm (Int64.ofNat a) 37, Int64.add_comm]
    exact Int64.add_sub_cancel _ _
  · have : ∀ c, c < 37 → (Int64.ofNat c).toInt32 = Int32.ofNat c := by decide +kernel
    exact this c (by omega)
theorem unC_v {c : Nat} (h : c ≤ 36) : (c ≤ 26 → (97 : Int32) + Int32.ofNat c - 1 = unC c) ∧ (¬ c ≤ 26 → (48 : Int32) + Int32.ofNat c - 27 = unC c) ∧ (Int32.ofNat c ≤ 26) = (c ≤ 26) := by
  have : ∀ c, c < 37 → (c ≤ 26 → (97 : Int32) + Int32.ofNat c - 1 = unC c) ∧ (¬ c ≤ 26 → (48 : Int32) + Int32.ofNat c - 27 = unC c) := by decide +kernel
  refine ⟨(this c (by omega)).1, (this c (by omega)).2, ?_⟩
  rw [show (26 : Int32) = Int32.ofNat 26 from rfl, i_ofle (by omega) (by omega)]
