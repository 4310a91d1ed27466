/-! THE REFERENCE WRITES NAMES -/
theorem w63 {m : List Nat} (h : ∀ c, c ∈ m → 1 ≤ c ∧ c ≤ 36) (hl : m.length ≤ 10) : vWd m < 2 ^ 63 := by
  have a := vWd_lt h
  have := Nat.pow_le_pow_right (n := 37) (by omega) hl
  have k : (37 : Nat) ^ 10 < 2 ^ 63 := by decide
  omega
theorem wj_cnt {d : Nat} {w : Int64} {l6 l7 : Option Value} {h : mH} : ∀ (m : List Nat) (q : Nat), (∀ c, c ∈ m → 1 ≤ c ∧ c ≤ 36) → m.length ≤ 10 →
    mExec (mCall d) 246 5 [some (.ref 316), some (.long w), none, some (.int (Int32.ofNat q)), some (.long (Int64.ofNat (vWd m))), none, l6, l7] [] h = mExec (mCall d) 246 26 [some (.ref 316), some (.long w), none, some (.int (Int32.ofNat (q + m.length))), some (.long 0), none, l6, l7] [] h := by
  intro m
  induction m with
  | nil =>
    intro q _ _
    have c0 := eq_true (show lg_cmp (Int64.ofNat (vWd [])) 0 ≤ 0 by decide)
    rw [x_246_5]
    simp (maxDischargeDepth := 60) only [c0, x_246_0, x_246_1, x_246_2, x_246_3, x_246_7, x_246_8, x_246_9, x_246_12, x_246_15, x_246_17, x_246_20, x_246_21, x_246_23, x_246_27, x_246_29, x_246_30, x_246_33, x_246_34, x_246_35, x_246_36, x_246_37, x_246_39, x_246_41, x_246_42, x_246_45, x_246_48, x_246_50, x_246_53, x_246_54, x_246_55, x_246_57, x_246_58, x_246_61, x_246_63, x_246_65, x_246_67, x_246_70, x_246_72, x_246_74, x_246_75, x_246_77, x_246_78, x_246_81, x_246_83, x_246_85, x_246_86, x_246_87, x_246_88, x_246_89, x_246_91, x_246_94, x_246_95, x_246_97, x_246_100, x_246_103, x_246_104, x_246_104i, x_246_105, x_246_108, x_246_109, x_246_110, x_246_113, Option.bind_some, mAft_n, mAft_v, mAft_x, mS_n, mS_i, mS_r, mS_l, mS_d, ne_eq, not_false_eq_true, not_true_eq_false, true_or, or_true, and_true, true_and, if_true, if_false, ite_true, ite_false, reduceIte, Nat.reduceAdd, Nat.reduceLeDiff, Nat.reduceEqDiff, false_and, and_false, or_false, false_or, eq_self, reduceCtorEq]
    rfl
  | cons c m ih =>
    intro q h1 h2
    have hc := h1 c (by simp)
    rw [List.length_cons] at h2
    have hlt := w63 h1 (by rw [List.length_cons]; omega)
    have e0 := lc_le hlt
    have c0 : ¬ lg_cmp (Int64.ofNat (vWd (c :: m))) 0 ≤ 0 := by
      rw [e0, vWd]; omega
    rw [vWd] at hlt c0
    have e37 := (l37 hc.2 hlt).1
    have n37 : ¬ (37 : Int64) = 0 := by decide
    rw [List.length_cons, show q + (m.length + 1) = q + 1 + m.length by omega, ← ih (q + 1) (fun x hx => h1 x (by simp [hx])) (by omega), x_246_5, vWd]
    simp (maxDischargeDepth := 60) only [c0, e37, n37, i_succ, x_246_0, x_246_1, x_246_2, x_246_3, x_246_7, x_246_8, x_246_9, x_246_12, x_246_15, x_246_17, x_246_20, x_246_21, x_246_23, x_246_27, x_246_29, x_246_30, x_246_33, x_246_34, x_246_35, x_246_36, x_246_37, x_246_39, x_246_41, x_246_42, x_246_45, x_246_48, x_246_50, x_246_53, x_246_54, x_246_55, x_246_57, x_246_58, x_246_61, x_246_63, x_246_65, x_246_67, x_246_70, x_246_72, x_246_74, x_246_75, x_246_77, x_246_78, x_246_81, x_246_83, x_246_85, x_246_86, x_246_87, x_246_88, x_246_89, x_246_91, x_246_94, x_246_95, x_246_97, x_246_100, x_246_103, x_246_104, x_246_104i, x_246_105, x_246_108, x_246_109, x_246_110, x_246_113, Option.bind_some, mAft_n, mAft_v, mAft_x, mS_n, mS_i, mS_r, mS_l, mS_d, ne_eq, not_false_eq_true, not_true_eq_false, true_or, or_true, and_true, true_and, if_true, if_false, ite_true, ite_false, reduceIte, Nat.reduceAdd, Nat.reduceLeDiff, Nat.reduceEqDiff, false_and, and_false, or_false, false_or, eq_self, reduceCtorEq]
theorem m_writeJ {d : Nat} {l : List Int32} {P : List Int32} {h : mH} (hk : kM h) (hLD : ∀ x, x ∈ l → isLD x = true) (h10 : l.length ≤ 10) (m : ppR h P) (hl : P.length + l.length ≤ 1000) : ∃ H, mCall (d + 1) 246 [.ref 316, .long (wdL l 0)] h = some (.inl none, H) ∧ ppR H (P ++ l) ∧ WPp h H := by
  obtain ⟨m1, m2, m3⟩ := m
  have n37 : ¬ (37 : Int64) = 0 := by decide
  have cok : ∀ n c, c ∈ ((l.map cN).take n).reverse → 1 ≤ c ∧ c ≤ 36 := by
    intro n c hc
    rw [List.mem_reverse] at hc
    have := List.mem_of_mem_take hc
    rw [List.mem_map] at this
    obtain ⟨x, hx, rfl⟩ := this
    have := cN_ok (hLD x hx)
    exact ⟨this.1, this.2.1⟩
  have lp : ∀ (n : Nat) (H : mH) (l7 : Option Value) (q : Int32), n ≤ l.length → Fr [318] h H → (∀ k, k < P.length → mI H 318 k = mI h 318 k) → (∀ t, n ≤ t → t < l.length → mI H 318 (P.length + t) = l.getD t 0) →
      ∃ G ll l7', mExec (mCall d) 246 39 [some (.ref 316), some (.long (wdL l 0)), none, some (.int q), some (.long (Int64.ofNat (vWd ((l.map cN).take n).reverse))), none, some (.int (Int32.ofNat (P.length + n) - 1)), l7] [] H = mExec (mCall d) 246 103 [some (.ref 316), some (.long (wdL l 0)), none, some (.int q), some (.long ll), none, some (.int (Int32.ofNat P.length - 1)), l7'] [] G ∧ Fr [318] h G ∧ (∀ k, k < P.length → mI G 318 k = mI h 318 k) ∧ ∀ t, t < l.length → mI G 318 (P.length + t) = l.getD t 0 := by
    intro n
    induction n with
    | zero =>
      intro H l7 q _ F g1 g2
      have hkH := kM_Fr' F hk
      have p1 : mI H 316 5 = Int32.ofNat P.length := (Fr_I F (by decide)).trans m1
      have c1 := eq_true (show Int32.ofNat P.length - 1 < Int32.ofNat P.length by
        by_cases c : P.length = 0
        · rw [c]; decide
        · rw [show (1 : Int32) = Int32.ofNat 1 from rfl, i_subof (by omega), i_oflt (by omega) (by omega)]; omega)
      refine ⟨H, Int64.ofNat (vWd ((l.map cN).take 0).reverse), l7, ?_, F, g1, fun t ht => g2 t (Nat.zero_le t) ht⟩
      rw [x_246_39, Nat.add_zero]
      simp (maxDischargeDepth := 60) only [hk, x_246_0, x_246_1, x_246_2, x_246_3, x_246_5, x_246_7, x_246_8, x_246_9, x_246_12, x_246_15, x_246_17, x_246_20, x_246_21, x_246_23, x_246_26, x_246_27, x_246_29, x_246_30, x_246_33, x_246_34, x_246_35, x_246_36, x_246_37, x_246_41, x_246_42, x_246_45, x_246_48, x_246_50, x_246_53, x_246_54, x_246_55, x_246_57, x_246_58, x_246_61, x_246_63, x_246_65, x_246_67, x_246_70, x_246_72, x_246_74, x_246_75, x_246_77, x_246_78, x_246_81, x_246_83, x_246_85, x_246_86, x_246_87, x_246_88, x_246_89, x_246_91, x_246_94, x_246_95, x_246_97, x_246_100, x_246_104, x_246_104i, x_246_105, x_246_108, x_246_109, x_246_110, x_246_113, hkH, p1, c1, Option.bind_some, mAft_n, mAft_v, mAft_x, mS_n, mS_i, mS_r, mS_l, mS_d, ne_eq, not_false_eq_true, not_true_eq_false, true_or, or_true, and_true, true_and, if_true, if_false, ite_true, ite_false, reduceIte, Nat.reduceAdd, Nat.reduceLeDiff, Nat.reduceEqDiff, false_and, and_false, or_false, false_or, eq_self, reduceCtorEq, mi_316, mi_317, ml_317, mi_318, ml_318, mi_319, ml_319, mi_320, ml_320, mi_321, ml_321, mi_322, ml_322, mi_359, ml_359, mv_316_1, mv_316_4, mv_316_7, mv_316_8, mv_316_9, mv_316_10, mv_316_13, mv_316_14, mv_316_15, pi_0, pi_1, pl_1, pv_1, pi_2, pl_2, pv_2, pi_3, pl_3, pv_3, pi_4, pl_4, pv_4, pi_5, pl_5, pv_5, pi_6, pl_6, pv_10, pi_7, pl_7, pv_11, pi_8, pl_8, pv_12, pi_9, pl_9, pv_13, pi_10, pl_10, pv_14, pi_11, pl_11, pv_15, pv_20, wi_0, wi_1, wl_1, wv_14, wi_2, wl_2, wv_15, wi_3, wl_3, wv_16, wi_4, wl_4, wv_17, wi_5, wl_5, wv_18, wv_21, pt_P, pt_v, pt_w, pt_SI, pt_SL, kM_SI, kM_SL, lI_SL, lV_SL, lK_SL, lN_SL, lL_SL, lIs_SL, nI_SI, nV_SI, nK_SI, nN_SI, nL_SI, nIs_SI, pp_c, pp_l, pp_r, pp_k, pp_k0, pp_j, pp_j0, isl]
    | succ n ih =>
      intro H l7 q hn F g1 g2
      have hkH := kM_Fr' F hk
      have p1 : mI H 316 5 = Int32.ofNat P.length := (Fr_I F (by decide)).trans m1
      have e1 : Int32.ofNat (P.length + (n + 1)) - 1 = Int32.ofNat (P.length + n) := by rw [show (1 : Int32) = Int32.ofNat 1 from rfl, i_subof (by omega)]; rfl
      have c1 : ¬ Int32.ofNat (P.length + n) < Int32.ofNat P.length := by rw [i_oflt (by omega) (by omega)]; omega
      have hj : mIn (Int32.ofNat (P.length + n)) 1000 = true := i_in (by rw [i_of_i (by omega)]; omega) (by rw [i_of_i (by omega)]; omega)
      have en : (Int32.ofNat (P.length + n)).toNatClampNeg = P.length + n := i_of_n (by omega)
      have hx : isLD (l.getD n 0) = true := by
        rw [List.getD_eq_getElem?_getD, List.getElem?_eq_getElem (by omega)]
        exact hLD _ (List.getElem_mem _)
      obtain ⟨k1, k2, _, k4⟩ := cN_ok hx
      have et : ((l.map cN).take (n + 1)).reverse = cN (l.getD n 0) :: ((l.map cN).take n).reverse := by
        rw [List.take_succ, List.reverse_append, List.getElem?_map, List.getD_eq_getElem?_getD, List.getElem?_eq_getElem (by omega)]
        rfl
      have hlt := w63 (cok (n + 1)) (by rw [List.length_reverse, List.length_take, List.length_map]; omega)
      rw [et, vWd] at hlt
      obtain ⟨q1, q2, q3⟩ := l37 k2 hlt
      obtain ⟨u1, u2, u3⟩ := unC_v k2
      have em : Int32.ofNat (P.length + n) + -1 = Int32.ofNat (P.length + n) - 1 := (Int32.sub_eq_add_neg _ _).symm
      obtain ⟨G, ll, l7', b1, b2, b3, b4⟩ := ih (mSI H 318 (P.length + n) (l.getD n 0)) (some (.int (Int32.ofNat (cN (l.getD n 0))))) q (by omega) (Fr_SI F (by simp)) (fun k hk2 => by rw [nI_SI, if_neg (by omega)]; exact g1 k hk2) (fun t h1 h2 => by
        rw [nI_SI]
        by_cases c : t = n
        · rw [if_pos ⟨rfl, by omega⟩, c]
        · rw [if_neg (by omega)]; exact g2 t (by omega) h2)
      refine ⟨G, ll, l7', ?_, b2, b3, b4⟩
      rw [← b1, et, vWd, e1, x_246_39]
      by_cases c26 : cN (l.getD n 0) ≤ 26
      · have v := (u1 c26).trans k4
        have c26' := eq_true c26
        simp (maxDischargeDepth := 60) only [hk, x_246_0, x_246_1, x_246_2, x_246_3, x_246_5, x_246_7, x_246_8, x_246_9, x_246_12, x_246_15, x_246_17, x_246_20, x_246_21, x_246_23, x_246_26, x_246_27, x_246_29, x_246_30, x_246_33, x_246_34, x_246_35, x_246_36, x_246_37, x_246_41, x_246_42, x_246_45, x_246_48, x_246_50, x_246_53, x_246_54, x_246_55, x_246_57, x_246_58, x_246_61, x_246_63, x_246_65, x_246_67, x_246_70, x_246_72, x_246_74, x_246_75, x_246_77, x_246_78, x_246_81, x_246_83, x_246_85, x_246_86, x_246_87, x_246_88, x_246_89, x_246_91, x_246_94, x_246_95, x_246_97, x_246_100, x_246_104, x_246_104i, x_246_105, x_246_108, x_246_109, x_246_110, x_246_113, hkH, p1, c1, n37, q1, q2, q3, u3, c26', v, hj, en, em, Option.bind_some, mAft_n, mAft_v, mAft_x, mS_n, mS_i, mS_r, mS_l, mS_d, ne_eq, not_false_eq_true, not_true_eq_false, true_or, or_true, and_true, true_and, if_true, if_false, ite_true, ite_false, reduceIte, Nat.reduceAdd, Nat.reduceLeDiff, Nat.reduceEqDiff, false_and, and_false, or_false, false_or, eq_self, reduceCtorEq, mi_316, mi_317, ml_317, mi_318, ml_318, mi_319, ml_319, mi_320, ml_320, mi_321, ml_321, mi_322, ml_322, mi_359, ml_359, mv_316_1, mv_316_4, mv_316_7, mv_316_8, mv_316_9, mv_316_10, mv_316_13, mv_316_14, mv_316_15, pi_0, pi_1, pl_1, pv_1, pi_2, pl_2, pv_2, pi_3, pl_3, pv_3, pi_4, pl_4, pv_4, pi_5, pl_5, pv_5, pi_6, pl_6, pv_10, pi_7, pl_7, pv_11, pi_8, pl_8, pv_12, pi_9, pl_9, pv_13, pi_10, pl_10, pv_14, pi_11, pl_11, pv_15, pv_20, wi_0, wi_1, wl_1, wv_14, wi_2, wl_2, wv_15, wi_3, wl_3, wv_16, wi_4, wl_4, wv_17, wi_5, wl_5, wv_18, wv_21, pt_P, pt_v, pt_w, pt_SI, pt_SL, kM_SI, kM_SL, lI_SL, lV_SL, lK_SL, lN_SL, lL_SL, lIs_SL, nI_SI, nV_SI, nK_SI, nN_SI, nL_SI, nIs_SI, pp_c, pp_l, pp_r, pp_k, pp_k0, pp_j, pp_j0, isl]
      · have v := (u2 c26).trans k4
        simp (maxDischargeDepth := 60) only [hk, x_246_0, x_246_1, x_246_2, x_246_3, x_246_5, x_246_7, x_246_8, x_246_9, x_246_12, x_246_15, x_246_17, x_246_20, x_246_21, x_246_23, x_246_26, x_246_27, x_246_29, x_246_30, x_246_33, x_246_34, x_246_35, x_246_36, x_246_37, x_246_41, x_246_42, x_246_45, x_246_48, x_246_50, x_246_53, x_246_54, x_246_55, x_246_57, x_246_58, x_246_61, x_246_63, x_246_65, x_246_67, x_246_70, x_246_72, x_246_74, x_246_75, x_246_77, x_246_78, x_246_81, x_246_83, x_246_85, x_246_86, x_246_87, x_246_88, x_246_89, x_246_91, x_246_94, x_246_95, x_246_97, x_246_100, x_246_104, x_246_104i, x_246_105, x_246_108, x_246_109, x_246_110, x_246_113, hkH, p1, c1, n37, q1, q2, q3, u3, c26, v, hj, en, em, Option.bind_some, mAft_n, mAft_v, mAft_x, mS_n, mS_i, mS_r, mS_l, mS_d, ne_eq, not_false_eq_true, not_true_eq_false, true_or, or_true, and_true, true_and, if_true, if_false, ite_true, ite_false, reduceIte, Nat.reduceAdd, Nat.reduceLeDiff, Nat.reduceEqDiff, false_and, and_false, or_false, false_or, eq_self, reduceCtorEq, mi_316, mi_317, ml_317, mi_318, ml_318, mi_319, ml_319, mi_320, ml_320, mi_321, ml_321, mi_322, ml_322, mi_359, ml_359, mv_316_1, mv_316_4, mv_316_7, mv_316_8, mv_316_9, mv_316_10, mv_316_13, mv_316_14, mv_316_15, pi_0, pi_1, pl_1, pv_1, pi_2, pl_2, pv_2, pi_3, pl_3, pv_3, pi_4, pl_4, pv_4, pi_5, pl_5, pv_5, pi_6, pl_6, pv_10, pi_7, pl_7, pv_11, pi_8, pl_8, pv_12, pi_9, pl_9, pv_13, pi_10, pl_10, pv_14, pi_11, pl_11, pv_15, pv_20, wi_0, wi_1, wl_1, wv_14, wi_2, wl_2, wv_15, wi_3, wl_3, wv_16, wi_4, wl_4, wv_17, wi_5, wl_5, wv_18, wv_21, pt_P, pt_v, pt_w, pt_SI, pt_SL, kM_SI, kM_SL, lI_SL, lV_SL, lK_SL, lN_SL, lL_SL, lIs_SL, nI_SI, nV_SI, nK_SI, nN_SI, nL_SI, nIs_SI, pp_c, pp_l, pp_r, pp_k, pp_k0, pp_j, pp_j0, isl]
  have ew : wdL l 0 = Int64.ofNat (vWd ((l.map cN).take l.length).reverse) := by
    rw [wdL_r l hLD, List.take_of_length_le (by rw [List.length_map]; exact Nat.le_refl _)]
  have cnt := wj_cnt (d := d) (w := wdL l 0) (l6 := none) (l7 := none) (h := h) ((l.map cN).take l.length).reverse 0 (cok _) (by rw [List.length_reverse, List.length_take, List.length_map]; omega)
  have elen : 0 + ((l.map cN).take l.length).reverse.length = l.length := by rw [List.length_reverse, List.length_take, List.length_map]; omega
  rw [elen, ← ew] at cnt
  obtain ⟨G, ll, l7', b1, b2, b3, b4⟩ := lp l.length h none (Int32.ofNat l.length) (Nat.le_refl _) ⟨rfl, fun _ _ _ => rfl⟩ (fun _ _ => rfl) (fun t h1 h2 => by omega)
  rw [← ew] at b1
  have hkG := kM_Fr' b2 hk
  have pG : mI G 316 5 = Int32.ofNat P.length := (Fr_I b2 (by decide)).trans m1
  have F : Fr [316, 318] h (mSI G 316 5 (Int32.ofNat (P.length + l.length))) := Fr_SI (Fr_mono b2 (by simp)) (by simp)
  refine ⟨mSI G 316 5 (Int32.ofNat (P.length + l.length)), ?_, ⟨by rw [nI_SI, if_pos ⟨rfl, rfl⟩, List.length_append], by rw [List.length_append]; exact hl, fun k hk2 => ?_⟩, F, fun j hj => by rw [nI_SI, if_neg (by omega)]; exact Fr_I b2 (by decide)⟩
  · have cnt' : mExec (mCall d) 246 5 [some (.ref 316), some (.long (wdL l 0)), none, some (.int 0), some (.long (wdL l 0)), none, none, none] [] h = _ := cnt
    have st : mCall (d + 1) 246 [.ref 316, .long (wdL l 0)] h = mExec (mCall d) 246 5 [some (.ref 316), some (.long (wdL l 0)), none, some (.int 0), some (.long (wdL l 0)), none, none, none] [] h := by
      simp (maxDischargeDepth := 60) only [hk, x_246_0, x_246_1, x_246_2, x_246_3, x_246_7, x_246_8, x_246_9, x_246_12, x_246_15, x_246_17, x_246_20, x_246_21, x_246_23, x_246_27, x_246_29, x_246_30, x_246_33, x_246_34, x_246_35, x_246_36, x_246_37, x_246_41, x_246_42, x_246_45, x_246_48, x_246_50, x_246_53, x_246_54, x_246_55, x_246_57, x_246_58, x_246_61, x_246_63, x_246_65, x_246_67, x_246_70, x_246_72, x_246_74, x_246_75, x_246_77, x_246_78, x_246_81, x_246_83, x_246_85, x_246_86, x_246_87, x_246_88, x_246_89, x_246_91, x_246_94, x_246_95, x_246_97, x_246_100, x_246_104, x_246_104i, x_246_105, x_246_108, x_246_109, x_246_110, x_246_113, c_246, Option.bind_some, mAft_n, mAft_v, mAft_x, mS_n, mS_i, mS_r, mS_l, mS_d, ne_eq, not_false_eq_true, not_true_eq_false, true_or, or_true, and_true, true_and, if_true, if_false, ite_true, ite_false, reduceIte, Nat.reduceAdd, Nat.reduceLeDiff, Nat.reduceEqDiff, false_and, and_false, or_false, false_or, eq_self, reduceCtorEq, mi_316, mi_317, ml_317, mi_318, ml_318, mi_319, ml_319, mi_320, ml_320, mi_321, ml_321, mi_322, ml_322, mi_359, ml_359, mv_316_1, mv_316_4, mv_316_7, mv_316_8, mv_316_9, mv_316_10, mv_316_13, mv_316_14, mv_316_15, pi_0, pi_1, pl_1, pv_1, pi_2, pl_2, pv_2, pi_3, pl_3, pv_3, pi_4, pl_4, pv_4, pi_5, pl_5, pv_5, pi_6, pl_6, pv_10, pi_7, pl_7, pv_11, pi_8, pl_8, pv_12, pi_9, pl_9, pv_13, pi_10, pl_10, pv_14, pi_11, pl_11, pv_15, pv_20, wi_0, wi_1, wl_1, wv_14, wi_2, wl_2, wv_15, wi_3, wl_3, wv_16, wi_4, wl_4, wv_17, wi_5, wl_5, wv_18, wv_21, pt_P, pt_v, pt_w, pt_SI, pt_SL, kM_SI, kM_SL, lI_SL, lV_SL, lK_SL, lN_SL, lL_SL, lIs_SL, nI_SI, nV_SI, nK_SI, nN_SI, nL_SI, nIs_SI, pp_c, pp_l, pp_r, pp_k, pp_k0, pp_j, pp_j0, isl]
    have st2 : mExec (mCall d) 246 26 [some (.ref 316), some (.long (wdL l 0)), none, some (.int (Int32.ofNat l.length)), some (.long 0), none, none, none] [] h = mExec (mCall d) 246 39 [some (.ref 316), some (.long (wdL l 0)), none, some (.int (Int32.ofNat l.length)), some (.long (wdL l 0)), none, some (.int (Int32.ofNat (P.length + l.length) - 1)), none] [] h := by
      rw [x_246_26]
      simp (maxDischargeDepth := 60) only [hk, x_246_0, x_246_1, x_246_2, x_246_3, x_246_7, x_246_8, x_246_9, x_246_12, x_246_15, x_246_17, x_246_20, x_246_21, x_246_23, x_246_27, x_246_29, x_246_30, x_246_33, x_246_34, x_246_35, x_246_36, x_246_37, x_246_41, x_246_42, x_246_45, x_246_48, x_246_50, x_246_53, x_246_54, x_246_55, x_246_57, x_246_58, x_246_61, x_246_63, x_246_65, x_246_67, x_246_70, x_246_72, x_246_74, x_246_75, x_246_77, x_246_78, x_246_81, x_246_83, x_246_85, x_246_86, x_246_87, x_246_88, x_246_89, x_246_91, x_246_94, x_246_95, x_246_97, x_246_100, x_246_104, x_246_104i, x_246_105, x_246_108, x_246_109, x_246_110, x_246_113, m1, i_addof, Option.bind_some, mAft_n, mAft_v, mAft_x, mS_n, mS_i, mS_r, mS_l, mS_d, ne_eq, not_false_eq_true, not_true_eq_false, true_or, or_true, and_true, true_and, if_true, if_false, ite_true, ite_false, reduceIte, Nat.reduceAdd, Nat.reduceLeDiff, Nat.reduceEqDiff, false_and, and_false, or_false, false_or, eq_self, reduceCtorEq, mi_316, mi_317, ml_317, mi_318, ml_318, mi_319, ml_319, mi_320, ml_320, mi_321, ml_321, mi_322, ml_322, mi_359, ml_359, mv_316_1, mv_316_4, mv_316_7, mv_316_8, mv_316_9, mv_316_10, mv_316_13, mv_316_14, mv_316_15, pi_0, pi_1, pl_1, pv_1, pi_2, pl_2, pv_2, pi_3, pl_3, pv_3, pi_4, pl_4, pv_4, pi_5, pl_5, pv_5, pi_6, pl_6, pv_10, pi_7, pl_7, pv_11, pi_8, pl_8, pv_12, pi_9, pl_9, pv_13, pi_10, pl_10, pv_14, pi_11, pl_11, pv_15, pv_20, wi_0, wi_1, wl_1, wv_14, wi_2, wl_2, wv_15, wi_3, wl_3, wv_16, wi_4, wl_4, wv_17, wi_5, wl_5, wv_18, wv_21, pt_P, pt_v, pt_w, pt_SI, pt_SL, kM_SI, kM_SL, lI_SL, lV_SL, lK_SL, lN_SL, lL_SL, lIs_SL, nI_SI, nV_SI, nK_SI, nN_SI, nL_SI, nIs_SI, pp_c, pp_l, pp_r, pp_k, pp_k0, pp_j, pp_j0, isl]
    rw [st, cnt', st2, b1, x_246_103]
    simp (maxDischargeDepth := 60) only [hk, x_246_0, x_246_1, x_246_2, x_246_3, x_246_7, x_246_8, x_246_9, x_246_12, x_246_15, x_246_17, x_246_20, x_246_21, x_246_23, x_246_27, x_246_29, x_246_30, x_246_33, x_246_34, x_246_35, x_246_36, x_246_37, x_246_41, x_246_42, x_246_45, x_246_48, x_246_50, x_246_53, x_246_54, x_246_55, x_246_57, x_246_58, x_246_61, x_246_63, x_246_65, x_246_67, x_246_70, x_246_72, x_246_74, x_246_75, x_246_77, x_246_78, x_246_81, x_246_83, x_246_85, x_246_86, x_246_87, x_246_88, x_246_89, x_246_91, x_246_94, x_246_95, x_246_97, x_246_100, x_246_104, x_246_104i, x_246_105, x_246_108, x_246_109, x_246_110, x_246_113, hkG, pG, i_addof, Option.bind_some, mAft_n, mAft_v, mAft_x, mS_n, mS_i, mS_r, mS_l, mS_d, ne_eq, not_false_eq_true, not_true_eq_false, true_or, or_true, and_true, true_and, if_true, if_false, ite_true, ite_false, reduceIte, Nat.reduceAdd, Nat.reduceLeDiff, Nat.reduceEqDiff, false_and, and_false, or_false, false_or, eq_self, reduceCtorEq, mi_316, mi_317, ml_317, mi_318, ml_318, mi_319, ml_319, mi_320, ml_320, mi_321, ml_321, mi_322, ml_322, mi_359, ml_359, mv_316_1, mv_316_4, mv_316_7, mv_316_8, mv_316_9, mv_316_10, mv_316_13, mv_316_14, mv_316_15, pi_0, pi_1, pl_1, pv_1, pi_2, pl_2, pv_2, pi_3, pl_3, pv_3, pi_4, pl_4, pv_4, pi_5, pl_5, pv_5, pi_6, pl_6, pv_10, pi_7, pl_7, pv_11, pi_8, pl_8, pv_12, pi_9, pl_9, pv_13, pi_10, pl_10, pv_14, pi_11, pl_11, pv_15, pv_20, wi_0, wi_1, wl_1, wv_14, wi_2, wl_2, wv_15, wi_3, wl_3, wv_16, wi_4, wl_4, wv_17, wi_5, wl_5, wv_18, wv_21, pt_P, pt_v, pt_w, pt_SI, pt_SL, kM_SI, kM_SL, lI_SL, lV_SL, lK_SL, lN_SL, lL_SL, lIs_SL, nI_SI, nV_SI, nK_SI, nN_SI, nL_SI, nIs_SI, pp_c, pp_l, pp_r, pp_k, pp_k0, pp_j, pp_j0, isl]
  · rw [List.length_append] at hk2
    rw [mI_SI_other (by decide), List.getD_eq_getElem?_getD]
    by_cases c : k < P.length
    · rw [List.getElem?_append_left c, ← List.getD_eq_getElem?_getD, b3 k c]; exact m3 k c
    · obtain ⟨t, rfl⟩ : ∃ t, k = P.length + t := ⟨k - P.length, by omega⟩
      rw [List.getElem?_append_right (by omega), Nat.add_sub_cancel_left, ← List.getD_eq_getElem?_getD]
      exact b4 t (by omega)
