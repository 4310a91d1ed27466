/-! THE REFERENCE'S VISIT: PRODUCTS, SUMS, ONE -/
theorem rO_20 {x y : Int32} : rO 20 x y = x + y := by unfold rO; rw [if_pos rfl]
theorem rO_21 {x y : Int32} : rO 21 x y = x - y := by unfold rO; rw [if_neg (by decide), if_pos rfl]
theorem rO_22 {x y : Int32} : rO 22 x y = x * y := by unfold rO; rw [if_neg (by decide), if_neg (by decide), if_pos rfl]
theorem rO_23 {x y : Int32} : rO 23 x y = if y = 0 then 0 else x / y := by unfold rO; rw [if_neg (by decide), if_neg (by decide), if_neg (by decide), if_pos rfl]
theorem rO_24 {x y : Int32} : rO 24 x y = if y < x then y else x := by unfold rO; rw [if_neg (by decide), if_neg (by decide), if_neg (by decide), if_neg (by decide), if_pos rfl]
theorem rO_25 {x y : Int32} : rO 25 x y = if x < y then y else x := by unfold rO; rw [if_neg (by decide), if_neg (by decide), if_neg (by decide), if_neg (by decide), if_neg (by decide)]
theorem mo_le {P : PA} {i b j : Nat} {x : Option (List CI × List EVt)} (hp : mo P) (h : P i b = (j, x)) : i ≤ j := by
  have := hp i b
  rw [h] at this
  exact this
theorem e_prodl {D g : Nat} {one : PA} {h : mH} {v who : Nat} {lim : Int32} {S : VS} {cl : List CL} {dn : List NS} {ps : List PT} {vs : List (Int32 × Int32 × Int32)} {k : Nat → Nat} {n : Nat} {V : Nat → Int32} (m : xS h v who lim S cl dn ps vs k n V) (hg : 1 ≤ g) (mo1 : mo one) (r1 : RE h v (vKK vs (Int32.ofNat who) lim) cl S V ps.length n g D 206 one) : ∀ (mm i b j : Nat) (c : List CI) (e : List EVt) (all : Int32) (l2 l3 : Option Value), i < n → 402 ≤ i + mm → lpp k 41 22 42 23 one mm i b = (j, some (c, e)) → evOK V ps.length e →
    j < n ∧ ∃ x, (∀ us, us.length + (g + 1) ≤ 80 → exL (vKK vs (Int32.ofNat who) lim) cl S V c (us ++ [all]) = us ++ [x]) ∧ mExec (mCall D) 207 5 [some (.ref v), some (.int all), l2, l3] [] (mSI h v 20 (Int32.ofNat i)) = some (.inl (some (.int x)), mSI h v 20 (Int32.ofNat j)) := by
  have m0 := m
  obtain ⟨w, hv, hwh, ms, hn, tk', k50, knx⟩ := m
  have hk := w.1
  have hp := pt_P hk
  intro mm
  induction mm with
  | zero => intro i b j c e all l2 l3 hi h4; omega
  | succ mm ih =>
    intro i b j c e all l2 l3 hi h4 hP he
    have hj : mIn (Int32.ofNat i) 402 = true := i_in (by rw [i_of_i (by omega)]; omega) (by rw [i_of_i (by omega)]; omega)
    have en : (Int32.ofNat i).toNatClampNeg = i := i_of_n (by omega)
    have kq := (tk' i hi).1
    have wA := kap_eq (x := 42) 41 (k50 i) (by decide) (by decide)
    have wB := kap_eq (x := 47) 42 (k50 i) (by decide) (by decide)
    have n10 : ¬ (1 : Int32) = 0 := by decide
    rw [lpp] at hP
    dsimp only at hP
    by_cases cA : k i = 41
    · rw [if_pos cA] at hP
      have cA' := eq_true cA
      obtain ⟨l1, cc1, f1, cc2, f2, x1, x2, hc, he'⟩ := sq_inv hP
      obtain ⟨_, hj1, hc1, hf1⟩ := tk_inv x1
      subst hj1 hc1 hf1
      obtain ⟨l4, cc3, f3, cc4, f4, x3, x4, hc2, he2⟩ := sq_inv x2
      obtain ⟨l5, cc5, f5, cc6, f6, x5, x6, hc3, he3⟩ := sq_inv x4
      obtain ⟨hj5, hc5, hf5⟩ := em_inv x5
      subst hj5 hc5 hf5
      subst hc3 he3
      subst hc2 he2
      subst hc he'
      have e1' : evOK V ps.length f3 := fun ev hv => he ev (by simp [hv])
      have e2' : evOK V ps.length f4 := fun ev hv => he ev (by simp [hv])
      obtain ⟨hl, y1, g1, e1⟩ := r1 _ _ _ _ _ (knx i (by omega) (by omega)) x3 e1'
      have hli : i + 1 ≤ l5 := mo_le mo1 x3
      obtain ⟨hj', y, g2, e2⟩ := ih _ _ _ _ _ (rO 22 all y1) (some (.int 1)) (some (.int y1)) hl (by omega) x6 e2'
      refine ⟨hj', y, fun us hu => ?_, ?_⟩
      · show exL (vKK vs (Int32.ofNat who) lim) cl S V (cc3 ++ ([(22, 0, 0)] ++ cc6)) (us ++ [all]) = _
        rw [exL_app, g1 _ (by rw [List.length_append, List.length_cons, List.length_nil]; omega), exL_app]
        show exL (vKK vs (Int32.ofNat who) lim) cl S V cc6 (exI (vKK vs (Int32.ofNat who) lim) cl S V (us ++ [all] ++ [y1]) (22, 0, 0)) = _
        rw [ex_b (by decide) (by decide) (by omega), g2 us hu]
      · rw [← e2, x_207_5, rO_22]
        simp (maxDischargeDepth := 60) only [hk, x_207_0, x_207_1, x_207_4, x_207_6, x_207_9, x_207_12, x_207_15, x_207_16, x_207_19, x_207_20, x_207_22, x_207_25, x_207_26, x_207_29, x_207_32, x_207_35, x_207_36, x_207_39, x_207_40, x_207_42, x_207_45, x_207_46, x_207_49, x_207_52, x_207_55, x_207_56, x_207_59, x_207_60, x_207_62, x_207_65, x_207_66, x_207_69, x_207_70, x_207_71, x_207_72, x_207_72i, x_207_73, x_207_76, x_207_77, x_207_78, x_207_81, x_207_82, x_207_85, x_207_86, x_207_87, x_207_90, x_207_91, x_207_92, x_207_93, x_207_96, x_207_97, x_207_100, x_207_101, x_207_104, x_207_105, x_207_106, x_207_107, x_207_108, x_207_111, x_207_112, hv, hp, hk, wt_a hv hp, wt_b hv hp, wt_c hv hp, wt_d hv hp, wk_c hv, wk_d hv, wk_0 hv, wk_1 hv, kq, hj, en, wA, wB, cA', i_succ, SI_SI, n10, e1, Option.bind_some, mAft_n, mAft_v, mAft_x, mS_n, mS_i, mS_r, mS_l, mS_d, ne_eq, not_false_eq_true, not_true_eq_false, true_or, or_true, and_true, true_and, if_true, if_false, ite_true, ite_false, reduceIte, Nat.reduceAdd, Nat.reduceLeDiff, Nat.reduceEqDiff, false_and, and_false, or_false, false_or, eq_self, reduceCtorEq, mi_316, mi_317, ml_317, mi_318, ml_318, mi_319, ml_319, mi_320, ml_320, mi_321, ml_321, mi_322, ml_322, mi_359, ml_359, mv_316_1, mv_316_4, mv_316_7, mv_316_8, mv_316_9, mv_316_10, mv_316_13, mv_316_14, mv_316_15, pi_0, pi_1, pl_1, pv_1, pi_2, pl_2, pv_2, pi_3, pl_3, pv_3, pi_4, pl_4, pv_4, pi_5, pl_5, pv_5, pi_6, pl_6, pv_10, pi_7, pl_7, pv_11, pi_8, pl_8, pv_12, pi_9, pl_9, pv_13, pi_10, pl_10, pv_14, pi_11, pl_11, pv_15, pv_20, wi_0, wi_1, wl_1, wv_14, wi_2, wl_2, wv_15, wi_3, wl_3, wv_16, wi_4, wl_4, wv_17, wi_5, wl_5, wv_18, wv_21, pt_P, pt_v, pt_w, pt_SI, pt_SL, kM_SI, kM_SL, lI_SL, lV_SL, lK_SL, lN_SL, lL_SL, lIs_SL, nI_SI, nV_SI, nK_SI, nN_SI, nL_SI, nIs_SI, pp_c, pp_l, pp_r, pp_k, pp_k0, pp_j, pp_j0, isl]
    rw [if_neg cA] at hP
    by_cases cB : k i = 42
    · rw [if_pos cB] at hP
      have cB' := eq_true cB
      obtain ⟨l1, cc1, f1, cc2, f2, x1, x2, hc, he'⟩ := sq_inv hP
      obtain ⟨_, hj1, hc1, hf1⟩ := tk_inv x1
      subst hj1 hc1 hf1
      obtain ⟨l4, cc3, f3, cc4, f4, x3, x4, hc2, he2⟩ := sq_inv x2
      obtain ⟨l5, cc5, f5, cc6, f6, x5, x6, hc3, he3⟩ := sq_inv x4
      obtain ⟨hj5, hc5, hf5⟩ := em_inv x5
      subst hj5 hc5 hf5
      subst hc3 he3
      subst hc2 he2
      subst hc he'
      have e1' : evOK V ps.length f3 := fun ev hv => he ev (by simp [hv])
      have e2' : evOK V ps.length f4 := fun ev hv => he ev (by simp [hv])
      obtain ⟨hl, y1, g1, e1⟩ := r1 _ _ _ _ _ (knx i (by omega) (by omega)) x3 e1'
      have hli : i + 1 ≤ l5 := mo_le mo1 x3
      obtain ⟨hj', y, g2, e2⟩ := ih _ _ _ _ _ (rO 23 all y1) (some (.int 0)) (some (.int y1)) hl (by omega) x6 e2'
      refine ⟨hj', y, fun us hu => ?_, ?_⟩
      · show exL (vKK vs (Int32.ofNat who) lim) cl S V (cc3 ++ ([(23, 0, 0)] ++ cc6)) (us ++ [all]) = _
        rw [exL_app, g1 _ (by rw [List.length_append, List.length_cons, List.length_nil]; omega), exL_app]
        show exL (vKK vs (Int32.ofNat who) lim) cl S V cc6 (exI (vKK vs (Int32.ofNat who) lim) cl S V (us ++ [all] ++ [y1]) (23, 0, 0)) = _
        rw [ex_b (by decide) (by decide) (by omega), g2 us hu]
      · rw [← e2, x_207_5, rO_23]
        by_cases cz : y1 = 0
        · have cz' := eq_true cz
          rw [if_pos cz]
          simp (maxDischargeDepth := 60) only [hk, x_207_0, x_207_1, x_207_4, x_207_6, x_207_9, x_207_12, x_207_15, x_207_16, x_207_19, x_207_20, x_207_22, x_207_25, x_207_26, x_207_29, x_207_32, x_207_35, x_207_36, x_207_39, x_207_40, x_207_42, x_207_45, x_207_46, x_207_49, x_207_52, x_207_55, x_207_56, x_207_59, x_207_60, x_207_62, x_207_65, x_207_66, x_207_69, x_207_70, x_207_71, x_207_72, x_207_72i, x_207_73, x_207_76, x_207_77, x_207_78, x_207_81, x_207_82, x_207_85, x_207_86, x_207_87, x_207_90, x_207_91, x_207_92, x_207_93, x_207_96, x_207_97, x_207_100, x_207_101, x_207_104, x_207_105, x_207_106, x_207_107, x_207_108, x_207_111, x_207_112, hv, hp, hk, wt_a hv hp, wt_b hv hp, wt_c hv hp, wt_d hv hp, wk_c hv, wk_d hv, wk_0 hv, wk_1 hv, kq, hj, en, wA, wB, cA, cB', i_succ, SI_SI, n10, e1, cz', Option.bind_some, mAft_n, mAft_v, mAft_x, mS_n, mS_i, mS_r, mS_l, mS_d, ne_eq, not_false_eq_true, not_true_eq_false, true_or, or_true, and_true, true_and, if_true, if_false, ite_true, ite_false, reduceIte, Nat.reduceAdd, Nat.reduceLeDiff, Nat.reduceEqDiff, false_and, and_false, or_false, false_or, eq_self, reduceCtorEq, mi_316, mi_317, ml_317, mi_318, ml_318, mi_319, ml_319, mi_320, ml_320, mi_321, ml_321, mi_322, ml_322, mi_359, ml_359, mv_316_1, mv_316_4, mv_316_7, mv_316_8, mv_316_9, mv_316_10, mv_316_13, mv_316_14, mv_316_15, pi_0, pi_1, pl_1, pv_1, pi_2, pl_2, pv_2, pi_3, pl_3, pv_3, pi_4, pl_4, pv_4, pi_5, pl_5, pv_5, pi_6, pl_6, pv_10, pi_7, pl_7, pv_11, pi_8, pl_8, pv_12, pi_9, pl_9, pv_13, pi_10, pl_10, pv_14, pi_11, pl_11, pv_15, pv_20, wi_0, wi_1, wl_1, wv_14, wi_2, wl_2, wv_15, wi_3, wl_3, wv_16, wi_4, wl_4, wv_17, wi_5, wl_5, wv_18, wv_21, pt_P, pt_v, pt_w, pt_SI, pt_SL, kM_SI, kM_SL, lI_SL, lV_SL, lK_SL, lN_SL, lL_SL, lIs_SL, nI_SI, nV_SI, nK_SI, nN_SI, nL_SI, nIs_SI, pp_c, pp_l, pp_r, pp_k, pp_k0, pp_j, pp_j0, isl]
        · rw [if_neg cz]
          simp (maxDischargeDepth := 60) only [hk, x_207_0, x_207_1, x_207_4, x_207_6, x_207_9, x_207_12, x_207_15, x_207_16, x_207_19, x_207_20, x_207_22, x_207_25, x_207_26, x_207_29, x_207_32, x_207_35, x_207_36, x_207_39, x_207_40, x_207_42, x_207_45, x_207_46, x_207_49, x_207_52, x_207_55, x_207_56, x_207_59, x_207_60, x_207_62, x_207_65, x_207_66, x_207_69, x_207_70, x_207_71, x_207_72, x_207_72i, x_207_73, x_207_76, x_207_77, x_207_78, x_207_81, x_207_82, x_207_85, x_207_86, x_207_87, x_207_90, x_207_91, x_207_92, x_207_93, x_207_96, x_207_97, x_207_100, x_207_101, x_207_104, x_207_105, x_207_106, x_207_107, x_207_108, x_207_111, x_207_112, hv, hp, hk, wt_a hv hp, wt_b hv hp, wt_c hv hp, wt_d hv hp, wk_c hv, wk_d hv, wk_0 hv, wk_1 hv, kq, hj, en, wA, wB, cA, cB', i_succ, SI_SI, n10, e1, cz, Option.bind_some, mAft_n, mAft_v, mAft_x, mS_n, mS_i, mS_r, mS_l, mS_d, ne_eq, not_false_eq_true, not_true_eq_false, true_or, or_true, and_true, true_and, if_true, if_false, ite_true, ite_false, reduceIte, Nat.reduceAdd, Nat.reduceLeDiff, Nat.reduceEqDiff, false_and, and_false, or_false, false_or, eq_self, reduceCtorEq, mi_316, mi_317, ml_317, mi_318, ml_318, mi_319, ml_319, mi_320, ml_320, mi_321, ml_321, mi_322, ml_322, mi_359, ml_359, mv_316_1, mv_316_4, mv_316_7, mv_316_8, mv_316_9, mv_316_10, mv_316_13, mv_316_14, mv_316_15, pi_0, pi_1, pl_1, pv_1, pi_2, pl_2, pv_2, pi_3, pl_3, pv_3, pi_4, pl_4, pv_4, pi_5, pl_5, pv_5, pi_6, pl_6, pv_10, pi_7, pl_7, pv_11, pi_8, pl_8, pv_12, pi_9, pl_9, pv_13, pi_10, pl_10, pv_14, pi_11, pl_11, pv_15, pv_20, wi_0, wi_1, wl_1, wv_14, wi_2, wl_2, wv_15, wi_3, wl_3, wv_16, wi_4, wl_4, wv_17, wi_5, wl_5, wv_18, wv_21, pt_P, pt_v, pt_w, pt_SI, pt_SL, kM_SI, kM_SL, lI_SL, lV_SL, lK_SL, lN_SL, lL_SL, lIs_SL, nI_SI, nV_SI, nK_SI, nN_SI, nL_SI, nIs_SI, pp_c, pp_l, pp_r, pp_k, pp_k0, pp_j, pp_j0, isl]
    rw [if_neg cB] at hP
    unfold skp at hP
    cases hP
    refine ⟨hi, all, fun us hu => rfl, ?_⟩
    rw [x_207_5]
    simp (maxDischargeDepth := 60) only [hk, x_207_0, x_207_1, x_207_4, x_207_6, x_207_9, x_207_12, x_207_15, x_207_16, x_207_19, x_207_20, x_207_22, x_207_25, x_207_26, x_207_29, x_207_32, x_207_35, x_207_36, x_207_39, x_207_40, x_207_42, x_207_45, x_207_46, x_207_49, x_207_52, x_207_55, x_207_56, x_207_59, x_207_60, x_207_62, x_207_65, x_207_66, x_207_69, x_207_70, x_207_71, x_207_72, x_207_72i, x_207_73, x_207_76, x_207_77, x_207_78, x_207_81, x_207_82, x_207_85, x_207_86, x_207_87, x_207_90, x_207_91, x_207_92, x_207_93, x_207_96, x_207_97, x_207_100, x_207_101, x_207_104, x_207_105, x_207_106, x_207_107, x_207_108, x_207_111, x_207_112, hv, hp, hk, wt_a hv hp, wt_b hv hp, wt_c hv hp, wt_d hv hp, wk_c hv, wk_d hv, wk_0 hv, wk_1 hv, kq, hj, en, wA, wB, cA, cB, Option.bind_some, mAft_n, mAft_v, mAft_x, mS_n, mS_i, mS_r, mS_l, mS_d, ne_eq, not_false_eq_true, not_true_eq_false, true_or, or_true, and_true, true_and, if_true, if_false, ite_true, ite_false, reduceIte, Nat.reduceAdd, Nat.reduceLeDiff, Nat.reduceEqDiff, false_and, and_false, or_false, false_or, eq_self, reduceCtorEq, mi_316, mi_317, ml_317, mi_318, ml_318, mi_319, ml_319, mi_320, ml_320, mi_321, ml_321, mi_322, ml_322, mi_359, ml_359, mv_316_1, mv_316_4, mv_316_7, mv_316_8, mv_316_9, mv_316_10, mv_316_13, mv_316_14, mv_316_15, pi_0, pi_1, pl_1, pv_1, pi_2, pl_2, pv_2, pi_3, pl_3, pv_3, pi_4, pl_4, pv_4, pi_5, pl_5, pv_5, pi_6, pl_6, pv_10, pi_7, pl_7, pv_11, pi_8, pl_8, pv_12, pi_9, pl_9, pv_13, pi_10, pl_10, pv_14, pi_11, pl_11, pv_15, pv_20, wi_0, wi_1, wl_1, wv_14, wi_2, wl_2, wv_15, wi_3, wl_3, wv_16, wi_4, wl_4, wv_17, wi_5, wl_5, wv_18, wv_21, pt_P, pt_v, pt_w, pt_SI, pt_SL, kM_SI, kM_SL, lI_SL, lV_SL, lK_SL, lN_SL, lL_SL, lIs_SL, nI_SI, nV_SI, nK_SI, nN_SI, nL_SI, nIs_SI, pp_c, pp_l, pp_r, pp_k, pp_k0, pp_j, pp_j0, isl]
theorem e_suml {D g : Nat} {one : PA} {h : mH} {v who : Nat} {lim : Int32} {S : VS} {cl : List CL} {dn : List NS} {ps : List PT} {vs : List (Int32 × Int32 × Int32)} {k : Nat → Nat} {n : Nat} {V : Nat → Int32} (m : xS h v who lim S cl dn ps vs k n V) (hg : 1 ≤ g) (mo1 : mo one) (r1 : RE h v (vKK vs (Int32.ofNat who) lim) cl S V ps.length n g D 207 one) : ∀ (mm i b j : Nat) (c : List CI) (e : List EVt) (all : Int32) (l2 l3 : Option Value), i < n → 402 ≤ i + mm → lpp k 39 20 40 21 one mm i b = (j, some (c, e)) → evOK V ps.length e →
    j < n ∧ ∃ x, (∀ us, us.length + (g + 1) ≤ 80 → exL (vKK vs (Int32.ofNat who) lim) cl S V c (us ++ [all]) = us ++ [x]) ∧ mExec (mCall D) 208 5 [some (.ref v), some (.int all), l2, l3] [] (mSI h v 20 (Int32.ofNat i)) = some (.inl (some (.int x)), mSI h v 20 (Int32.ofNat j)) := by
  have m0 := m
  obtain ⟨w, hv, hwh, ms, hn, tk', k50, knx⟩ := m
  have hk := w.1
  have hp := pt_P hk
  intro mm
  induction mm with
  | zero => intro i b j c e all l2 l3 hi h4; omega
  | succ mm ih =>
    intro i b j c e all l2 l3 hi h4 hP he
    have hj : mIn (Int32.ofNat i) 402 = true := i_in (by rw [i_of_i (by omega)]; omega) (by rw [i_of_i (by omega)]; omega)
    have en : (Int32.ofNat i).toNatClampNeg = i := i_of_n (by omega)
    have kq := (tk' i hi).1
    have wA := kap_eq (x := 43) 39 (k50 i) (by decide) (by decide)
    have wB := kap_eq (x := 45) 40 (k50 i) (by decide) (by decide)
    have n10 : ¬ (1 : Int32) = 0 := by decide
    rw [lpp] at hP
    dsimp only at hP
    by_cases cA : k i = 39
    · rw [if_pos cA] at hP
      have cA' := eq_true cA
      obtain ⟨l1, cc1, f1, cc2, f2, x1, x2, hc, he'⟩ := sq_inv hP
      obtain ⟨_, hj1, hc1, hf1⟩ := tk_inv x1
      subst hj1 hc1 hf1
      obtain ⟨l4, cc3, f3, cc4, f4, x3, x4, hc2, he2⟩ := sq_inv x2
      obtain ⟨l5, cc5, f5, cc6, f6, x5, x6, hc3, he3⟩ := sq_inv x4
      obtain ⟨hj5, hc5, hf5⟩ := em_inv x5
      subst hj5 hc5 hf5
      subst hc3 he3
      subst hc2 he2
      subst hc he'
      have e1' : evOK V ps.length f3 := fun ev hv => he ev (by simp [hv])
      have e2' : evOK V ps.length f4 := fun ev hv => he ev (by simp [hv])
      obtain ⟨hl, y1, g1, e1⟩ := r1 _ _ _ _ _ (knx i (by omega) (by omega)) x3 e1'
      have hli : i + 1 ≤ l5 := mo_le mo1 x3
      obtain ⟨hj', y, g2, e2⟩ := ih _ _ _ _ _ (rO 20 all y1) (some (.int 1)) (some (.int y1)) hl (by omega) x6 e2'
      refine ⟨hj', y, fun us hu => ?_, ?_⟩
      · show exL (vKK vs (Int32.ofNat who) lim) cl S V (cc3 ++ ([(20, 0, 0)] ++ cc6)) (us ++ [all]) = _
        rw [exL_app, g1 _ (by rw [List.length_append, List.length_cons, List.length_nil]; omega), exL_app]
        show exL (vKK vs (Int32.ofNat who) lim) cl S V cc6 (exI (vKK vs (Int32.ofNat who) lim) cl S V (us ++ [all] ++ [y1]) (20, 0, 0)) = _
        rw [ex_b (by decide) (by decide) (by omega), g2 us hu]
      · rw [← e2, x_208_5, rO_20]
        simp (maxDischargeDepth := 60) only [hk, x_208_0, x_208_1, x_208_4, x_208_6, x_208_9, x_208_12, x_208_15, x_208_16, x_208_19, x_208_20, x_208_22, x_208_25, x_208_26, x_208_29, x_208_32, x_208_35, x_208_36, x_208_39, x_208_40, x_208_42, x_208_45, x_208_46, x_208_49, x_208_52, x_208_55, x_208_56, x_208_59, x_208_60, x_208_62, x_208_65, x_208_66, x_208_69, x_208_70, x_208_71, x_208_72, x_208_72i, x_208_73, x_208_76, x_208_77, x_208_78, x_208_81, x_208_82, x_208_85, x_208_86, x_208_87, x_208_90, x_208_91, x_208_92, x_208_93, x_208_96, x_208_97, x_208_98, x_208_99, x_208_100, x_208_103, x_208_104, hv, hp, hk, wt_a hv hp, wt_b hv hp, wt_c hv hp, wt_d hv hp, wk_c hv, wk_d hv, wk_0 hv, wk_1 hv, kq, hj, en, wA, wB, cA', i_succ, SI_SI, n10, e1, Option.bind_some, mAft_n, mAft_v, mAft_x, mS_n, mS_i, mS_r, mS_l, mS_d, ne_eq, not_false_eq_true, not_true_eq_false, true_or, or_true, and_true, true_and, if_true, if_false, ite_true, ite_false, reduceIte, Nat.reduceAdd, Nat.reduceLeDiff, Nat.reduceEqDiff, false_and, and_false, or_false, false_or, eq_self, reduceCtorEq, mi_316, mi_317, ml_317, mi_318, ml_318, mi_319, ml_319, mi_320, ml_320, mi_321, ml_321, mi_322, ml_322, mi_359, ml_359, mv_316_1, mv_316_4, mv_316_7, mv_316_8, mv_316_9, mv_316_10, mv_316_13, mv_316_14, mv_316_15, pi_0, pi_1, pl_1, pv_1, pi_2, pl_2, pv_2, pi_3, pl_3, pv_3, pi_4, pl_4, pv_4, pi_5, pl_5, pv_5, pi_6, pl_6, pv_10, pi_7, pl_7, pv_11, pi_8, pl_8, pv_12, pi_9, pl_9, pv_13, pi_10, pl_10, pv_14, pi_11, pl_11, pv_15, pv_20, wi_0, wi_1, wl_1, wv_14, wi_2, wl_2, wv_15, wi_3, wl_3, wv_16, wi_4, wl_4, wv_17, wi_5, wl_5, wv_18, wv_21, pt_P, pt_v, pt_w, pt_SI, pt_SL, kM_SI, kM_SL, lI_SL, lV_SL, lK_SL, lN_SL, lL_SL, lIs_SL, nI_SI, nV_SI, nK_SI, nN_SI, nL_SI, nIs_SI, pp_c, pp_l, pp_r, pp_k, pp_k0, pp_j, pp_j0, isl]
    rw [if_neg cA] at hP
    by_cases cB : k i = 40
    · rw [if_pos cB] at hP
      have cB' := eq_true cB
      obtain ⟨l1, cc1, f1, cc2, f2, x1, x2, hc, he'⟩ := sq_inv hP
      obtain ⟨_, hj1, hc1, hf1⟩ := tk_inv x1
      subst hj1 hc1 hf1
      obtain ⟨l4, cc3, f3, cc4, f4, x3, x4, hc2, he2⟩ := sq_inv x2
      obtain ⟨l5, cc5, f5, cc6, f6, x5, x6, hc3, he3⟩ := sq_inv x4
      obtain ⟨hj5, hc5, hf5⟩ := em_inv x5
      subst hj5 hc5 hf5
      subst hc3 he3
      subst hc2 he2
      subst hc he'
      have e1' : evOK V ps.length f3 := fun ev hv => he ev (by simp [hv])
      have e2' : evOK V ps.length f4 := fun ev hv => he ev (by simp [hv])
      obtain ⟨hl, y1, g1, e1⟩ := r1 _ _ _ _ _ (knx i (by omega) (by omega)) x3 e1'
      have hli : i + 1 ≤ l5 := mo_le mo1 x3
      obtain ⟨hj', y, g2, e2⟩ := ih _ _ _ _ _ (rO 21 all y1) (some (.int 0)) (some (.int y1)) hl (by omega) x6 e2'
      refine ⟨hj', y, fun us hu => ?_, ?_⟩
      · show exL (vKK vs (Int32.ofNat who) lim) cl S V (cc3 ++ ([(21, 0, 0)] ++ cc6)) (us ++ [all]) = _
        rw [exL_app, g1 _ (by rw [List.length_append, List.length_cons, List.length_nil]; omega), exL_app]
        show exL (vKK vs (Int32.ofNat who) lim) cl S V cc6 (exI (vKK vs (Int32.ofNat who) lim) cl S V (us ++ [all] ++ [y1]) (21, 0, 0)) = _
        rw [ex_b (by decide) (by decide) (by omega), g2 us hu]
      · rw [← e2, x_208_5, rO_21]
        simp (maxDischargeDepth := 60) only [hk, x_208_0, x_208_1, x_208_4, x_208_6, x_208_9, x_208_12, x_208_15, x_208_16, x_208_19, x_208_20, x_208_22, x_208_25, x_208_26, x_208_29, x_208_32, x_208_35, x_208_36, x_208_39, x_208_40, x_208_42, x_208_45, x_208_46, x_208_49, x_208_52, x_208_55, x_208_56, x_208_59, x_208_60, x_208_62, x_208_65, x_208_66, x_208_69, x_208_70, x_208_71, x_208_72, x_208_72i, x_208_73, x_208_76, x_208_77, x_208_78, x_208_81, x_208_82, x_208_85, x_208_86, x_208_87, x_208_90, x_208_91, x_208_92, x_208_93, x_208_96, x_208_97, x_208_98, x_208_99, x_208_100, x_208_103, x_208_104, hv, hp, hk, wt_a hv hp, wt_b hv hp, wt_c hv hp, wt_d hv hp, wk_c hv, wk_d hv, wk_0 hv, wk_1 hv, kq, hj, en, wA, wB, cA, cB', i_succ, SI_SI, n10, e1, Option.bind_some, mAft_n, mAft_v, mAft_x, mS_n, mS_i, mS_r, mS_l, mS_d, ne_eq, not_false_eq_true, not_true_eq_false, true_or, or_true, and_true, true_and, if_true, if_false, ite_true, ite_false, reduceIte, Nat.reduceAdd, Nat.reduceLeDiff, Nat.reduceEqDiff, false_and, and_false, or_false, false_or, eq_self, reduceCtorEq, mi_316, mi_317, ml_317, mi_318, ml_318, mi_319, ml_319, mi_320, ml_320, mi_321, ml_321, mi_322, ml_322, mi_359, ml_359, mv_316_1, mv_316_4, mv_316_7, mv_316_8, mv_316_9, mv_316_10, mv_316_13, mv_316_14, mv_316_15, pi_0, pi_1, pl_1, pv_1, pi_2, pl_2, pv_2, pi_3, pl_3, pv_3, pi_4, pl_4, pv_4, pi_5, pl_5, pv_5, pi_6, pl_6, pv_10, pi_7, pl_7, pv_11, pi_8, pl_8, pv_12, pi_9, pl_9, pv_13, pi_10, pl_10, pv_14, pi_11, pl_11, pv_15, pv_20, wi_0, wi_1, wl_1, wv_14, wi_2, wl_2, wv_15, wi_3, wl_3, wv_16, wi_4, wl_4, wv_17, wi_5, wl_5, wv_18, wv_21, pt_P, pt_v, pt_w, pt_SI, pt_SL, kM_SI, kM_SL, lI_SL, lV_SL, lK_SL, lN_SL, lL_SL, lIs_SL, nI_SI, nV_SI, nK_SI, nN_SI, nL_SI, nIs_SI, pp_c, pp_l, pp_r, pp_k, pp_k0, pp_j, pp_j0, isl]
    rw [if_neg cB] at hP
    unfold skp at hP
    cases hP
    refine ⟨hi, all, fun us hu => rfl, ?_⟩
    rw [x_208_5]
    simp (maxDischargeDepth := 60) only [hk, x_208_0, x_208_1, x_208_4, x_208_6, x_208_9, x_208_12, x_208_15, x_208_16, x_208_19, x_208_20, x_208_22, x_208_25, x_208_26, x_208_29, x_208_32, x_208_35, x_208_36, x_208_39, x_208_40, x_208_42, x_208_45, x_208_46, x_208_49, x_208_52, x_208_55, x_208_56, x_208_59, x_208_60, x_208_62, x_208_65, x_208_66, x_208_69, x_208_70, x_208_71, x_208_72, x_208_72i, x_208_73, x_208_76, x_208_77, x_208_78, x_208_81, x_208_82, x_208_85, x_208_86, x_208_87, x_208_90, x_208_91, x_208_92, x_208_93, x_208_96, x_208_97, x_208_98, x_208_99, x_208_100, x_208_103, x_208_104, hv, hp, hk, wt_a hv hp, wt_b hv hp, wt_c hv hp, wt_d hv hp, wk_c hv, wk_d hv, wk_0 hv, wk_1 hv, kq, hj, en, wA, wB, cA, cB, Option.bind_some, mAft_n, mAft_v, mAft_x, mS_n, mS_i, mS_r, mS_l, mS_d, ne_eq, not_false_eq_true, not_true_eq_false, true_or, or_true, and_true, true_and, if_true, if_false, ite_true, ite_false, reduceIte, Nat.reduceAdd, Nat.reduceLeDiff, Nat.reduceEqDiff, false_and, and_false, or_false, false_or, eq_self, reduceCtorEq, mi_316, mi_317, ml_317, mi_318, ml_318, mi_319, ml_319, mi_320, ml_320, mi_321, ml_321, mi_322, ml_322, mi_359, ml_359, mv_316_1, mv_316_4, mv_316_7, mv_316_8, mv_316_9, mv_316_10, mv_316_13, mv_316_14, mv_316_15, pi_0, pi_1, pl_1, pv_1, pi_2, pl_2, pv_2, pi_3, pl_3, pv_3, pi_4, pl_4, pv_4, pi_5, pl_5, pv_5, pi_6, pl_6, pv_10, pi_7, pl_7, pv_11, pi_8, pl_8, pv_12, pi_9, pl_9, pv_13, pi_10, pl_10, pv_14, pi_11, pl_11, pv_15, pv_20, wi_0, wi_1, wl_1, wv_14, wi_2, wl_2, wv_15, wi_3, wl_3, wv_16, wi_4, wl_4, wv_17, wi_5, wl_5, wv_18, wv_21, pt_P, pt_v, pt_w, pt_SI, pt_SL, kM_SI, kM_SL, lI_SL, lV_SL, lK_SL, lN_SL, lL_SL, lIs_SL, nI_SI, nV_SI, nK_SI, nN_SI, nL_SI, nIs_SI, pp_c, pp_l, pp_r, pp_k, pp_k0, pp_j, pp_j0, isl]

theorem e_prod {D g : Nat} {one : PA} {h : mH} {v who : Nat} {lim : Int32} {S : VS} {cl : List CL} {dn : List NS} {ps : List PT} {vs : List (Int32 × Int32 × Int32)} {k : Nat → Nat} {n : Nat} {V : Nat → Int32} (m : xS h v who lim S cl dn ps vs k n V) (hg : 1 ≤ g) (mo1 : mo one) (r1 : RE h v (vKK vs (Int32.ofNat who) lim) cl S V ps.length n g D 206 one) : RE h v (vKK vs (Int32.ofNat who) lim) cl S V ps.length n (g + 1) (D + 1) 207 (pProd k one) := by
  intro i b j c e hi hP he
  obtain ⟨l1, cc1, f1, cc2, f2, x1, x2, hc, he'⟩ := sq_inv hP
  subst hc he'
  obtain ⟨hl, y1, g1, e1⟩ := r1 _ _ _ _ _ hi x1 (evOK_l he)
  obtain ⟨hj', y, g2, e2⟩ := e_prodl m hg mo1 r1 (402 - l1) l1 _ j cc2 f2 y1 none none hl (by have := m.2.2.2.2.1; omega) x2 (evOK_r he)
  have hv := m.2.1
  have hk := m.1.1
  refine ⟨hj', y, fun us hu => ?_, ?_⟩
  · rw [exL_app, g1 us (by omega), g2 us (by omega)]
  · rw [← e2]
    simp (maxDischargeDepth := 60) only [hk, x_207_0, x_207_1, x_207_4, x_207_6, x_207_9, x_207_12, x_207_15, x_207_16, x_207_19, x_207_20, x_207_22, x_207_25, x_207_26, x_207_29, x_207_32, x_207_35, x_207_36, x_207_39, x_207_40, x_207_42, x_207_45, x_207_46, x_207_49, x_207_52, x_207_55, x_207_56, x_207_59, x_207_60, x_207_62, x_207_65, x_207_66, x_207_69, x_207_70, x_207_71, x_207_72, x_207_72i, x_207_73, x_207_76, x_207_77, x_207_78, x_207_81, x_207_82, x_207_85, x_207_86, x_207_87, x_207_90, x_207_91, x_207_92, x_207_93, x_207_96, x_207_97, x_207_100, x_207_101, x_207_104, x_207_105, x_207_106, x_207_107, x_207_108, x_207_111, x_207_112, c_207, hv, e1, Option.bind_some, mAft_n, mAft_v, mAft_x, mS_n, mS_i, mS_r, mS_l, mS_d, ne_eq, not_false_eq_true, not_true_eq_false, true_or, or_true, and_true, true_and, if_true, if_false, ite_true, ite_false, reduceIte, Nat.reduceAdd, Nat.reduceLeDiff, Nat.reduceEqDiff, false_and, and_false, or_false, false_or, eq_self, reduceCtorEq, mi_316, mi_317, ml_317, mi_318, ml_318, mi_319, ml_319, mi_320, ml_320, mi_321, ml_321, mi_322, ml_322, mi_359, ml_359, mv_316_1, mv_316_4, mv_316_7, mv_316_8, mv_316_9, mv_316_10, mv_316_13, mv_316_14, mv_316_15, pi_0, pi_1, pl_1, pv_1, pi_2, pl_2, pv_2, pi_3, pl_3, pv_3, pi_4, pl_4, pv_4, pi_5, pl_5, pv_5, pi_6, pl_6, pv_10, pi_7, pl_7, pv_11, pi_8, pl_8, pv_12, pi_9, pl_9, pv_13, pi_10, pl_10, pv_14, pi_11, pl_11, pv_15, pv_20, wi_0, wi_1, wl_1, wv_14, wi_2, wl_2, wv_15, wi_3, wl_3, wv_16, wi_4, wl_4, wv_17, wi_5, wl_5, wv_18, wv_21, pt_P, pt_v, pt_w, pt_SI, pt_SL, kM_SI, kM_SL, lI_SL, lV_SL, lK_SL, lN_SL, lL_SL, lIs_SL, nI_SI, nV_SI, nK_SI, nN_SI, nL_SI, nIs_SI, pp_c, pp_l, pp_r, pp_k, pp_k0, pp_j, pp_j0, isl]
theorem e_sum {D g : Nat} {one : PA} {h : mH} {v who : Nat} {lim : Int32} {S : VS} {cl : List CL} {dn : List NS} {ps : List PT} {vs : List (Int32 × Int32 × Int32)} {k : Nat → Nat} {n : Nat} {V : Nat → Int32} (m : xS h v who lim S cl dn ps vs k n V) (hg : 1 ≤ g) (mo1 : mo one) (r1 : RE h v (vKK vs (Int32.ofNat who) lim) cl S V ps.length n g D 206 one) : RE h v (vKK vs (Int32.ofNat who) lim) cl S V ps.length n (g + 2) (D + 2) 208 (pSum k one) := by
  intro i b j c e hi hP he
  have r2 := e_prod m hg mo1 r1
  obtain ⟨l1, cc1, f1, cc2, f2, x1, x2, hc, he'⟩ := sq_inv hP
  subst hc he'
  obtain ⟨hl, y1, g1, e1⟩ := r2 _ _ _ _ _ hi x1 (evOK_l he)
  obtain ⟨hj', y, g2, e2⟩ := e_suml m (Nat.le_add_left 1 g) (mo_prod mo1) r2 (402 - l1) l1 _ j cc2 f2 y1 none none hl (by have := m.2.2.2.2.1; omega) x2 (evOK_r he)
  have hv := m.2.1
  have hk := m.1.1
  refine ⟨hj', y, fun us hu => ?_, ?_⟩
  · rw [exL_app, g1 us (by omega), g2 us (by omega)]
  · rw [← e2]
    simp (maxDischargeDepth := 60) only [hk, x_208_0, x_208_1, x_208_4, x_208_6, x_208_9, x_208_12, x_208_15, x_208_16, x_208_19, x_208_20, x_208_22, x_208_25, x_208_26, x_208_29, x_208_32, x_208_35, x_208_36, x_208_39, x_208_40, x_208_42, x_208_45, x_208_46, x_208_49, x_208_52, x_208_55, x_208_56, x_208_59, x_208_60, x_208_62, x_208_65, x_208_66, x_208_69, x_208_70, x_208_71, x_208_72, x_208_72i, x_208_73, x_208_76, x_208_77, x_208_78, x_208_81, x_208_82, x_208_85, x_208_86, x_208_87, x_208_90, x_208_91, x_208_92, x_208_93, x_208_96, x_208_97, x_208_98, x_208_99, x_208_100, x_208_103, x_208_104, c_208, hv, e1, Option.bind_some, mAft_n, mAft_v, mAft_x, mS_n, mS_i, mS_r, mS_l, mS_d, ne_eq, not_false_eq_true, not_true_eq_false, true_or, or_true, and_true, true_and, if_true, if_false, ite_true, ite_false, reduceIte, Nat.reduceAdd, Nat.reduceLeDiff, Nat.reduceEqDiff, false_and, and_false, or_false, false_or, eq_self, reduceCtorEq, mi_316, mi_317, ml_317, mi_318, ml_318, mi_319, ml_319, mi_320, ml_320, mi_321, ml_321, mi_322, ml_322, mi_359, ml_359, mv_316_1, mv_316_4, mv_316_7, mv_316_8, mv_316_9, mv_316_10, mv_316_13, mv_316_14, mv_316_15, pi_0, pi_1, pl_1, pv_1, pi_2, pl_2, pv_2, pi_3, pl_3, pv_3, pi_4, pl_4, pv_4, pi_5, pl_5, pv_5, pi_6, pl_6, pv_10, pi_7, pl_7, pv_11, pi_8, pl_8, pv_12, pi_9, pl_9, pv_13, pi_10, pl_10, pv_14, pi_11, pl_11, pv_15, pv_20, wi_0, wi_1, wl_1, wv_14, wi_2, wl_2, wv_15, wi_3, wl_3, wv_16, wi_4, wl_4, wv_17, wi_5, wl_5, wv_18, wv_21, pt_P, pt_v, pt_w, pt_SI, pt_SL, kM_SI, kM_SL, lI_SL, lV_SL, lK_SL, lN_SL, lL_SL, lIs_SL, nI_SI, nV_SI, nK_SI, nN_SI, nL_SI, nIs_SI, pp_c, pp_l, pp_r, pp_k, pp_k0, pp_j, pp_j0, isl]

theorem m_pr {k : Nat → Nat} {c i b j : Nat} {op : Int32} {one : PA} {cc : List CI} {e : List EVt} (h : pPr k c op one i b = (j, some (cc, e))) : ∃ l1 c1 e1 l2 c2 e2 b2, k i = c ∧ k (i + 1) = 33 ∧ pSum k one (i + 2) (b + 0 + 0) = (l1, some (c1, e1)) ∧ k l1 = 38 ∧ pSum k one (l1 + 1) b2 = (l2, some (c2, e2)) ∧ k l2 = 34 ∧ j = l2 + 1 ∧ cc = c1 ++ (c2 ++ [(op, 0, 0)]) ∧ e = e1 ++ e2 := by
  unfold pPr at h
  obtain ⟨l, a1, f1, a2, f2, x1, x2, hc, he⟩ := sq_inv h
  obtain ⟨k1, q1, q2, q3⟩ := tk_inv x1
  obtain ⟨l', a3, f3, a4, f4, x3, x4, hc2, he2⟩ := sq_inv x2
  obtain ⟨k2, q4, q5, q6⟩ := tk_inv x3
  obtain ⟨l3, a5, f5, a6, f6, x5, x6, hc3, he3⟩ := sq_inv x4
  obtain ⟨l4, a7, f7, a8, f8, x7, x8, hc4, he4⟩ := sq_inv x6
  obtain ⟨k3, q7, q8, q9⟩ := tk_inv x7
  obtain ⟨l5, a9, f9, a10, f10, x9, x10, hc5, he5⟩ := sq_inv x8
  obtain ⟨l6, a11, f11, a12, f12, x11, x12, hc6, he6⟩ := sq_inv x10
  obtain ⟨k4, q10, q11, q12⟩ := tk_inv x11
  obtain ⟨q13, q14, q15⟩ := em_inv x12
  rw [q1] at k2 x3 q4
  rw [q4] at x5
  rw [q2, q5] at x5
  rw [q7] at x9
  refine ⟨l3, a5, f5, l5, a9, f9, _, k1, k2, x5, k3, x9, k4, by rw [q13, q10], ?_, ?_⟩
  · rw [hc, hc2, hc3, hc4, hc5, hc6, q2, q5, q8, q11, q14]; rfl
  · rw [he, he2, he3, he4, he5, he6, q3, q6, q9, q12, q15]; simp
theorem e_one {h : mH} {v who : Nat} {lim : Int32} {S : VS} {cl : List CL} {dn : List NS} {ps : List PT} {vs : List (Int32 × Int32 × Int32)} {k : Nat → Nat} {n : Nat} {V : Nat → Int32} (m : xS h v who lim S cl dn ps vs k n V) : ∀ (a D : Nat), RE h v (vKK vs (Int32.ofNat who) lim) cl S V ps.length n (1 + 3 * a) (D + 1 + 3 * a) 206 (pOne k a) := by
  have m0 := m
  obtain ⟨w, hv, hwh, ms, hn, tk', k50, knx⟩ := m
  have hk := w.1
  have hp := pt_P hk
  have lf : ∀ (D' : Nat) (rc : Option PA) (i b j : Nat) (c : List CI) (e : List EVt) (g : Nat), 1 ≤ g → i < n → pOneF k rc i b = (j, some (c, e)) → (k i = 30 ∨ k i = 20 ∨ k i = 21 ∨ k i = 22 ∨ k i = 23 ∨ k i = 6) → j < n ∧ ∃ x, (∀ us, us.length + g ≤ 80 → exL (vKK vs (Int32.ofNat who) lim) cl S V c us = us ++ [x]) ∧ mCall (D' + 1) 206 [.ref v] (mSI h v 20 (Int32.ofNat i)) = some (.inl (some (.int x)), mSI h v 20 (Int32.ofNat j)) := by
    intro D' rc i b j c e g hg hi hP hl
    obtain ⟨a1, x, a2, a3⟩ := e_leaf (D := D') m0 hi hP hl
    exact ⟨a1, x, fun us hu => a2 us (by omega), a3⟩
  intro a
  induction a with
  | zero =>
    intro D i b j c e hi hP he
    have hP' : pOneF k none i b = (j, some (c, e)) := hP
    by_cases hl : k i = 30 ∨ k i = 20 ∨ k i = 21 ∨ k i = 22 ∨ k i = 23 ∨ k i = 6
    · exact lf D none i b j c e (1 + 3 * 0) (by omega) hi hP' hl
    · exfalso
      unfold pOneF at hP'
      rw [if_neg (fun z => hl (Or.inl z)), if_neg (fun z => hl (Or.inr (Or.inl z))), if_neg (fun z => hl (Or.inr (Or.inr (Or.inl z)))), if_neg (fun z => hl (Or.inr (Or.inr (Or.inr (Or.inl z))))), if_neg (fun z => hl (Or.inr (Or.inr (Or.inr (Or.inr (Or.inl z)))))), if_neg (fun z => hl (Or.inr (Or.inr (Or.inr (Or.inr (Or.inr z))))))] at hP'
      split at hP'
      · cases hP'
      · split at hP'
        · cases hP'
        · split at hP'
          · obtain ⟨l, a1, f1, a2, f2, x1, x2, hc, he⟩ := sq_inv hP'
            cases x2
          · split at hP'
            · obtain ⟨l, a1, f1, a2, f2, x1, x2, hc, he⟩ := sq_inv hP'
              cases x2
            · cases hP'
  | succ a ih =>
    intro D i b j c e hi hP he
    have hP' : pOneF k (some (pOne k a)) i b = (j, some (c, e)) := hP
    have sm := e_sum m0 (by omega) (mo_one a) (ih D)
    by_cases hl : k i = 30 ∨ k i = 20 ∨ k i = 21 ∨ k i = 22 ∨ k i = 23 ∨ k i = 6
    · rw [show D + 1 + 3 * (a + 1) = D + 3 * (a + 1) + 1 by omega]
      exact lf (D + 3 * (a + 1)) _ i b j c e (1 + 3 * (a + 1)) (by omega) hi hP' hl
    have hj : mIn (Int32.ofNat i) 402 = true := i_in (by rw [i_of_i (by omega)]; omega) (by rw [i_of_i (by omega)]; omega)
    have en : (Int32.ofNat i).toNatClampNeg = i := i_of_n (by omega)
    unfold pOneF at hP'
    rw [if_neg (fun z => hl (Or.inl z)), if_neg (fun z => hl (Or.inr (Or.inl z))), if_neg (fun z => hl (Or.inr (Or.inr (Or.inl z)))), if_neg (fun z => hl (Or.inr (Or.inr (Or.inr (Or.inl z))))), if_neg (fun z => hl (Or.inr (Or.inr (Or.inr (Or.inr (Or.inl z)))))), if_neg (fun z => hl (Or.inr (Or.inr (Or.inr (Or.inr (Or.inr z))))))] at hP'
    by_cases g40 : k i = 40
    · rw [if_pos g40] at hP'
      obtain ⟨l1, cc1, f1, cc2, f2, x1, x2, hc, he'⟩ := sq_inv hP'
      obtain ⟨_, q1, q2, q3⟩ := tk_inv x1
      obtain ⟨l2, cc3, f3, cc4, f4, x3, x4, hc2, he2⟩ := sq_inv x2
      obtain ⟨q4, q5, q6⟩ := em_inv x4
      rw [q1] at x3
      obtain ⟨hl2, y, g1, e1⟩ := ih (D + 2) _ _ _ _ _ (knx i (by omega) (by omega)) x3 (by rw [he', he2, q3, q6] at he; exact fun ev hv => he ev (by simp [hv]))
      refine ⟨by omega, -y, fun us hu => ?_, ?_⟩
      · rw [hc, hc2, q2, q5, List.nil_append, exL_app, g1 us (by omega)]
        exact (ex_u (by omega)).1
      · have wk := xs_kd m0 hi g40 45 (by decide)
        rw [q4, show D + 1 + 3 * (a + 1) = D + 3 + 3 * a + 1 by omega]
        have e1' : mCall (D + 3 + 3 * a) 206 [.ref v] (mSI h v 20 (Int32.ofNat (i + 1))) = some (.inl (some (.int y)), mSI h v 20 (Int32.ofNat l2)) := by
          rw [show D + 3 + 3 * a = D + 2 + 1 + 3 * a by omega]; exact e1
        simp (maxDischargeDepth := 60) only [hk, x_206_0, x_206_1, x_206_4, x_206_7, x_206_10, x_206_11, x_206_14, x_206_15, x_206_16, x_206_17, x_206_17i, x_206_18, x_206_21, x_206_22, x_206_23, x_206_26, x_206_27, x_206_100, x_206_101, x_206_104, x_206_107, x_206_110, x_206_111, x_206_114, x_206_115, x_206_116, x_206_117, x_206_118, x_206_119, x_206_122, x_206_123, x_206_124, x_206_127, x_206_128, x_206_131, x_206_132, x_206_133, x_206_134, x_206_137, x_206_138, x_206_139, x_206_142, x_206_145, x_206_146, x_206_147, x_206_150, x_206_151, x_206_152, x_206_153, x_206_154, x_206_157, x_206_158, x_206_159, x_206_162, x_206_163, x_206_164, x_206_165, x_206_168, x_206_169, x_206_170, x_206_170i, x_206_171, x_206_174, x_206_175, x_206_176, x_206_179, x_206_180, x_206_181, x_206_182, x_206_182i, x_206_183, x_206_186, x_206_187, x_206_188, x_206_191, x_206_192, x_206_195, x_206_196, x_206_197, x_206_197i, x_206_198, x_206_201, x_206_202, x_206_203, x_206_206, x_206_207, x_206_210, x_206_211, x_206_212, x_206_212i, x_206_213, x_206_216, x_206_217, x_206_218, x_206_221, x_206_222, x_206_224, x_206_227, x_206_228, x_206_229, x_206_232, x_206_235, x_206_236, x_206_237, x_206_240, c_206, hv, hp, hk, wt_a hv hp, wt_b hv hp, wt_c hv hp, wt_d hv hp, wk_c hv, wk_d hv, wk_0 hv, wk_1 hv, hj, en, wk, sw1_45, i_succ, SI_SI, e1', Option.bind_some, mAft_n, mAft_v, mAft_x, mS_n, mS_i, mS_r, mS_l, mS_d, ne_eq, not_false_eq_true, not_true_eq_false, true_or, or_true, and_true, true_and, if_true, if_false, ite_true, ite_false, reduceIte, Nat.reduceAdd, Nat.reduceLeDiff, Nat.reduceEqDiff, false_and, and_false, or_false, false_or, eq_self, reduceCtorEq, mi_316, mi_317, ml_317, mi_318, ml_318, mi_319, ml_319, mi_320, ml_320, mi_321, ml_321, mi_322, ml_322, mi_359, ml_359, mv_316_1, mv_316_4, mv_316_7, mv_316_8, mv_316_9, mv_316_10, mv_316_13, mv_316_14, mv_316_15, pi_0, pi_1, pl_1, pv_1, pi_2, pl_2, pv_2, pi_3, pl_3, pv_3, pi_4, pl_4, pv_4, pi_5, pl_5, pv_5, pi_6, pl_6, pv_10, pi_7, pl_7, pv_11, pi_8, pl_8, pv_12, pi_9, pl_9, pv_13, pi_10, pl_10, pv_14, pi_11, pl_11, pv_15, pv_20, wi_0, wi_1, wl_1, wv_14, wi_2, wl_2, wv_15, wi_3, wl_3, wv_16, wi_4, wl_4, wv_17, wi_5, wl_5, wv_18, wv_21, pt_P, pt_v, pt_w, pt_SI, pt_SL, kM_SI, kM_SL, lI_SL, lV_SL, lK_SL, lN_SL, lL_SL, lIs_SL, nI_SI, nV_SI, nK_SI, nN_SI, nL_SI, nIs_SI, pp_c, pp_l, pp_r, pp_k, pp_k0, pp_j, pp_j0, isl]
    rw [if_neg g40] at hP'
    by_cases g33 : k i = 33
    · rw [if_pos g33] at hP'
      obtain ⟨l1, cc1, f1, cc2, f2, x1, x2, hc, he'⟩ := sq_inv hP'
      obtain ⟨_, q1, q2, q3⟩ := tk_inv x1
      obtain ⟨l2, cc3, f3, cc4, f4, x3, x4, hc2, he2⟩ := sq_inv x2
      obtain ⟨k34, q4, q5, q6⟩ := tk_inv x4
      rw [q1] at x3
      obtain ⟨hl2, y, g1, e1⟩ := sm _ _ _ _ _ (knx i (by omega) (by omega)) x3 (by rw [he', he2, q3, q6] at he; exact fun ev hv => he ev (by simp [hv]))
      refine ⟨by rw [q4]; exact knx l2 (by omega) (by omega), y, fun us hu => ?_, ?_⟩
      · rw [hc, hc2, q2, q5, List.nil_append, List.append_nil, g1 us (by omega)]
      · have wk := xs_kd m0 hi g33 40 (by decide)
        rw [q4, show D + 1 + 3 * (a + 1) = D + 1 + 3 * a + 2 + 1 by omega]
        simp (maxDischargeDepth := 60) only [hk, x_206_0, x_206_1, x_206_4, x_206_7, x_206_10, x_206_11, x_206_14, x_206_15, x_206_16, x_206_17, x_206_17i, x_206_18, x_206_21, x_206_22, x_206_23, x_206_26, x_206_27, x_206_100, x_206_101, x_206_104, x_206_107, x_206_110, x_206_111, x_206_114, x_206_115, x_206_116, x_206_117, x_206_118, x_206_119, x_206_122, x_206_123, x_206_124, x_206_127, x_206_128, x_206_131, x_206_132, x_206_133, x_206_134, x_206_137, x_206_138, x_206_139, x_206_142, x_206_145, x_206_146, x_206_147, x_206_150, x_206_151, x_206_152, x_206_153, x_206_154, x_206_157, x_206_158, x_206_159, x_206_162, x_206_163, x_206_164, x_206_165, x_206_168, x_206_169, x_206_170, x_206_170i, x_206_171, x_206_174, x_206_175, x_206_176, x_206_179, x_206_180, x_206_181, x_206_182, x_206_182i, x_206_183, x_206_186, x_206_187, x_206_188, x_206_191, x_206_192, x_206_195, x_206_196, x_206_197, x_206_197i, x_206_198, x_206_201, x_206_202, x_206_203, x_206_206, x_206_207, x_206_210, x_206_211, x_206_212, x_206_212i, x_206_213, x_206_216, x_206_217, x_206_218, x_206_221, x_206_222, x_206_224, x_206_227, x_206_228, x_206_229, x_206_232, x_206_235, x_206_236, x_206_237, x_206_240, c_206, hv, hp, hk, wt_a hv hp, wt_b hv hp, wt_c hv hp, wt_d hv hp, wk_c hv, wk_d hv, wk_0 hv, wk_1 hv, hj, en, wk, sw1_40, i_succ, SI_SI, e1, Option.bind_some, mAft_n, mAft_v, mAft_x, mS_n, mS_i, mS_r, mS_l, mS_d, ne_eq, not_false_eq_true, not_true_eq_false, true_or, or_true, and_true, true_and, if_true, if_false, ite_true, ite_false, reduceIte, Nat.reduceAdd, Nat.reduceLeDiff, Nat.reduceEqDiff, false_and, and_false, or_false, false_or, eq_self, reduceCtorEq, mi_316, mi_317, ml_317, mi_318, ml_318, mi_319, ml_319, mi_320, ml_320, mi_321, ml_321, mi_322, ml_322, mi_359, ml_359, mv_316_1, mv_316_4, mv_316_7, mv_316_8, mv_316_9, mv_316_10, mv_316_13, mv_316_14, mv_316_15, pi_0, pi_1, pl_1, pv_1, pi_2, pl_2, pv_2, pi_3, pl_3, pv_3, pi_4, pl_4, pv_4, pi_5, pl_5, pv_5, pi_6, pl_6, pv_10, pi_7, pl_7, pv_11, pi_8, pl_8, pv_12, pi_9, pl_9, pv_13, pi_10, pl_10, pv_14, pi_11, pl_11, pv_15, pv_20, wi_0, wi_1, wl_1, wv_14, wi_2, wl_2, wv_15, wi_3, wl_3, wv_16, wi_4, wl_4, wv_17, wi_5, wl_5, wv_18, wv_21, pt_P, pt_v, pt_w, pt_SI, pt_SL, kM_SI, kM_SL, lI_SL, lV_SL, lK_SL, lN_SL, lL_SL, lIs_SL, nI_SI, nV_SI, nK_SI, nN_SI, nL_SI, nIs_SI, pp_c, pp_l, pp_r, pp_k, pp_k0, pp_j, pp_j0, isl]
    rw [if_neg g33] at hP'
    have mm : ∀ (cq : Nat) (op : Int32), (cq = 27 ∧ op = 24 ∨ cq = 28 ∧ op = 25) → pPr k cq op (pOne k a) i b = (j, some (c, e)) → j < n ∧ ∃ x, (∀ us, us.length + (1 + 3 * (a + 1)) ≤ 80 → exL (vKK vs (Int32.ofNat who) lim) cl S V c us = us ++ [x]) ∧ mCall (D + 1 + 3 * (a + 1)) 206 [.ref v] (mSI h v 20 (Int32.ofNat i)) = some (.inl (some (.int x)), mSI h v 20 (Int32.ofNat j)) := by
      intro cq op hcq hPr
      obtain ⟨l1, c1, e1, l2, c2, e2, b2, z1, z2, z3, z4, z5, z6, z7, z8, z9⟩ := m_pr hPr
      have i1 : i + 1 < n := knx i (by omega) (by omega)
      have i2 : i + 1 + 1 < n := knx (i + 1) (by omega) (by omega)
      obtain ⟨hl1, y1, g1, s1⟩ := sm _ _ _ _ _ i2 z3 (by rw [z9] at he; exact evOK_l he)
      obtain ⟨hl2, y2, g2, s2⟩ := sm _ _ _ _ _ (knx l1 (by omega) (by omega)) z5 (by rw [z9] at he; exact evOK_r he)
      refine ⟨by rw [z7]; exact knx l2 (by omega) (by omega), rO op y1 y2, fun us hu => ?_, ?_⟩
      · rw [z8, exL_app, g1 us (by omega), exL_app, g2 _ (by rw [List.length_append, List.length_cons, List.length_nil]; omega)]
        exact ex_b (by rcases hcq with ⟨_, rfl⟩ | ⟨_, rfl⟩ <;> decide) (by rcases hcq with ⟨_, rfl⟩ | ⟨_, rfl⟩ <;> decide) (by omega)
      · rw [z7, show D + 1 + 3 * (a + 1) = D + 1 + 3 * a + 2 + 1 by omega]
        have s1' : mCall (D + 1 + 3 * a + 2) 208 [.ref v] (mSI h v 20 (Int32.ofNat (i + 1 + 1))) = some (.inl (some (.int y1)), mSI h v 20 (Int32.ofNat l1)) := s1
        rcases hcq with ⟨rfl, rfl⟩ | ⟨rfl, rfl⟩
        · have wk := xs_kd m0 hi z1 27 (by decide)
          have n27 : (27 : Int32) = 27 := rfl
          have s7 : ¬ (27 : Int32) = 40 ∧ ¬ (27 : Int32) = 45 ∧ ¬ (27 : Int32) = 201 := by decide
          rw [rO_24]
          simp (maxDischargeDepth := 60) only [hk, x_206_0, x_206_1, x_206_4, x_206_7, x_206_10, x_206_11, x_206_14, x_206_15, x_206_16, x_206_17, x_206_17i, x_206_18, x_206_21, x_206_22, x_206_23, x_206_26, x_206_27, x_206_100, x_206_101, x_206_104, x_206_107, x_206_110, x_206_111, x_206_114, x_206_115, x_206_116, x_206_117, x_206_118, x_206_119, x_206_122, x_206_123, x_206_124, x_206_127, x_206_128, x_206_131, x_206_132, x_206_133, x_206_134, x_206_137, x_206_138, x_206_139, x_206_142, x_206_145, x_206_146, x_206_147, x_206_150, x_206_151, x_206_152, x_206_153, x_206_154, x_206_157, x_206_158, x_206_159, x_206_162, x_206_163, x_206_164, x_206_165, x_206_168, x_206_169, x_206_170, x_206_170i, x_206_171, x_206_174, x_206_175, x_206_176, x_206_179, x_206_180, x_206_181, x_206_182, x_206_182i, x_206_183, x_206_186, x_206_187, x_206_188, x_206_191, x_206_192, x_206_195, x_206_196, x_206_197, x_206_197i, x_206_198, x_206_201, x_206_202, x_206_203, x_206_206, x_206_207, x_206_210, x_206_211, x_206_212, x_206_212i, x_206_213, x_206_216, x_206_217, x_206_218, x_206_221, x_206_222, x_206_224, x_206_227, x_206_228, x_206_229, x_206_232, x_206_235, x_206_236, x_206_237, x_206_240, c_206, hv, hp, hk, wt_a hv hp, wt_b hv hp, wt_c hv hp, wt_d hv hp, wk_c hv, wk_d hv, wk_0 hv, wk_1 hv, hj, en, wk, sw1_27, s7, i_succ, SI_SI, s1', s2, m_min, Option.bind_some, mAft_n, mAft_v, mAft_x, mS_n, mS_i, mS_r, mS_l, mS_d, ne_eq, not_false_eq_true, not_true_eq_false, true_or, or_true, and_true, true_and, if_true, if_false, ite_true, ite_false, reduceIte, Nat.reduceAdd, Nat.reduceLeDiff, Nat.reduceEqDiff, false_and, and_false, or_false, false_or, eq_self, reduceCtorEq, mi_316, mi_317, ml_317, mi_318, ml_318, mi_319, ml_319, mi_320, ml_320, mi_321, ml_321, mi_322, ml_322, mi_359, ml_359, mv_316_1, mv_316_4, mv_316_7, mv_316_8, mv_316_9, mv_316_10, mv_316_13, mv_316_14, mv_316_15, pi_0, pi_1, pl_1, pv_1, pi_2, pl_2, pv_2, pi_3, pl_3, pv_3, pi_4, pl_4, pv_4, pi_5, pl_5, pv_5, pi_6, pl_6, pv_10, pi_7, pl_7, pv_11, pi_8, pl_8, pv_12, pi_9, pl_9, pv_13, pi_10, pl_10, pv_14, pi_11, pl_11, pv_15, pv_20, wi_0, wi_1, wl_1, wv_14, wi_2, wl_2, wv_15, wi_3, wl_3, wv_16, wi_4, wl_4, wv_17, wi_5, wl_5, wv_18, wv_21, pt_P, pt_v, pt_w, pt_SI, pt_SL, kM_SI, kM_SL, lI_SL, lV_SL, lK_SL, lN_SL, lL_SL, lIs_SL, nI_SI, nV_SI, nK_SI, nN_SI, nL_SI, nIs_SI, pp_c, pp_l, pp_r, pp_k, pp_k0, pp_j, pp_j0, isl]
        · have wk := xs_kd m0 hi z1 28 (by decide)
          have s7 : ¬ (28 : Int32) = 40 ∧ ¬ (28 : Int32) = 45 ∧ ¬ (28 : Int32) = 201 := by decide
          rw [rO_25]
          simp (maxDischargeDepth := 60) only [hk, x_206_0, x_206_1, x_206_4, x_206_7, x_206_10, x_206_11, x_206_14, x_206_15, x_206_16, x_206_17, x_206_17i, x_206_18, x_206_21, x_206_22, x_206_23, x_206_26, x_206_27, x_206_100, x_206_101, x_206_104, x_206_107, x_206_110, x_206_111, x_206_114, x_206_115, x_206_116, x_206_117, x_206_118, x_206_119, x_206_122, x_206_123, x_206_124, x_206_127, x_206_128, x_206_131, x_206_132, x_206_133, x_206_134, x_206_137, x_206_138, x_206_139, x_206_142, x_206_145, x_206_146, x_206_147, x_206_150, x_206_151, x_206_152, x_206_153, x_206_154, x_206_157, x_206_158, x_206_159, x_206_162, x_206_163, x_206_164, x_206_165, x_206_168, x_206_169, x_206_170, x_206_170i, x_206_171, x_206_174, x_206_175, x_206_176, x_206_179, x_206_180, x_206_181, x_206_182, x_206_182i, x_206_183, x_206_186, x_206_187, x_206_188, x_206_191, x_206_192, x_206_195, x_206_196, x_206_197, x_206_197i, x_206_198, x_206_201, x_206_202, x_206_203, x_206_206, x_206_207, x_206_210, x_206_211, x_206_212, x_206_212i, x_206_213, x_206_216, x_206_217, x_206_218, x_206_221, x_206_222, x_206_224, x_206_227, x_206_228, x_206_229, x_206_232, x_206_235, x_206_236, x_206_237, x_206_240, c_206, hv, hp, hk, wt_a hv hp, wt_b hv hp, wt_c hv hp, wt_d hv hp, wk_c hv, wk_d hv, wk_0 hv, wk_1 hv, hj, en, wk, sw1_28, s7, i_succ, SI_SI, s1', s2, m_max, Option.bind_some, mAft_n, mAft_v, mAft_x, mS_n, mS_i, mS_r, mS_l, mS_d, ne_eq, not_false_eq_true, not_true_eq_false, true_or, or_true, and_true, true_and, if_true, if_false, ite_true, ite_false, reduceIte, Nat.reduceAdd, Nat.reduceLeDiff, Nat.reduceEqDiff, false_and, and_false, or_false, false_or, eq_self, reduceCtorEq, mi_316, mi_317, ml_317, mi_318, ml_318, mi_319, ml_319, mi_320, ml_320, mi_321, ml_321, mi_322, ml_322, mi_359, ml_359, mv_316_1, mv_316_4, mv_316_7, mv_316_8, mv_316_9, mv_316_10, mv_316_13, mv_316_14, mv_316_15, pi_0, pi_1, pl_1, pv_1, pi_2, pl_2, pv_2, pi_3, pl_3, pv_3, pi_4, pl_4, pv_4, pi_5, pl_5, pv_5, pi_6, pl_6, pv_10, pi_7, pl_7, pv_11, pi_8, pl_8, pv_12, pi_9, pl_9, pv_13, pi_10, pl_10, pv_14, pi_11, pl_11, pv_15, pv_20, wi_0, wi_1, wl_1, wv_14, wi_2, wl_2, wv_15, wi_3, wl_3, wv_16, wi_4, wl_4, wv_17, wi_5, wl_5, wv_18, wv_21, pt_P, pt_v, pt_w, pt_SI, pt_SL, kM_SI, kM_SL, lI_SL, lV_SL, lK_SL, lN_SL, lL_SL, lIs_SL, nI_SI, nV_SI, nK_SI, nN_SI, nL_SI, nIs_SI, pp_c, pp_l, pp_r, pp_k, pp_k0, pp_j, pp_j0, isl]
    by_cases g27 : k i = 27
    · rw [if_pos g27] at hP'
      exact mm 27 24 (Or.inl ⟨rfl, rfl⟩) hP'
    rw [if_neg g27] at hP'
    by_cases g28 : k i = 28
    · rw [if_pos g28] at hP'
      exact mm 28 25 (Or.inr ⟨rfl, rfl⟩) hP'
    rw [if_neg g28] at hP'
    cases hP'
