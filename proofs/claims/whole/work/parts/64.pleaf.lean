/-! THE REFERENCE'S PARSER: LEAVES -/
theorem pS_at {X : PX} {p i d j d' : Nat} {s s' : RS} {h H : mH} (m : pS h p X i d s) (hk : kM H) (f : Fr [p, p + 2, p + 4] h H) (hj : j < X.2.1) (g : ∀ q, q < 16 → mI H p q = mI h p q) (e1 : mI H p 16 = Int32.ofNat j) (e2 : mI H p 17 = Int32.ofNat d') (e3 : mI H p 18 = s'.1) (e4 : mI H p 19 = s'.2.1) (e5 : mI H (p + 2) = s'.2.2.1) (e6 : mI H (p + 4) = s'.2.2.2) : pS H p X j d' s' := by
  obtain ⟨_, hp, hX, hi, w1, w2, w3, w4, w5, w6, n1, n2, n3, _, _, _, _, _, _, a7⟩ := m
  have n : ∀ k, k ≠ 0 → k ≠ 2 → k ≠ 4 → p + k ∉ [p, p + 2, p + 4] := by
    intro k h0 h1 h2 hc
    simp only [List.mem_cons, List.not_mem_nil, or_false] at hc
    omega
  have eL : mL H = mL h := congrArg (fun q => q.1) f.1
  refine ⟨hk, hp, hX, hj, ?_, ?_, ?_, ?_, ?_, ?_, ?_, ?_, ?_, e1, e2, e3, e4, e5, e6, by rw [g 7 (by decide)]; exact a7⟩
  · intro j hj; rw [Fr_I f (n 1 (by decide) (by decide) (by decide))]; exact w1 j hj
  · funext q; rw [Fr_I f (n 3 (by decide) (by decide) (by decide)), w2]
  · rw [eL]; exact w3
  · rw [eL]; exact w4
  · rw [eL]; exact w5
  · rw [eL]; exact w6
  · rw [g 6 (by decide)]; exact n1
  · rw [g 8 (by decide)]; exact n2
  · rw [g 9 (by decide)]; exact n3
theorem pS_k {X : PX} {p i d : Nat} {s : RS} {h : mH} (m : pS h p X i d s) : mI h (p + 1) i = kap (X.1 i) ∧ X.1 i < 50 ∧ i < 402 ∧ mI h p 16 = Int32.ofNat i ∧ mI h p 17 = Int32.ofNat d ∧ kM h ∧ isP p := by
  obtain ⟨hk, hp, hX, hi, w1, w2, w3, w4, w5, w6, n1, n2, n3, a1, a2, _⟩ := m
  exact ⟨w1 i hi, hX.2.2.1 i, by have := hX.1; omega, a1, a2, hk, hp⟩
theorem pS_nx {X : PX} {p i d : Nat} {s : RS} {h : mH} (m : pS h p X i d s) (hc : X.1 i < 48) : i + 1 < X.2.1 := by
  obtain ⟨hk, hp, hX, hi, _⟩ := m
  by_cases z : i + 1 < X.2.1
  · exact z
  · have : i = X.2.1 - 1 := by omega
    rw [this] at hc
    exact absurd hc hX.2.2.2.2.1
/-- the sort of the token that comes is c -/
theorem pS_c {X : PX} {p i d : Nat} {s : RS} {h : mH} (m : pS h p X i d s) (c : Nat) (x : Int32) (hc : c < 50) (hx : x = kap c) : (mI h (p + 1) i = x) = (X.1 i = c) := by
  have := pS_k m
  rw [this.1, kap_eq c this.2.1 hc hx]
theorem q_fail {D : Nat} {X : PX} {p i d : Nat} {s : RS} {h : mH} (m : pS h p X i d s) : ∃ H, mCall (D + 1) 101 [.ref p] h = some (.inl (some (.int 0)), H) ∧ kM H ∧ mI H p 18 = 1 ∧ mI H p 19 = X.2.2.1 i ∧ Fr [p, p + 2, p + 4] h H := by
  obtain ⟨k1, k2, k3, k4, k5, hk, hp⟩ := pS_k m
  refine ⟨_, m_fail hk hp k4 k3, ?_⟩
  have w2 : mI h (p + 3) = X.2.2.1 := m.2.2.2.2.2.1
  have en : (Int32.ofNat i).toNatClampNeg = i := i_of_n (by omega)
  unfold mFl
  refine ⟨?_, ?_, ?_, Fr_SI (Fr_SI Fr_refl (by simp)) (by simp)⟩
  · simp (maxDischargeDepth := 60) only [hk, hp, Option.bind_some, mAft_n, mAft_v, mAft_x, mS_n, mS_i, mS_r, mS_l, mS_d, ne_eq, not_false_eq_true, not_true_eq_false, true_or, or_true, and_true, true_and, if_true, if_false, ite_true, ite_false, reduceIte, Nat.reduceAdd, Nat.reduceLeDiff, Nat.reduceEqDiff, false_and, and_false, or_false, false_or, eq_self, reduceCtorEq, mi_316, mi_317, ml_317, mi_318, ml_318, mi_319, ml_319, mi_320, ml_320, mi_321, ml_321, mi_322, ml_322, mi_359, ml_359, mv_316_1, mv_316_4, mv_316_7, mv_316_8, mv_316_9, mv_316_10, mv_316_13, mv_316_14, mv_316_15, pi_0, pi_1, pl_1, pv_1, pi_2, pl_2, pv_2, pi_3, pl_3, pv_3, pi_4, pl_4, pv_4, pi_5, pl_5, pv_5, pi_6, pl_6, pv_10, pi_7, pl_7, pv_11, pi_8, pl_8, pv_12, pi_9, pl_9, pv_13, pi_10, pl_10, pv_14, pi_11, pl_11, pv_15, pv_20, wi_0, wi_1, wl_1, wv_14, wi_2, wl_2, wv_15, wi_3, wl_3, wv_16, wi_4, wl_4, wv_17, wi_5, wl_5, wv_18, wv_21, pt_P, pt_v, pt_w, pt_SI, pt_SL, kM_SI, kM_SL, lI_SL, lV_SL, lK_SL, lN_SL, lL_SL, lIs_SL, nI_SI, nV_SI, nK_SI, nN_SI, nL_SI, nIs_SI, pp_c, pp_l, pp_r, pp_k, pp_k0, pp_j, pp_j0, isl]
  · simp (maxDischargeDepth := 60) only [hk, hp, Option.bind_some, mAft_n, mAft_v, mAft_x, mS_n, mS_i, mS_r, mS_l, mS_d, ne_eq, not_false_eq_true, not_true_eq_false, true_or, or_true, and_true, true_and, if_true, if_false, ite_true, ite_false, reduceIte, Nat.reduceAdd, Nat.reduceLeDiff, Nat.reduceEqDiff, false_and, and_false, or_false, false_or, eq_self, reduceCtorEq, mi_316, mi_317, ml_317, mi_318, ml_318, mi_319, ml_319, mi_320, ml_320, mi_321, ml_321, mi_322, ml_322, mi_359, ml_359, mv_316_1, mv_316_4, mv_316_7, mv_316_8, mv_316_9, mv_316_10, mv_316_13, mv_316_14, mv_316_15, pi_0, pi_1, pl_1, pv_1, pi_2, pl_2, pv_2, pi_3, pl_3, pv_3, pi_4, pl_4, pv_4, pi_5, pl_5, pv_5, pi_6, pl_6, pv_10, pi_7, pl_7, pv_11, pi_8, pl_8, pv_12, pi_9, pl_9, pv_13, pi_10, pl_10, pv_14, pi_11, pl_11, pv_15, pv_20, wi_0, wi_1, wl_1, wv_14, wi_2, wl_2, wv_15, wi_3, wl_3, wv_16, wi_4, wl_4, wv_17, wi_5, wl_5, wv_18, wv_21, pt_P, pt_v, pt_w, pt_SI, pt_SL, kM_SI, kM_SL, lI_SL, lV_SL, lK_SL, lN_SL, lL_SL, lIs_SL, nI_SI, nV_SI, nK_SI, nN_SI, nL_SI, nIs_SI, pp_c, pp_l, pp_r, pp_k, pp_k0, pp_j, pp_j0, isl]
  · simp (maxDischargeDepth := 60) only [hk, hp, k4, en, w2, Option.bind_some, mAft_n, mAft_v, mAft_x, mS_n, mS_i, mS_r, mS_l, mS_d, ne_eq, not_false_eq_true, not_true_eq_false, true_or, or_true, and_true, true_and, if_true, if_false, ite_true, ite_false, reduceIte, Nat.reduceAdd, Nat.reduceLeDiff, Nat.reduceEqDiff, false_and, and_false, or_false, false_or, eq_self, reduceCtorEq, mi_316, mi_317, ml_317, mi_318, ml_318, mi_319, ml_319, mi_320, ml_320, mi_321, ml_321, mi_322, ml_322, mi_359, ml_359, mv_316_1, mv_316_4, mv_316_7, mv_316_8, mv_316_9, mv_316_10, mv_316_13, mv_316_14, mv_316_15, pi_0, pi_1, pl_1, pv_1, pi_2, pl_2, pv_2, pi_3, pl_3, pv_3, pi_4, pl_4, pv_4, pi_5, pl_5, pv_5, pi_6, pl_6, pv_10, pi_7, pl_7, pv_11, pi_8, pl_8, pv_12, pi_9, pl_9, pv_13, pi_10, pl_10, pv_14, pi_11, pl_11, pv_15, pv_20, wi_0, wi_1, wl_1, wv_14, wi_2, wl_2, wv_15, wi_3, wl_3, wv_16, wi_4, wl_4, wv_17, wi_5, wl_5, wv_18, wv_21, pt_P, pt_v, pt_w, pt_SI, pt_SL, kM_SI, kM_SL, lI_SL, lV_SL, lK_SL, lN_SL, lL_SL, lIs_SL, nI_SI, nV_SI, nK_SI, nN_SI, nL_SI, nIs_SI, pp_c, pp_l, pp_r, pp_k, pp_k0, pp_j, pp_j0, isl]
/-- one token further -/
theorem q_adv {X : PX} {p i d : Nat} {s : RS} {h : mH} (m : pS h p X i d s) (hc : X.1 i < 48) : pS (mSI h p 16 (Int32.ofNat (i + 1))) p X (i + 1) d s ∧ Fr [p, p + 2, p + 4] h (mSI h p 16 (Int32.ofNat (i + 1))) := by
  have f : Fr [p, p + 2, p + 4] h (mSI h p 16 (Int32.ofNat (i + 1))) := Fr_SI Fr_refl (by simp)
  have m0 := m
  obtain ⟨hk, hp, hX, hi, w1, w2, w3, w4, w5, w6, n1, n2, n3, a1, a2, a3, a4, a5, a6, a7⟩ := m
  refine ⟨pS_at m0 (by simp (maxDischargeDepth := 60) only [hk, Option.bind_some, mAft_n, mAft_v, mAft_x, mS_n, mS_i, mS_r, mS_l, mS_d, ne_eq, not_false_eq_true, not_true_eq_false, true_or, or_true, and_true, true_and, if_true, if_false, ite_true, ite_false, reduceIte, Nat.reduceAdd, Nat.reduceLeDiff, Nat.reduceEqDiff, false_and, and_false, or_false, false_or, eq_self, reduceCtorEq, mi_316, mi_317, ml_317, mi_318, ml_318, mi_319, ml_319, mi_320, ml_320, mi_321, ml_321, mi_322, ml_322, mi_359, ml_359, mv_316_1, mv_316_4, mv_316_7, mv_316_8, mv_316_9, mv_316_10, mv_316_13, mv_316_14, mv_316_15, pi_0, pi_1, pl_1, pv_1, pi_2, pl_2, pv_2, pi_3, pl_3, pv_3, pi_4, pl_4, pv_4, pi_5, pl_5, pv_5, pi_6, pl_6, pv_10, pi_7, pl_7, pv_11, pi_8, pl_8, pv_12, pi_9, pl_9, pv_13, pi_10, pl_10, pv_14, pi_11, pl_11, pv_15, pv_20, wi_0, wi_1, wl_1, wv_14, wi_2, wl_2, wv_15, wi_3, wl_3, wv_16, wi_4, wl_4, wv_17, wi_5, wl_5, wv_18, wv_21, pt_P, pt_v, pt_w, pt_SI, pt_SL, kM_SI, kM_SL, lI_SL, lV_SL, lK_SL, lN_SL, lL_SL, lIs_SL, nI_SI, nV_SI, nK_SI, nN_SI, nL_SI, nIs_SI, pp_c, pp_l, pp_r, pp_k, pp_k0, pp_j, pp_j0, isl]) f (pS_nx m0 hc) ?_ ?_ ?_ ?_ ?_ ?_ ?_, f⟩
  · intro q hq
    rw [nI_SI, if_neg (by omega)]
  · simp (maxDischargeDepth := 60) only [hk, Option.bind_some, mAft_n, mAft_v, mAft_x, mS_n, mS_i, mS_r, mS_l, mS_d, ne_eq, not_false_eq_true, not_true_eq_false, true_or, or_true, and_true, true_and, if_true, if_false, ite_true, ite_false, reduceIte, Nat.reduceAdd, Nat.reduceLeDiff, Nat.reduceEqDiff, false_and, and_false, or_false, false_or, eq_self, reduceCtorEq, mi_316, mi_317, ml_317, mi_318, ml_318, mi_319, ml_319, mi_320, ml_320, mi_321, ml_321, mi_322, ml_322, mi_359, ml_359, mv_316_1, mv_316_4, mv_316_7, mv_316_8, mv_316_9, mv_316_10, mv_316_13, mv_316_14, mv_316_15, pi_0, pi_1, pl_1, pv_1, pi_2, pl_2, pv_2, pi_3, pl_3, pv_3, pi_4, pl_4, pv_4, pi_5, pl_5, pv_5, pi_6, pl_6, pv_10, pi_7, pl_7, pv_11, pi_8, pl_8, pv_12, pi_9, pl_9, pv_13, pi_10, pl_10, pv_14, pi_11, pl_11, pv_15, pv_20, wi_0, wi_1, wl_1, wv_14, wi_2, wl_2, wv_15, wi_3, wl_3, wv_16, wi_4, wl_4, wv_17, wi_5, wl_5, wv_18, wv_21, pt_P, pt_v, pt_w, pt_SI, pt_SL, kM_SI, kM_SL, lI_SL, lV_SL, lK_SL, lN_SL, lL_SL, lIs_SL, nI_SI, nV_SI, nK_SI, nN_SI, nL_SI, nIs_SI, pp_c, pp_l, pp_r, pp_k, pp_k0, pp_j, pp_j0, isl]
  · simp (maxDischargeDepth := 60) only [hk, a2, Option.bind_some, mAft_n, mAft_v, mAft_x, mS_n, mS_i, mS_r, mS_l, mS_d, ne_eq, not_false_eq_true, not_true_eq_false, true_or, or_true, and_true, true_and, if_true, if_false, ite_true, ite_false, reduceIte, Nat.reduceAdd, Nat.reduceLeDiff, Nat.reduceEqDiff, false_and, and_false, or_false, false_or, eq_self, reduceCtorEq, mi_316, mi_317, ml_317, mi_318, ml_318, mi_319, ml_319, mi_320, ml_320, mi_321, ml_321, mi_322, ml_322, mi_359, ml_359, mv_316_1, mv_316_4, mv_316_7, mv_316_8, mv_316_9, mv_316_10, mv_316_13, mv_316_14, mv_316_15, pi_0, pi_1, pl_1, pv_1, pi_2, pl_2, pv_2, pi_3, pl_3, pv_3, pi_4, pl_4, pv_4, pi_5, pl_5, pv_5, pi_6, pl_6, pv_10, pi_7, pl_7, pv_11, pi_8, pl_8, pv_12, pi_9, pl_9, pv_13, pi_10, pl_10, pv_14, pi_11, pl_11, pv_15, pv_20, wi_0, wi_1, wl_1, wv_14, wi_2, wl_2, wv_15, wi_3, wl_3, wv_16, wi_4, wl_4, wv_17, wi_5, wl_5, wv_18, wv_21, pt_P, pt_v, pt_w, pt_SI, pt_SL, kM_SI, kM_SL, lI_SL, lV_SL, lK_SL, lN_SL, lL_SL, lIs_SL, nI_SI, nV_SI, nK_SI, nN_SI, nL_SI, nIs_SI, pp_c, pp_l, pp_r, pp_k, pp_k0, pp_j, pp_j0, isl]
  · simp (maxDischargeDepth := 60) only [hk, a3, Option.bind_some, mAft_n, mAft_v, mAft_x, mS_n, mS_i, mS_r, mS_l, mS_d, ne_eq, not_false_eq_true, not_true_eq_false, true_or, or_true, and_true, true_and, if_true, if_false, ite_true, ite_false, reduceIte, Nat.reduceAdd, Nat.reduceLeDiff, Nat.reduceEqDiff, false_and, and_false, or_false, false_or, eq_self, reduceCtorEq, mi_316, mi_317, ml_317, mi_318, ml_318, mi_319, ml_319, mi_320, ml_320, mi_321, ml_321, mi_322, ml_322, mi_359, ml_359, mv_316_1, mv_316_4, mv_316_7, mv_316_8, mv_316_9, mv_316_10, mv_316_13, mv_316_14, mv_316_15, pi_0, pi_1, pl_1, pv_1, pi_2, pl_2, pv_2, pi_3, pl_3, pv_3, pi_4, pl_4, pv_4, pi_5, pl_5, pv_5, pi_6, pl_6, pv_10, pi_7, pl_7, pv_11, pi_8, pl_8, pv_12, pi_9, pl_9, pv_13, pi_10, pl_10, pv_14, pi_11, pl_11, pv_15, pv_20, wi_0, wi_1, wl_1, wv_14, wi_2, wl_2, wv_15, wi_3, wl_3, wv_16, wi_4, wl_4, wv_17, wi_5, wl_5, wv_18, wv_21, pt_P, pt_v, pt_w, pt_SI, pt_SL, kM_SI, kM_SL, lI_SL, lV_SL, lK_SL, lN_SL, lL_SL, lIs_SL, nI_SI, nV_SI, nK_SI, nN_SI, nL_SI, nIs_SI, pp_c, pp_l, pp_r, pp_k, pp_k0, pp_j, pp_j0, isl]
  · simp (maxDischargeDepth := 60) only [hk, a4, Option.bind_some, mAft_n, mAft_v, mAft_x, mS_n, mS_i, mS_r, mS_l, mS_d, ne_eq, not_false_eq_true, not_true_eq_false, true_or, or_true, and_true, true_and, if_true, if_false, ite_true, ite_false, reduceIte, Nat.reduceAdd, Nat.reduceLeDiff, Nat.reduceEqDiff, false_and, and_false, or_false, false_or, eq_self, reduceCtorEq, mi_316, mi_317, ml_317, mi_318, ml_318, mi_319, ml_319, mi_320, ml_320, mi_321, ml_321, mi_322, ml_322, mi_359, ml_359, mv_316_1, mv_316_4, mv_316_7, mv_316_8, mv_316_9, mv_316_10, mv_316_13, mv_316_14, mv_316_15, pi_0, pi_1, pl_1, pv_1, pi_2, pl_2, pv_2, pi_3, pl_3, pv_3, pi_4, pl_4, pv_4, pi_5, pl_5, pv_5, pi_6, pl_6, pv_10, pi_7, pl_7, pv_11, pi_8, pl_8, pv_12, pi_9, pl_9, pv_13, pi_10, pl_10, pv_14, pi_11, pl_11, pv_15, pv_20, wi_0, wi_1, wl_1, wv_14, wi_2, wl_2, wv_15, wi_3, wl_3, wv_16, wi_4, wl_4, wv_17, wi_5, wl_5, wv_18, wv_21, pt_P, pt_v, pt_w, pt_SI, pt_SL, kM_SI, kM_SL, lI_SL, lV_SL, lK_SL, lN_SL, lL_SL, lIs_SL, nI_SI, nV_SI, nK_SI, nN_SI, nL_SI, nIs_SI, pp_c, pp_l, pp_r, pp_k, pp_k0, pp_j, pp_j0, isl]
  · funext q; rw [nI_SI, if_neg (by omega), a5]
  · funext q; rw [nI_SI, if_neg (by omega), a6]
theorem q_eat {D : Nat} {x : Int32} {X : PX} {p i d : Nat} {s : RS} {h : mH} (m : pS h p X i d s) (c : Nat) (hc : c < 48) (hx : x = kap c) :
    (X.1 i = c → ∃ H, mCall (D + 2) 102 [.ref p, .int x] h = some (.inl (some (.int 1)), H) ∧ pS H p X (i + 1) d s ∧ Fr [p, p + 2, p + 4] h H) ∧
    (¬ X.1 i = c → ∃ H, mCall (D + 2) 102 [.ref p, .int x] h = some (.inl (some (.int 0)), H) ∧ kM H ∧ mI H p 18 = 1 ∧ mI H p 19 = X.2.2.1 i ∧ Fr [p, p + 2, p + 4] h H) := by
  obtain ⟨k1, k2, k3, k4, k5, hk, hp⟩ := pS_k m
  have e := m_eat (d := D) (c := x) hk hp k4 k3
  have hcc := pS_c m c x (by omega) hx
  constructor
  · intro z
    rw [if_pos (Eq.mpr hcc z)] at e
    have a := q_adv m (by omega)
    exact ⟨_, e, a.1, a.2⟩
  · intro z
    rw [if_neg (fun y => z (Eq.mp hcc y))] at e
    obtain ⟨H, b1, b2⟩ := q_fail (D := D) m
    rw [m_fail hk hp k4 k3] at b1
    have hH : mFl h p = H := by
      have := Option.some.inj b1
      exact congrArg Prod.snd this
    rw [hH] at e
    exact ⟨H, e, b2⟩
theorem q_deep {D a : Nat} {X : PX} {p i : Nat} {s : RS} {h : mH} (m : pS h p X i (8 - a) s) (ha : a ≤ 8) (hc : X.1 i < 48) :
    (a = 0 → ∃ H, mCall (D + 2) 111 [.ref p] h = some (.inl (some (.int 0)), H) ∧ kM H ∧ mI H p 18 = 1 ∧ mI H p 19 = X.2.2.1 i ∧ Fr [p, p + 2, p + 4] h H) ∧
    (∀ a', a = a' + 1 → ∃ H, mCall (D + 2) 111 [.ref p] h = some (.inl (some (.int 1)), H) ∧ pS H p X (i + 1) (8 - a') s ∧ Fr [p, p + 2, p + 4] h H) := by
  obtain ⟨k1, k2, k3, k4, k5, hk, hp⟩ := pS_k m
  have e := m_deepen (d := D) hk hp k4 k3 k5 (by omega)
  constructor
  · intro z
    rw [if_pos (by omega)] at e
    obtain ⟨H, b1, b2⟩ := q_fail (D := D) m
    rw [m_fail hk hp k4 k3] at b1
    have hH : mFl h p = H := congrArg Prod.snd (Option.some.inj b1)
    rw [hH] at e
    exact ⟨H, e, b2⟩
  · intro a' z
    rw [if_neg (by omega)] at e
    have m0 := m
    obtain ⟨hk, hp, hX, hi, w1, w2, w3, w4, w5, w6, n1, n2, n3, a1, a2, a3, a4, a5, a6, a7⟩ := m
    have f : Fr [p, p + 2, p + 4] h (mSI (mSI h p 17 (Int32.ofNat (8 - a + 1))) p 16 (Int32.ofNat (i + 1))) := Fr_SI (Fr_SI Fr_refl (by simp)) (by simp)
    refine ⟨_, e, pS_at m0 (by simp (maxDischargeDepth := 60) only [hk, Option.bind_some, mAft_n, mAft_v, mAft_x, mS_n, mS_i, mS_r, mS_l, mS_d, ne_eq, not_false_eq_true, not_true_eq_false, true_or, or_true, and_true, true_and, if_true, if_false, ite_true, ite_false, reduceIte, Nat.reduceAdd, Nat.reduceLeDiff, Nat.reduceEqDiff, false_and, and_false, or_false, false_or, eq_self, reduceCtorEq, mi_316, mi_317, ml_317, mi_318, ml_318, mi_319, ml_319, mi_320, ml_320, mi_321, ml_321, mi_322, ml_322, mi_359, ml_359, mv_316_1, mv_316_4, mv_316_7, mv_316_8, mv_316_9, mv_316_10, mv_316_13, mv_316_14, mv_316_15, pi_0, pi_1, pl_1, pv_1, pi_2, pl_2, pv_2, pi_3, pl_3, pv_3, pi_4, pl_4, pv_4, pi_5, pl_5, pv_5, pi_6, pl_6, pv_10, pi_7, pl_7, pv_11, pi_8, pl_8, pv_12, pi_9, pl_9, pv_13, pi_10, pl_10, pv_14, pi_11, pl_11, pv_15, pv_20, wi_0, wi_1, wl_1, wv_14, wi_2, wl_2, wv_15, wi_3, wl_3, wv_16, wi_4, wl_4, wv_17, wi_5, wl_5, wv_18, wv_21, pt_P, pt_v, pt_w, pt_SI, pt_SL, kM_SI, kM_SL, lI_SL, lV_SL, lK_SL, lN_SL, lL_SL, lIs_SL, nI_SI, nV_SI, nK_SI, nN_SI, nL_SI, nIs_SI, pp_c, pp_l, pp_r, pp_k, pp_k0, pp_j, pp_j0, isl]) f (pS_nx m0 hc) ?_ ?_ ?_ ?_ ?_ ?_ ?_, f⟩
    · intro q hq
      rw [nI_SI, if_neg (by omega), nI_SI, if_neg (by omega)]
    · simp (maxDischargeDepth := 60) only [hk, Option.bind_some, mAft_n, mAft_v, mAft_x, mS_n, mS_i, mS_r, mS_l, mS_d, ne_eq, not_false_eq_true, not_true_eq_false, true_or, or_true, and_true, true_and, if_true, if_false, ite_true, ite_false, reduceIte, Nat.reduceAdd, Nat.reduceLeDiff, Nat.reduceEqDiff, false_and, and_false, or_false, false_or, eq_self, reduceCtorEq, mi_316, mi_317, ml_317, mi_318, ml_318, mi_319, ml_319, mi_320, ml_320, mi_321, ml_321, mi_322, ml_322, mi_359, ml_359, mv_316_1, mv_316_4, mv_316_7, mv_316_8, mv_316_9, mv_316_10, mv_316_13, mv_316_14, mv_316_15, pi_0, pi_1, pl_1, pv_1, pi_2, pl_2, pv_2, pi_3, pl_3, pv_3, pi_4, pl_4, pv_4, pi_5, pl_5, pv_5, pi_6, pl_6, pv_10, pi_7, pl_7, pv_11, pi_8, pl_8, pv_12, pi_9, pl_9, pv_13, pi_10, pl_10, pv_14, pi_11, pl_11, pv_15, pv_20, wi_0, wi_1, wl_1, wv_14, wi_2, wl_2, wv_15, wi_3, wl_3, wv_16, wi_4, wl_4, wv_17, wi_5, wl_5, wv_18, wv_21, pt_P, pt_v, pt_w, pt_SI, pt_SL, kM_SI, kM_SL, lI_SL, lV_SL, lK_SL, lN_SL, lL_SL, lIs_SL, nI_SI, nV_SI, nK_SI, nN_SI, nL_SI, nIs_SI, pp_c, pp_l, pp_r, pp_k, pp_k0, pp_j, pp_j0, isl]
    · rw [show 8 - a' = 8 - a + 1 by omega]
      simp (maxDischargeDepth := 60) only [hk, Option.bind_some, mAft_n, mAft_v, mAft_x, mS_n, mS_i, mS_r, mS_l, mS_d, ne_eq, not_false_eq_true, not_true_eq_false, true_or, or_true, and_true, true_and, if_true, if_false, ite_true, ite_false, reduceIte, Nat.reduceAdd, Nat.reduceLeDiff, Nat.reduceEqDiff, false_and, and_false, or_false, false_or, eq_self, reduceCtorEq, mi_316, mi_317, ml_317, mi_318, ml_318, mi_319, ml_319, mi_320, ml_320, mi_321, ml_321, mi_322, ml_322, mi_359, ml_359, mv_316_1, mv_316_4, mv_316_7, mv_316_8, mv_316_9, mv_316_10, mv_316_13, mv_316_14, mv_316_15, pi_0, pi_1, pl_1, pv_1, pi_2, pl_2, pv_2, pi_3, pl_3, pv_3, pi_4, pl_4, pv_4, pi_5, pl_5, pv_5, pi_6, pl_6, pv_10, pi_7, pl_7, pv_11, pi_8, pl_8, pv_12, pi_9, pl_9, pv_13, pi_10, pl_10, pv_14, pi_11, pl_11, pv_15, pv_20, wi_0, wi_1, wl_1, wv_14, wi_2, wl_2, wv_15, wi_3, wl_3, wv_16, wi_4, wl_4, wv_17, wi_5, wl_5, wv_18, wv_21, pt_P, pt_v, pt_w, pt_SI, pt_SL, kM_SI, kM_SL, lI_SL, lV_SL, lK_SL, lN_SL, lL_SL, lIs_SL, nI_SI, nV_SI, nK_SI, nN_SI, nL_SI, nIs_SI, pp_c, pp_l, pp_r, pp_k, pp_k0, pp_j, pp_j0, isl]
    · simp (maxDischargeDepth := 60) only [hk, a3, Option.bind_some, mAft_n, mAft_v, mAft_x, mS_n, mS_i, mS_r, mS_l, mS_d, ne_eq, not_false_eq_true, not_true_eq_false, true_or, or_true, and_true, true_and, if_true, if_false, ite_true, ite_false, reduceIte, Nat.reduceAdd, Nat.reduceLeDiff, Nat.reduceEqDiff, false_and, and_false, or_false, false_or, eq_self, reduceCtorEq, mi_316, mi_317, ml_317, mi_318, ml_318, mi_319, ml_319, mi_320, ml_320, mi_321, ml_321, mi_322, ml_322, mi_359, ml_359, mv_316_1, mv_316_4, mv_316_7, mv_316_8, mv_316_9, mv_316_10, mv_316_13, mv_316_14, mv_316_15, pi_0, pi_1, pl_1, pv_1, pi_2, pl_2, pv_2, pi_3, pl_3, pv_3, pi_4, pl_4, pv_4, pi_5, pl_5, pv_5, pi_6, pl_6, pv_10, pi_7, pl_7, pv_11, pi_8, pl_8, pv_12, pi_9, pl_9, pv_13, pi_10, pl_10, pv_14, pi_11, pl_11, pv_15, pv_20, wi_0, wi_1, wl_1, wv_14, wi_2, wl_2, wv_15, wi_3, wl_3, wv_16, wi_4, wl_4, wv_17, wi_5, wl_5, wv_18, wv_21, pt_P, pt_v, pt_w, pt_SI, pt_SL, kM_SI, kM_SL, lI_SL, lV_SL, lK_SL, lN_SL, lL_SL, lIs_SL, nI_SI, nV_SI, nK_SI, nN_SI, nL_SI, nIs_SI, pp_c, pp_l, pp_r, pp_k, pp_k0, pp_j, pp_j0, isl]
    · simp (maxDischargeDepth := 60) only [hk, a4, Option.bind_some, mAft_n, mAft_v, mAft_x, mS_n, mS_i, mS_r, mS_l, mS_d, ne_eq, not_false_eq_true, not_true_eq_false, true_or, or_true, and_true, true_and, if_true, if_false, ite_true, ite_false, reduceIte, Nat.reduceAdd, Nat.reduceLeDiff, Nat.reduceEqDiff, false_and, and_false, or_false, false_or, eq_self, reduceCtorEq, mi_316, mi_317, ml_317, mi_318, ml_318, mi_319, ml_319, mi_320, ml_320, mi_321, ml_321, mi_322, ml_322, mi_359, ml_359, mv_316_1, mv_316_4, mv_316_7, mv_316_8, mv_316_9, mv_316_10, mv_316_13, mv_316_14, mv_316_15, pi_0, pi_1, pl_1, pv_1, pi_2, pl_2, pv_2, pi_3, pl_3, pv_3, pi_4, pl_4, pv_4, pi_5, pl_5, pv_5, pi_6, pl_6, pv_10, pi_7, pl_7, pv_11, pi_8, pl_8, pv_12, pi_9, pl_9, pv_13, pi_10, pl_10, pv_14, pi_11, pl_11, pv_15, pv_20, wi_0, wi_1, wl_1, wv_14, wi_2, wl_2, wv_15, wi_3, wl_3, wv_16, wi_4, wl_4, wv_17, wi_5, wl_5, wv_18, wv_21, pt_P, pt_v, pt_w, pt_SI, pt_SL, kM_SI, kM_SL, lI_SL, lV_SL, lK_SL, lN_SL, lL_SL, lIs_SL, nI_SI, nV_SI, nK_SI, nN_SI, nL_SI, nIs_SI, pp_c, pp_l, pp_r, pp_k, pp_k0, pp_j, pp_j0, isl]
    · funext q; rw [nI_SI, if_neg (by omega), nI_SI, if_neg (by omega), a5]
    · funext q; rw [nI_SI, if_neg (by omega), nI_SI, if_neg (by omega), a6]
theorem q_rise {D a : Nat} {X : PX} {p i : Nat} {s : RS} {h : mH} (m : pS h p X i (8 - a) s) (ha : a + 1 ≤ 8) :
    ∃ H, mCall (D + 1) 112 [.ref p] h = some (.inl (some (.int 1)), H) ∧ pS H p X i (8 - (a + 1)) s ∧ Fr [p, p + 2, p + 4] h H := by
  obtain ⟨k1, k2, k3, k4, k5, hk, hp⟩ := pS_k m
  have e := m_rise (d := D) (dp := 8 - (a + 1)) hk hp (by rw [k5]; congr 1; omega) (by omega)
  have m0 := m
  obtain ⟨hk, hp, hX, hi, w1, w2, w3, w4, w5, w6, n1, n2, n3, a1, a2, a3, a4, a5, a6, a7⟩ := m
  have f : Fr [p, p + 2, p + 4] h (mSI h p 17 (Int32.ofNat (8 - (a + 1)))) := Fr_SI Fr_refl (by simp)
  refine ⟨_, e, pS_at m0 (by simp (maxDischargeDepth := 60) only [hk, Option.bind_some, mAft_n, mAft_v, mAft_x, mS_n, mS_i, mS_r, mS_l, mS_d, ne_eq, not_false_eq_true, not_true_eq_false, true_or, or_true, and_true, true_and, if_true, if_false, ite_true, ite_false, reduceIte, Nat.reduceAdd, Nat.reduceLeDiff, Nat.reduceEqDiff, false_and, and_false, or_false, false_or, eq_self, reduceCtorEq, mi_316, mi_317, ml_317, mi_318, ml_318, mi_319, ml_319, mi_320, ml_320, mi_321, ml_321, mi_322, ml_322, mi_359, ml_359, mv_316_1, mv_316_4, mv_316_7, mv_316_8, mv_316_9, mv_316_10, mv_316_13, mv_316_14, mv_316_15, pi_0, pi_1, pl_1, pv_1, pi_2, pl_2, pv_2, pi_3, pl_3, pv_3, pi_4, pl_4, pv_4, pi_5, pl_5, pv_5, pi_6, pl_6, pv_10, pi_7, pl_7, pv_11, pi_8, pl_8, pv_12, pi_9, pl_9, pv_13, pi_10, pl_10, pv_14, pi_11, pl_11, pv_15, pv_20, wi_0, wi_1, wl_1, wv_14, wi_2, wl_2, wv_15, wi_3, wl_3, wv_16, wi_4, wl_4, wv_17, wi_5, wl_5, wv_18, wv_21, pt_P, pt_v, pt_w, pt_SI, pt_SL, kM_SI, kM_SL, lI_SL, lV_SL, lK_SL, lN_SL, lL_SL, lIs_SL, nI_SI, nV_SI, nK_SI, nN_SI, nL_SI, nIs_SI, pp_c, pp_l, pp_r, pp_k, pp_k0, pp_j, pp_j0, isl]) f hi ?_ ?_ ?_ ?_ ?_ ?_ ?_, f⟩
  · intro q hq
    rw [nI_SI, if_neg (by omega)]
  · simp (maxDischargeDepth := 60) only [hk, a1, Option.bind_some, mAft_n, mAft_v, mAft_x, mS_n, mS_i, mS_r, mS_l, mS_d, ne_eq, not_false_eq_true, not_true_eq_false, true_or, or_true, and_true, true_and, if_true, if_false, ite_true, ite_false, reduceIte, Nat.reduceAdd, Nat.reduceLeDiff, Nat.reduceEqDiff, false_and, and_false, or_false, false_or, eq_self, reduceCtorEq, mi_316, mi_317, ml_317, mi_318, ml_318, mi_319, ml_319, mi_320, ml_320, mi_321, ml_321, mi_322, ml_322, mi_359, ml_359, mv_316_1, mv_316_4, mv_316_7, mv_316_8, mv_316_9, mv_316_10, mv_316_13, mv_316_14, mv_316_15, pi_0, pi_1, pl_1, pv_1, pi_2, pl_2, pv_2, pi_3, pl_3, pv_3, pi_4, pl_4, pv_4, pi_5, pl_5, pv_5, pi_6, pl_6, pv_10, pi_7, pl_7, pv_11, pi_8, pl_8, pv_12, pi_9, pl_9, pv_13, pi_10, pl_10, pv_14, pi_11, pl_11, pv_15, pv_20, wi_0, wi_1, wl_1, wv_14, wi_2, wl_2, wv_15, wi_3, wl_3, wv_16, wi_4, wl_4, wv_17, wi_5, wl_5, wv_18, wv_21, pt_P, pt_v, pt_w, pt_SI, pt_SL, kM_SI, kM_SL, lI_SL, lV_SL, lK_SL, lN_SL, lL_SL, lIs_SL, nI_SI, nV_SI, nK_SI, nN_SI, nL_SI, nIs_SI, pp_c, pp_l, pp_r, pp_k, pp_k0, pp_j, pp_j0, isl]
  · simp (maxDischargeDepth := 60) only [hk, Option.bind_some, mAft_n, mAft_v, mAft_x, mS_n, mS_i, mS_r, mS_l, mS_d, ne_eq, not_false_eq_true, not_true_eq_false, true_or, or_true, and_true, true_and, if_true, if_false, ite_true, ite_false, reduceIte, Nat.reduceAdd, Nat.reduceLeDiff, Nat.reduceEqDiff, false_and, and_false, or_false, false_or, eq_self, reduceCtorEq, mi_316, mi_317, ml_317, mi_318, ml_318, mi_319, ml_319, mi_320, ml_320, mi_321, ml_321, mi_322, ml_322, mi_359, ml_359, mv_316_1, mv_316_4, mv_316_7, mv_316_8, mv_316_9, mv_316_10, mv_316_13, mv_316_14, mv_316_15, pi_0, pi_1, pl_1, pv_1, pi_2, pl_2, pv_2, pi_3, pl_3, pv_3, pi_4, pl_4, pv_4, pi_5, pl_5, pv_5, pi_6, pl_6, pv_10, pi_7, pl_7, pv_11, pi_8, pl_8, pv_12, pi_9, pl_9, pv_13, pi_10, pl_10, pv_14, pi_11, pl_11, pv_15, pv_20, wi_0, wi_1, wl_1, wv_14, wi_2, wl_2, wv_15, wi_3, wl_3, wv_16, wi_4, wl_4, wv_17, wi_5, wl_5, wv_18, wv_21, pt_P, pt_v, pt_w, pt_SI, pt_SL, kM_SI, kM_SL, lI_SL, lV_SL, lK_SL, lN_SL, lL_SL, lIs_SL, nI_SI, nV_SI, nK_SI, nN_SI, nL_SI, nIs_SI, pp_c, pp_l, pp_r, pp_k, pp_k0, pp_j, pp_j0, isl]
  · simp (maxDischargeDepth := 60) only [hk, a3, Option.bind_some, mAft_n, mAft_v, mAft_x, mS_n, mS_i, mS_r, mS_l, mS_d, ne_eq, not_false_eq_true, not_true_eq_false, true_or, or_true, and_true, true_and, if_true, if_false, ite_true, ite_false, reduceIte, Nat.reduceAdd, Nat.reduceLeDiff, Nat.reduceEqDiff, false_and, and_false, or_false, false_or, eq_self, reduceCtorEq, mi_316, mi_317, ml_317, mi_318, ml_318, mi_319, ml_319, mi_320, ml_320, mi_321, ml_321, mi_322, ml_322, mi_359, ml_359, mv_316_1, mv_316_4, mv_316_7, mv_316_8, mv_316_9, mv_316_10, mv_316_13, mv_316_14, mv_316_15, pi_0, pi_1, pl_1, pv_1, pi_2, pl_2, pv_2, pi_3, pl_3, pv_3, pi_4, pl_4, pv_4, pi_5, pl_5, pv_5, pi_6, pl_6, pv_10, pi_7, pl_7, pv_11, pi_8, pl_8, pv_12, pi_9, pl_9, pv_13, pi_10, pl_10, pv_14, pi_11, pl_11, pv_15, pv_20, wi_0, wi_1, wl_1, wv_14, wi_2, wl_2, wv_15, wi_3, wl_3, wv_16, wi_4, wl_4, wv_17, wi_5, wl_5, wv_18, wv_21, pt_P, pt_v, pt_w, pt_SI, pt_SL, kM_SI, kM_SL, lI_SL, lV_SL, lK_SL, lN_SL, lL_SL, lIs_SL, nI_SI, nV_SI, nK_SI, nN_SI, nL_SI, nIs_SI, pp_c, pp_l, pp_r, pp_k, pp_k0, pp_j, pp_j0, isl]
  · simp (maxDischargeDepth := 60) only [hk, a4, Option.bind_some, mAft_n, mAft_v, mAft_x, mS_n, mS_i, mS_r, mS_l, mS_d, ne_eq, not_false_eq_true, not_true_eq_false, true_or, or_true, and_true, true_and, if_true, if_false, ite_true, ite_false, reduceIte, Nat.reduceAdd, Nat.reduceLeDiff, Nat.reduceEqDiff, false_and, and_false, or_false, false_or, eq_self, reduceCtorEq, mi_316, mi_317, ml_317, mi_318, ml_318, mi_319, ml_319, mi_320, ml_320, mi_321, ml_321, mi_322, ml_322, mi_359, ml_359, mv_316_1, mv_316_4, mv_316_7, mv_316_8, mv_316_9, mv_316_10, mv_316_13, mv_316_14, mv_316_15, pi_0, pi_1, pl_1, pv_1, pi_2, pl_2, pv_2, pi_3, pl_3, pv_3, pi_4, pl_4, pv_4, pi_5, pl_5, pv_5, pi_6, pl_6, pv_10, pi_7, pl_7, pv_11, pi_8, pl_8, pv_12, pi_9, pl_9, pv_13, pi_10, pl_10, pv_14, pi_11, pl_11, pv_15, pv_20, wi_0, wi_1, wl_1, wv_14, wi_2, wl_2, wv_15, wi_3, wl_3, wv_16, wi_4, wl_4, wv_17, wi_5, wl_5, wv_18, wv_21, pt_P, pt_v, pt_w, pt_SI, pt_SL, kM_SI, kM_SL, lI_SL, lV_SL, lK_SL, lN_SL, lL_SL, lIs_SL, nI_SI, nV_SI, nK_SI, nN_SI, nL_SI, nIs_SI, pp_c, pp_l, pp_r, pp_k, pp_k0, pp_j, pp_j0, isl]
  · funext q; rw [nI_SI, if_neg (by omega), a5]
  · funext q; rw [nI_SI, if_neg (by omega), a6]
/-- an error of the token behind which one is -/
theorem q_mean {D : Nat} {b : Bool} {n : Int32} {X : PX} {p i d : Nat} {s : RS} {h : mH} (m : pS h p X (i + 1) d s) :
    ∃ H, mCall (D + 1) 104 [.ref p, .int (bz b), .int n] h = some (.inl none, H) ∧ pS H p X (i + 1) d (sMn X s i b n) ∧ Fr [p, p + 2, p + 4] h H := by
  obtain ⟨k1, k2, k3, k4, k5, hk, hp⟩ := pS_k m
  have e := m_mean (d := D) (b := b) (n := n) hk hp k4 k3 (by omega)
  have m0 := m
  obtain ⟨hk, hp, hX, hi, w1, w2, w3, w4, w5, w6, n1, n2, n3, a1, a2, a3, a4, a5, a6, a7⟩ := m
  unfold mMn at e
  unfold sMn
  rw [a3] at e
  by_cases c : b = true ∧ s.1 = 0
  · rw [if_pos c] at e ⊢
    have f : Fr [p, p + 2, p + 4] h (mSI (mSI h p 18 n) p 19 (mI h (p + 3) (i + 1 - 1))) := Fr_SI (Fr_SI Fr_refl (by simp)) (by simp)
    refine ⟨_, e, pS_at m0 (by simp (maxDischargeDepth := 60) only [hk, Option.bind_some, mAft_n, mAft_v, mAft_x, mS_n, mS_i, mS_r, mS_l, mS_d, ne_eq, not_false_eq_true, not_true_eq_false, true_or, or_true, and_true, true_and, if_true, if_false, ite_true, ite_false, reduceIte, Nat.reduceAdd, Nat.reduceLeDiff, Nat.reduceEqDiff, false_and, and_false, or_false, false_or, eq_self, reduceCtorEq, mi_316, mi_317, ml_317, mi_318, ml_318, mi_319, ml_319, mi_320, ml_320, mi_321, ml_321, mi_322, ml_322, mi_359, ml_359, mv_316_1, mv_316_4, mv_316_7, mv_316_8, mv_316_9, mv_316_10, mv_316_13, mv_316_14, mv_316_15, pi_0, pi_1, pl_1, pv_1, pi_2, pl_2, pv_2, pi_3, pl_3, pv_3, pi_4, pl_4, pv_4, pi_5, pl_5, pv_5, pi_6, pl_6, pv_10, pi_7, pl_7, pv_11, pi_8, pl_8, pv_12, pi_9, pl_9, pv_13, pi_10, pl_10, pv_14, pi_11, pl_11, pv_15, pv_20, wi_0, wi_1, wl_1, wv_14, wi_2, wl_2, wv_15, wi_3, wl_3, wv_16, wi_4, wl_4, wv_17, wi_5, wl_5, wv_18, wv_21, pt_P, pt_v, pt_w, pt_SI, pt_SL, kM_SI, kM_SL, lI_SL, lV_SL, lK_SL, lN_SL, lL_SL, lIs_SL, nI_SI, nV_SI, nK_SI, nN_SI, nL_SI, nIs_SI, pp_c, pp_l, pp_r, pp_k, pp_k0, pp_j, pp_j0, isl]) f hi ?_ ?_ ?_ ?_ ?_ ?_ ?_, f⟩
    · intro q hq
      rw [nI_SI, if_neg (by omega), nI_SI, if_neg (by omega)]
    · simp (maxDischargeDepth := 60) only [hk, a1, Option.bind_some, mAft_n, mAft_v, mAft_x, mS_n, mS_i, mS_r, mS_l, mS_d, ne_eq, not_false_eq_true, not_true_eq_false, true_or, or_true, and_true, true_and, if_true, if_false, ite_true, ite_false, reduceIte, Nat.reduceAdd, Nat.reduceLeDiff, Nat.reduceEqDiff, false_and, and_false, or_false, false_or, eq_self, reduceCtorEq, mi_316, mi_317, ml_317, mi_318, ml_318, mi_319, ml_319, mi_320, ml_320, mi_321, ml_321, mi_322, ml_322, mi_359, ml_359, mv_316_1, mv_316_4, mv_316_7, mv_316_8, mv_316_9, mv_316_10, mv_316_13, mv_316_14, mv_316_15, pi_0, pi_1, pl_1, pv_1, pi_2, pl_2, pv_2, pi_3, pl_3, pv_3, pi_4, pl_4, pv_4, pi_5, pl_5, pv_5, pi_6, pl_6, pv_10, pi_7, pl_7, pv_11, pi_8, pl_8, pv_12, pi_9, pl_9, pv_13, pi_10, pl_10, pv_14, pi_11, pl_11, pv_15, pv_20, wi_0, wi_1, wl_1, wv_14, wi_2, wl_2, wv_15, wi_3, wl_3, wv_16, wi_4, wl_4, wv_17, wi_5, wl_5, wv_18, wv_21, pt_P, pt_v, pt_w, pt_SI, pt_SL, kM_SI, kM_SL, lI_SL, lV_SL, lK_SL, lN_SL, lL_SL, lIs_SL, nI_SI, nV_SI, nK_SI, nN_SI, nL_SI, nIs_SI, pp_c, pp_l, pp_r, pp_k, pp_k0, pp_j, pp_j0, isl]
    · simp (maxDischargeDepth := 60) only [hk, a2, Option.bind_some, mAft_n, mAft_v, mAft_x, mS_n, mS_i, mS_r, mS_l, mS_d, ne_eq, not_false_eq_true, not_true_eq_false, true_or, or_true, and_true, true_and, if_true, if_false, ite_true, ite_false, reduceIte, Nat.reduceAdd, Nat.reduceLeDiff, Nat.reduceEqDiff, false_and, and_false, or_false, false_or, eq_self, reduceCtorEq, mi_316, mi_317, ml_317, mi_318, ml_318, mi_319, ml_319, mi_320, ml_320, mi_321, ml_321, mi_322, ml_322, mi_359, ml_359, mv_316_1, mv_316_4, mv_316_7, mv_316_8, mv_316_9, mv_316_10, mv_316_13, mv_316_14, mv_316_15, pi_0, pi_1, pl_1, pv_1, pi_2, pl_2, pv_2, pi_3, pl_3, pv_3, pi_4, pl_4, pv_4, pi_5, pl_5, pv_5, pi_6, pl_6, pv_10, pi_7, pl_7, pv_11, pi_8, pl_8, pv_12, pi_9, pl_9, pv_13, pi_10, pl_10, pv_14, pi_11, pl_11, pv_15, pv_20, wi_0, wi_1, wl_1, wv_14, wi_2, wl_2, wv_15, wi_3, wl_3, wv_16, wi_4, wl_4, wv_17, wi_5, wl_5, wv_18, wv_21, pt_P, pt_v, pt_w, pt_SI, pt_SL, kM_SI, kM_SL, lI_SL, lV_SL, lK_SL, lN_SL, lL_SL, lIs_SL, nI_SI, nV_SI, nK_SI, nN_SI, nL_SI, nIs_SI, pp_c, pp_l, pp_r, pp_k, pp_k0, pp_j, pp_j0, isl]
    · simp (maxDischargeDepth := 60) only [hk, Option.bind_some, mAft_n, mAft_v, mAft_x, mS_n, mS_i, mS_r, mS_l, mS_d, ne_eq, not_false_eq_true, not_true_eq_false, true_or, or_true, and_true, true_and, if_true, if_false, ite_true, ite_false, reduceIte, Nat.reduceAdd, Nat.reduceLeDiff, Nat.reduceEqDiff, false_and, and_false, or_false, false_or, eq_self, reduceCtorEq, mi_316, mi_317, ml_317, mi_318, ml_318, mi_319, ml_319, mi_320, ml_320, mi_321, ml_321, mi_322, ml_322, mi_359, ml_359, mv_316_1, mv_316_4, mv_316_7, mv_316_8, mv_316_9, mv_316_10, mv_316_13, mv_316_14, mv_316_15, pi_0, pi_1, pl_1, pv_1, pi_2, pl_2, pv_2, pi_3, pl_3, pv_3, pi_4, pl_4, pv_4, pi_5, pl_5, pv_5, pi_6, pl_6, pv_10, pi_7, pl_7, pv_11, pi_8, pl_8, pv_12, pi_9, pl_9, pv_13, pi_10, pl_10, pv_14, pi_11, pl_11, pv_15, pv_20, wi_0, wi_1, wl_1, wv_14, wi_2, wl_2, wv_15, wi_3, wl_3, wv_16, wi_4, wl_4, wv_17, wi_5, wl_5, wv_18, wv_21, pt_P, pt_v, pt_w, pt_SI, pt_SL, kM_SI, kM_SL, lI_SL, lV_SL, lK_SL, lN_SL, lL_SL, lIs_SL, nI_SI, nV_SI, nK_SI, nN_SI, nL_SI, nIs_SI, pp_c, pp_l, pp_r, pp_k, pp_k0, pp_j, pp_j0, isl]
    · rw [nI_SI, if_pos ⟨rfl, rfl⟩, w2]; rfl
    · funext q; rw [nI_SI, if_neg (by omega), nI_SI, if_neg (by omega), a5]
    · funext q; rw [nI_SI, if_neg (by omega), nI_SI, if_neg (by omega), a6]
  · rw [if_neg c] at e ⊢
    exact ⟨h, e, m0, Fr_refl⟩
theorem fnL_1 {f : Nat → Int64} {w : Int64} : ∀ (n k : Nat), k + n ≤ 1000 → (fnL f w n k = -1 ∨ ∃ j, j < k + n ∧ fnL f w n k = Int32.ofNat j) := by
  intro n
  induction n with
  | zero => intro k h; exact Or.inl rfl
  | succ n ih =>
    intro k h
    rw [fnL]
    split
    · exact Or.inr ⟨k, by omega, rfl⟩
    · rcases ih (k + 1) (by omega) with z | ⟨j, z1, z2⟩
      · exact Or.inl z
      · exact Or.inr ⟨j, by omega, z2⟩
/-- a name told ahead -/
theorem q_old {D n t : Nat} {R : Nat → Int64} {X : PX} {p i d : Nat} {s : RS} {h : mH} (m : pS h p X i d s) (ht : mIs h t 101 = true) (hn : n ≤ (mK h t).2) (hl : (mK h t).2 ≤ 1000) (hR : mL h t = R) :
    (X.1 i = 29 → ∃ H, mCall (D + 3) 107 [.ref p, .ref t, .int (Int32.ofNat n)] h = some (.inl (some (.int 1)), H) ∧ pS H p X (i + 1) d (sNm X s i (fnL R (X.2.2.2.1 i) n 0)) ∧ Fr [p, p + 2, p + 4] h H) ∧
    (¬ X.1 i = 29 → ∃ H, mCall (D + 3) 107 [.ref p, .ref t, .int (Int32.ofNat n)] h = some (.inl (some (.int 0)), H) ∧ kM H ∧ mI H p 18 = 1 ∧ mI H p 19 = X.2.2.1 i ∧ Fr [p, p + 2, p + 4] h H) := by
  have eat := q_eat (D := D) m 29 (by decide) (show (200 : Int32) = kap 29 by decide)
  have z0 : (0 : Int32) = 0 ∨ (0 : Int32) = 1 := Or.inl rfl
  have z1 : (1 : Int32) = 0 ∨ (1 : Int32) = 1 := Or.inr rfl
  have n10 : ¬ (1 : Int32) = 0 := by decide
  have hk := m.1
  have hp := m.2.1
  constructor
  · intro c
    obtain ⟨H, a1, a2, a3⟩ := eat.1 c
    obtain ⟨k1, k2, k3, k4, k5, hkH, _⟩ := pS_k a2
    have e1 : Int32.ofNat (i + 1) - 1 = Int32.ofNat i := by rw [show (1 : Int32) = Int32.ofNat 1 from rfl, i_subof (by omega)]; rfl
    have hj : mIn (Int32.ofNat i) 402 = true := i_in (by rw [i_of_i (by omega)]; omega) (by rw [i_of_i (by omega)]; omega)
    have en : (Int32.ofNat i).toNatClampNeg = i := i_of_n (by omega)
    have ew : mL H (p + 5) = X.2.2.2.1 := a2.2.2.2.2.2.2.1
    have eLh : mL H = mL h := congrArg (fun q => q.1) a3.1
    have eLt : mL H t = R := by rw [eLh]; exact hR
    have eKt : mK H = mK h := Fr_K a3
    have ef := m_find (d := D + 1) (h := H) (a := t) (n := n) (w := X.2.2.2.1 i) (by rw [Fr_is a3]; exact ht) (by rw [eKt]; exact hn) (by rw [eKt]; exact hl)
    rw [eLt] at ef
    generalize hx : fnL R (X.2.2.2.1 i) n 0 = x at ef ⊢
    have fV : Fr [p, p + 2, p + 4] H (mSI H (p + 2) i x) := Fr_SI Fr_refl (by simp)
    have mV' : pS (mSI H (p + 2) i x) p X (i + 1) d (sV s i x) := by
      have m0 := a2
      obtain ⟨hk, hp, hX, hi, w1, w2, w3, w4, w5, w6, n1, n2, n3, a1, a2, a3, a4, a5, a6, a7⟩ := a2
      refine pS_at m0 (by simp (maxDischargeDepth := 60) only [hk, Option.bind_some, mAft_n, mAft_v, mAft_x, mS_n, mS_i, mS_r, mS_l, mS_d, ne_eq, not_false_eq_true, not_true_eq_false, true_or, or_true, and_true, true_and, if_true, if_false, ite_true, ite_false, reduceIte, Nat.reduceAdd, Nat.reduceLeDiff, Nat.reduceEqDiff, false_and, and_false, or_false, false_or, eq_self, reduceCtorEq, mi_316, mi_317, ml_317, mi_318, ml_318, mi_319, ml_319, mi_320, ml_320, mi_321, ml_321, mi_322, ml_322, mi_359, ml_359, mv_316_1, mv_316_4, mv_316_7, mv_316_8, mv_316_9, mv_316_10, mv_316_13, mv_316_14, mv_316_15, pi_0, pi_1, pl_1, pv_1, pi_2, pl_2, pv_2, pi_3, pl_3, pv_3, pi_4, pl_4, pv_4, pi_5, pl_5, pv_5, pi_6, pl_6, pv_10, pi_7, pl_7, pv_11, pi_8, pl_8, pv_12, pi_9, pl_9, pv_13, pi_10, pl_10, pv_14, pi_11, pl_11, pv_15, pv_20, wi_0, wi_1, wl_1, wv_14, wi_2, wl_2, wv_15, wi_3, wl_3, wv_16, wi_4, wl_4, wv_17, wi_5, wl_5, wv_18, wv_21, pt_P, pt_v, pt_w, pt_SI, pt_SL, kM_SI, kM_SL, lI_SL, lV_SL, lK_SL, lN_SL, lL_SL, lIs_SL, nI_SI, nV_SI, nK_SI, nN_SI, nL_SI, nIs_SI, pp_c, pp_l, pp_r, pp_k, pp_k0, pp_j, pp_j0, isl]) fV hi ?_ ?_ ?_ ?_ ?_ ?_ ?_
      · intro q hq
        rw [nI_SI, if_neg (by omega)]
      · simp (maxDischargeDepth := 60) only [hk, hp, a1, Option.bind_some, mAft_n, mAft_v, mAft_x, mS_n, mS_i, mS_r, mS_l, mS_d, ne_eq, not_false_eq_true, not_true_eq_false, true_or, or_true, and_true, true_and, if_true, if_false, ite_true, ite_false, reduceIte, Nat.reduceAdd, Nat.reduceLeDiff, Nat.reduceEqDiff, false_and, and_false, or_false, false_or, eq_self, reduceCtorEq, mi_316, mi_317, ml_317, mi_318, ml_318, mi_319, ml_319, mi_320, ml_320, mi_321, ml_321, mi_322, ml_322, mi_359, ml_359, mv_316_1, mv_316_4, mv_316_7, mv_316_8, mv_316_9, mv_316_10, mv_316_13, mv_316_14, mv_316_15, pi_0, pi_1, pl_1, pv_1, pi_2, pl_2, pv_2, pi_3, pl_3, pv_3, pi_4, pl_4, pv_4, pi_5, pl_5, pv_5, pi_6, pl_6, pv_10, pi_7, pl_7, pv_11, pi_8, pl_8, pv_12, pi_9, pl_9, pv_13, pi_10, pl_10, pv_14, pi_11, pl_11, pv_15, pv_20, wi_0, wi_1, wl_1, wv_14, wi_2, wl_2, wv_15, wi_3, wl_3, wv_16, wi_4, wl_4, wv_17, wi_5, wl_5, wv_18, wv_21, pt_P, pt_v, pt_w, pt_SI, pt_SL, kM_SI, kM_SL, lI_SL, lV_SL, lK_SL, lN_SL, lL_SL, lIs_SL, nI_SI, nV_SI, nK_SI, nN_SI, nL_SI, nIs_SI, pp_c, pp_l, pp_r, pp_k, pp_k0, pp_j, pp_j0, isl]
      · simp (maxDischargeDepth := 60) only [hk, hp, a2, Option.bind_some, mAft_n, mAft_v, mAft_x, mS_n, mS_i, mS_r, mS_l, mS_d, ne_eq, not_false_eq_true, not_true_eq_false, true_or, or_true, and_true, true_and, if_true, if_false, ite_true, ite_false, reduceIte, Nat.reduceAdd, Nat.reduceLeDiff, Nat.reduceEqDiff, false_and, and_false, or_false, false_or, eq_self, reduceCtorEq, mi_316, mi_317, ml_317, mi_318, ml_318, mi_319, ml_319, mi_320, ml_320, mi_321, ml_321, mi_322, ml_322, mi_359, ml_359, mv_316_1, mv_316_4, mv_316_7, mv_316_8, mv_316_9, mv_316_10, mv_316_13, mv_316_14, mv_316_15, pi_0, pi_1, pl_1, pv_1, pi_2, pl_2, pv_2, pi_3, pl_3, pv_3, pi_4, pl_4, pv_4, pi_5, pl_5, pv_5, pi_6, pl_6, pv_10, pi_7, pl_7, pv_11, pi_8, pl_8, pv_12, pi_9, pl_9, pv_13, pi_10, pl_10, pv_14, pi_11, pl_11, pv_15, pv_20, wi_0, wi_1, wl_1, wv_14, wi_2, wl_2, wv_15, wi_3, wl_3, wv_16, wi_4, wl_4, wv_17, wi_5, wl_5, wv_18, wv_21, pt_P, pt_v, pt_w, pt_SI, pt_SL, kM_SI, kM_SL, lI_SL, lV_SL, lK_SL, lN_SL, lL_SL, lIs_SL, nI_SI, nV_SI, nK_SI, nN_SI, nL_SI, nIs_SI, pp_c, pp_l, pp_r, pp_k, pp_k0, pp_j, pp_j0, isl]
      · simp (maxDischargeDepth := 60) only [hk, hp, a3, Option.bind_some, mAft_n, mAft_v, mAft_x, mS_n, mS_i, mS_r, mS_l, mS_d, ne_eq, not_false_eq_true, not_true_eq_false, true_or, or_true, and_true, true_and, if_true, if_false, ite_true, ite_false, reduceIte, Nat.reduceAdd, Nat.reduceLeDiff, Nat.reduceEqDiff, false_and, and_false, or_false, false_or, eq_self, reduceCtorEq, mi_316, mi_317, ml_317, mi_318, ml_318, mi_319, ml_319, mi_320, ml_320, mi_321, ml_321, mi_322, ml_322, mi_359, ml_359, mv_316_1, mv_316_4, mv_316_7, mv_316_8, mv_316_9, mv_316_10, mv_316_13, mv_316_14, mv_316_15, pi_0, pi_1, pl_1, pv_1, pi_2, pl_2, pv_2, pi_3, pl_3, pv_3, pi_4, pl_4, pv_4, pi_5, pl_5, pv_5, pi_6, pl_6, pv_10, pi_7, pl_7, pv_11, pi_8, pl_8, pv_12, pi_9, pl_9, pv_13, pi_10, pl_10, pv_14, pi_11, pl_11, pv_15, pv_20, wi_0, wi_1, wl_1, wv_14, wi_2, wl_2, wv_15, wi_3, wl_3, wv_16, wi_4, wl_4, wv_17, wi_5, wl_5, wv_18, wv_21, pt_P, pt_v, pt_w, pt_SI, pt_SL, kM_SI, kM_SL, lI_SL, lV_SL, lK_SL, lN_SL, lL_SL, lIs_SL, nI_SI, nV_SI, nK_SI, nN_SI, nL_SI, nIs_SI, pp_c, pp_l, pp_r, pp_k, pp_k0, pp_j, pp_j0, isl]; rfl
      · simp (maxDischargeDepth := 60) only [hk, hp, a4, Option.bind_some, mAft_n, mAft_v, mAft_x, mS_n, mS_i, mS_r, mS_l, mS_d, ne_eq, not_false_eq_true, not_true_eq_false, true_or, or_true, and_true, true_and, if_true, if_false, ite_true, ite_false, reduceIte, Nat.reduceAdd, Nat.reduceLeDiff, Nat.reduceEqDiff, false_and, and_false, or_false, false_or, eq_self, reduceCtorEq, mi_316, mi_317, ml_317, mi_318, ml_318, mi_319, ml_319, mi_320, ml_320, mi_321, ml_321, mi_322, ml_322, mi_359, ml_359, mv_316_1, mv_316_4, mv_316_7, mv_316_8, mv_316_9, mv_316_10, mv_316_13, mv_316_14, mv_316_15, pi_0, pi_1, pl_1, pv_1, pi_2, pl_2, pv_2, pi_3, pl_3, pv_3, pi_4, pl_4, pv_4, pi_5, pl_5, pv_5, pi_6, pl_6, pv_10, pi_7, pl_7, pv_11, pi_8, pl_8, pv_12, pi_9, pl_9, pv_13, pi_10, pl_10, pv_14, pi_11, pl_11, pv_15, pv_20, wi_0, wi_1, wl_1, wv_14, wi_2, wl_2, wv_15, wi_3, wl_3, wv_16, wi_4, wl_4, wv_17, wi_5, wl_5, wv_18, wv_21, pt_P, pt_v, pt_w, pt_SI, pt_SL, kM_SI, kM_SL, lI_SL, lV_SL, lK_SL, lN_SL, lL_SL, lIs_SL, nI_SI, nV_SI, nK_SI, nN_SI, nL_SI, nIs_SI, pp_c, pp_l, pp_r, pp_k, pp_k0, pp_j, pp_j0, isl]; rfl
      · funext q
        rw [nI_SI]
        unfold sV
        by_cases z : q = i
        · simp only [z, and_self, if_true]
        · simp only [z, and_false, if_false]; rw [a5]
      · funext q; rw [nI_SI, if_neg (by omega), a6]; rfl
    obtain ⟨H2, b1, b2, b3⟩ := q_mean (D := D + 1) (b := decide (x = -1)) (n := 3) mV'
    refine ⟨H2, ?_, b2, Fr_trans a3 (Fr_trans fV b3)⟩
    by_cases cx : x = -1
    · rw [decide_eq_true cx] at b1
      have b1' : mCall (D + 2) 104 [.ref p, .int 1, .int 3] (mSI H (p + 2) i x) = some (.inl none, H2) := b1
      have cx' := eq_true cx
      simp (maxDischargeDepth := 60) only [hk, x_107_0, x_107_1, x_107_4, x_107_7, x_107_10, x_107_11, x_107_12, x_107_13, x_107_16, x_107_17, x_107_20, x_107_21, x_107_22, x_107_23, x_107_24, x_107_25, x_107_28, x_107_29, x_107_32, x_107_33, x_107_34, x_107_35, x_107_38, x_107_39, x_107_40, x_107_41, x_107_44, x_107_45, x_107_48, x_107_49, x_107_50, x_107_51, x_107_52, x_107_55, x_107_56, x_107_59, x_107_60, x_107_61, x_107_64, x_107_65, c_107, hp, a1, hkH, n10, k4, e1, hj, en, ew, ef, cx', b1', z1, Option.bind_some, mAft_n, mAft_v, mAft_x, mS_n, mS_i, mS_r, mS_l, mS_d, ne_eq, not_false_eq_true, not_true_eq_false, true_or, or_true, and_true, true_and, if_true, if_false, ite_true, ite_false, reduceIte, Nat.reduceAdd, Nat.reduceLeDiff, Nat.reduceEqDiff, false_and, and_false, or_false, false_or, eq_self, reduceCtorEq, mi_316, mi_317, ml_317, mi_318, ml_318, mi_319, ml_319, mi_320, ml_320, mi_321, ml_321, mi_322, ml_322, mi_359, ml_359, mv_316_1, mv_316_4, mv_316_7, mv_316_8, mv_316_9, mv_316_10, mv_316_13, mv_316_14, mv_316_15, pi_0, pi_1, pl_1, pv_1, pi_2, pl_2, pv_2, pi_3, pl_3, pv_3, pi_4, pl_4, pv_4, pi_5, pl_5, pv_5, pi_6, pl_6, pv_10, pi_7, pl_7, pv_11, pi_8, pl_8, pv_12, pi_9, pl_9, pv_13, pi_10, pl_10, pv_14, pi_11, pl_11, pv_15, pv_20, wi_0, wi_1, wl_1, wv_14, wi_2, wl_2, wv_15, wi_3, wl_3, wv_16, wi_4, wl_4, wv_17, wi_5, wl_5, wv_18, wv_21, pt_P, pt_v, pt_w, pt_SI, pt_SL, kM_SI, kM_SL, lI_SL, lV_SL, lK_SL, lN_SL, lL_SL, lIs_SL, nI_SI, nV_SI, nK_SI, nN_SI, nL_SI, nIs_SI, pp_c, pp_l, pp_r, pp_k, pp_k0, pp_j, pp_j0, isl]
    · rw [decide_eq_false cx] at b1
      have b1' : mCall (D + 2) 104 [.ref p, .int 0, .int 3] (mSI H (p + 2) i x) = some (.inl none, H2) := b1
      simp (maxDischargeDepth := 60) only [hk, x_107_0, x_107_1, x_107_4, x_107_7, x_107_10, x_107_11, x_107_12, x_107_13, x_107_16, x_107_17, x_107_20, x_107_21, x_107_22, x_107_23, x_107_24, x_107_25, x_107_28, x_107_29, x_107_32, x_107_33, x_107_34, x_107_35, x_107_38, x_107_39, x_107_40, x_107_41, x_107_44, x_107_45, x_107_48, x_107_49, x_107_50, x_107_51, x_107_52, x_107_55, x_107_56, x_107_59, x_107_60, x_107_61, x_107_64, x_107_65, c_107, hp, a1, hkH, n10, k4, e1, hj, en, ew, ef, cx, b1', z1, Option.bind_some, mAft_n, mAft_v, mAft_x, mS_n, mS_i, mS_r, mS_l, mS_d, ne_eq, not_false_eq_true, not_true_eq_false, true_or, or_true, and_true, true_and, if_true, if_false, ite_true, ite_false, reduceIte, Nat.reduceAdd, Nat.reduceLeDiff, Nat.reduceEqDiff, false_and, and_false, or_false, false_or, eq_self, reduceCtorEq, mi_316, mi_317, ml_317, mi_318, ml_318, mi_319, ml_319, mi_320, ml_320, mi_321, ml_321, mi_322, ml_322, mi_359, ml_359, mv_316_1, mv_316_4, mv_316_7, mv_316_8, mv_316_9, mv_316_10, mv_316_13, mv_316_14, mv_316_15, pi_0, pi_1, pl_1, pv_1, pi_2, pl_2, pv_2, pi_3, pl_3, pv_3, pi_4, pl_4, pv_4, pi_5, pl_5, pv_5, pi_6, pl_6, pv_10, pi_7, pl_7, pv_11, pi_8, pl_8, pv_12, pi_9, pl_9, pv_13, pi_10, pl_10, pv_14, pi_11, pl_11, pv_15, pv_20, wi_0, wi_1, wl_1, wv_14, wi_2, wl_2, wv_15, wi_3, wl_3, wv_16, wi_4, wl_4, wv_17, wi_5, wl_5, wv_18, wv_21, pt_P, pt_v, pt_w, pt_SI, pt_SL, kM_SI, kM_SL, lI_SL, lV_SL, lK_SL, lN_SL, lL_SL, lIs_SL, nI_SI, nV_SI, nK_SI, nN_SI, nL_SI, nIs_SI, pp_c, pp_l, pp_r, pp_k, pp_k0, pp_j, pp_j0, isl]
  · intro c
    obtain ⟨H, a1, a2⟩ := eat.2 c
    refine ⟨H, ?_, a2⟩
    simp (maxDischargeDepth := 60) only [hk, x_107_0, x_107_1, x_107_4, x_107_7, x_107_10, x_107_11, x_107_12, x_107_13, x_107_16, x_107_17, x_107_20, x_107_21, x_107_22, x_107_23, x_107_24, x_107_25, x_107_28, x_107_29, x_107_32, x_107_33, x_107_34, x_107_35, x_107_38, x_107_39, x_107_40, x_107_41, x_107_44, x_107_45, x_107_48, x_107_49, x_107_50, x_107_51, x_107_52, x_107_55, x_107_56, x_107_59, x_107_60, x_107_61, x_107_64, x_107_65, c_107, hp, a1, z0, Option.bind_some, mAft_n, mAft_v, mAft_x, mS_n, mS_i, mS_r, mS_l, mS_d, ne_eq, not_false_eq_true, not_true_eq_false, true_or, or_true, and_true, true_and, if_true, if_false, ite_true, ite_false, reduceIte, Nat.reduceAdd, Nat.reduceLeDiff, Nat.reduceEqDiff, false_and, and_false, or_false, false_or, eq_self, reduceCtorEq, mi_316, mi_317, ml_317, mi_318, ml_318, mi_319, ml_319, mi_320, ml_320, mi_321, ml_321, mi_322, ml_322, mi_359, ml_359, mv_316_1, mv_316_4, mv_316_7, mv_316_8, mv_316_9, mv_316_10, mv_316_13, mv_316_14, mv_316_15, pi_0, pi_1, pl_1, pv_1, pi_2, pl_2, pv_2, pi_3, pl_3, pv_3, pi_4, pl_4, pv_4, pi_5, pl_5, pv_5, pi_6, pl_6, pv_10, pi_7, pl_7, pv_11, pi_8, pl_8, pv_12, pi_9, pl_9, pv_13, pi_10, pl_10, pv_14, pi_11, pl_11, pv_15, pv_20, wi_0, wi_1, wl_1, wv_14, wi_2, wl_2, wv_15, wi_3, wl_3, wv_16, wi_4, wl_4, wv_17, wi_5, wl_5, wv_18, wv_21, pt_P, pt_v, pt_w, pt_SI, pt_SL, kM_SI, kM_SL, lI_SL, lV_SL, lK_SL, lN_SL, lL_SL, lIs_SL, nI_SI, nV_SI, nK_SI, nN_SI, nL_SI, nIs_SI, pp_c, pp_l, pp_r, pp_k, pp_k0, pp_j, pp_j0, isl]
theorem q_num {D : Nat} {lo hi : Int32} {X : PX} {p i d : Nat} {s : RS} {h : mH} (m : pS h p X i d s) :
    (X.1 i = 30 → ∃ H, mCall (D + 3) 108 [.ref p, .int lo, .int hi] h = some (.inl (some (.int 1)), H) ∧ pS H p X (i + 1) d (sMn X s i (!inR (s.2.2.1 i) lo hi) 5) ∧ Fr [p, p + 2, p + 4] h H) ∧
    (¬ X.1 i = 30 → ∃ H, mCall (D + 3) 108 [.ref p, .int lo, .int hi] h = some (.inl (some (.int 0)), H) ∧ kM H ∧ mI H p 18 = 1 ∧ mI H p 19 = X.2.2.1 i ∧ Fr [p, p + 2, p + 4] h H) := by
  have eat := q_eat (D := D) m 30 (by decide) (show (201 : Int32) = kap 30 by decide)
  have z0 : (0 : Int32) = 0 ∨ (0 : Int32) = 1 := Or.inl rfl
  have z1 : (1 : Int32) = 0 ∨ (1 : Int32) = 1 := Or.inr rfl
  have n10 : ¬ (1 : Int32) = 0 := by decide
  have hk := m.1
  have hp := m.2.1
  constructor
  · intro c
    obtain ⟨H, a1, a2, a3⟩ := eat.1 c
    obtain ⟨k1, k2, k3, k4, k5, hkH, _⟩ := pS_k a2
    have e1 : Int32.ofNat (i + 1) - 1 = Int32.ofNat i := by rw [show (1 : Int32) = Int32.ofNat 1 from rfl, i_subof (by omega)]; rfl
    have hj : mIn (Int32.ofNat i) 402 = true := i_in (by rw [i_of_i (by omega)]; omega) (by rw [i_of_i (by omega)]; omega)
    have en : (Int32.ofNat i).toNatClampNeg = i := i_of_n (by omega)
    have ev : mI H (p + 2) i = s.2.2.1 i := congrFun a2.2.2.2.2.2.2.2.2.2.2.2.2.2.2.2.2.2.1 i
    obtain ⟨H2, b1, b2, b3⟩ := q_mean (D := D + 1) (b := !inR (s.2.2.1 i) lo hi) (n := 5) a2
    refine ⟨H2, ?_, b2, Fr_trans a3 b3⟩
    cases cx : inR (s.2.2.1 i) lo hi
    · rw [cx] at b1
      have b1' : mCall (D + 2) 104 [.ref p, .int 1, .int 5] H = some (.inl none, H2) := b1
      simp (maxDischargeDepth := 60) only [hk, x_108_0, x_108_1, x_108_4, x_108_7, x_108_10, x_108_11, x_108_12, x_108_13, x_108_14, x_108_17, x_108_18, x_108_21, x_108_22, x_108_23, x_108_24, x_108_25, x_108_26, x_108_29, x_108_32, x_108_33, x_108_36, x_108_37, x_108_38, x_108_41, x_108_42, c_108, hp, a1, hkH, n10, k4, e1, hj, en, ev, m_isIn, cx, bz_0, b1', z1, Option.bind_some, mAft_n, mAft_v, mAft_x, mS_n, mS_i, mS_r, mS_l, mS_d, ne_eq, not_false_eq_true, not_true_eq_false, true_or, or_true, and_true, true_and, if_true, if_false, ite_true, ite_false, reduceIte, Nat.reduceAdd, Nat.reduceLeDiff, Nat.reduceEqDiff, false_and, and_false, or_false, false_or, eq_self, reduceCtorEq, mi_316, mi_317, ml_317, mi_318, ml_318, mi_319, ml_319, mi_320, ml_320, mi_321, ml_321, mi_322, ml_322, mi_359, ml_359, mv_316_1, mv_316_4, mv_316_7, mv_316_8, mv_316_9, mv_316_10, mv_316_13, mv_316_14, mv_316_15, pi_0, pi_1, pl_1, pv_1, pi_2, pl_2, pv_2, pi_3, pl_3, pv_3, pi_4, pl_4, pv_4, pi_5, pl_5, pv_5, pi_6, pl_6, pv_10, pi_7, pl_7, pv_11, pi_8, pl_8, pv_12, pi_9, pl_9, pv_13, pi_10, pl_10, pv_14, pi_11, pl_11, pv_15, pv_20, wi_0, wi_1, wl_1, wv_14, wi_2, wl_2, wv_15, wi_3, wl_3, wv_16, wi_4, wl_4, wv_17, wi_5, wl_5, wv_18, wv_21, pt_P, pt_v, pt_w, pt_SI, pt_SL, kM_SI, kM_SL, lI_SL, lV_SL, lK_SL, lN_SL, lL_SL, lIs_SL, nI_SI, nV_SI, nK_SI, nN_SI, nL_SI, nIs_SI, pp_c, pp_l, pp_r, pp_k, pp_k0, pp_j, pp_j0, isl]
    · rw [cx] at b1
      have b1' : mCall (D + 2) 104 [.ref p, .int 0, .int 5] H = some (.inl none, H2) := b1
      simp (maxDischargeDepth := 60) only [hk, x_108_0, x_108_1, x_108_4, x_108_7, x_108_10, x_108_11, x_108_12, x_108_13, x_108_14, x_108_17, x_108_18, x_108_21, x_108_22, x_108_23, x_108_24, x_108_25, x_108_26, x_108_29, x_108_32, x_108_33, x_108_36, x_108_37, x_108_38, x_108_41, x_108_42, c_108, hp, a1, hkH, n10, k4, e1, hj, en, ev, m_isIn, cx, bz_0, Bool.true_eq_false, b1', z1, Option.bind_some, mAft_n, mAft_v, mAft_x, mS_n, mS_i, mS_r, mS_l, mS_d, ne_eq, not_false_eq_true, not_true_eq_false, true_or, or_true, and_true, true_and, if_true, if_false, ite_true, ite_false, reduceIte, Nat.reduceAdd, Nat.reduceLeDiff, Nat.reduceEqDiff, false_and, and_false, or_false, false_or, eq_self, reduceCtorEq, mi_316, mi_317, ml_317, mi_318, ml_318, mi_319, ml_319, mi_320, ml_320, mi_321, ml_321, mi_322, ml_322, mi_359, ml_359, mv_316_1, mv_316_4, mv_316_7, mv_316_8, mv_316_9, mv_316_10, mv_316_13, mv_316_14, mv_316_15, pi_0, pi_1, pl_1, pv_1, pi_2, pl_2, pv_2, pi_3, pl_3, pv_3, pi_4, pl_4, pv_4, pi_5, pl_5, pv_5, pi_6, pl_6, pv_10, pi_7, pl_7, pv_11, pi_8, pl_8, pv_12, pi_9, pl_9, pv_13, pi_10, pl_10, pv_14, pi_11, pl_11, pv_15, pv_20, wi_0, wi_1, wl_1, wv_14, wi_2, wl_2, wv_15, wi_3, wl_3, wv_16, wi_4, wl_4, wv_17, wi_5, wl_5, wv_18, wv_21, pt_P, pt_v, pt_w, pt_SI, pt_SL, kM_SI, kM_SL, lI_SL, lV_SL, lK_SL, lN_SL, lL_SL, lIs_SL, nI_SI, nV_SI, nK_SI, nN_SI, nL_SI, nIs_SI, pp_c, pp_l, pp_r, pp_k, pp_k0, pp_j, pp_j0, isl]
  · intro c
    obtain ⟨H, a1, a2⟩ := eat.2 c
    refine ⟨H, ?_, a2⟩
    simp (maxDischargeDepth := 60) only [hk, x_108_0, x_108_1, x_108_4, x_108_7, x_108_10, x_108_11, x_108_12, x_108_13, x_108_14, x_108_17, x_108_18, x_108_21, x_108_22, x_108_23, x_108_24, x_108_25, x_108_26, x_108_29, x_108_32, x_108_33, x_108_36, x_108_37, x_108_38, x_108_41, x_108_42, c_108, hp, a1, z0, Option.bind_some, mAft_n, mAft_v, mAft_x, mS_n, mS_i, mS_r, mS_l, mS_d, ne_eq, not_false_eq_true, not_true_eq_false, true_or, or_true, and_true, true_and, if_true, if_false, ite_true, ite_false, reduceIte, Nat.reduceAdd, Nat.reduceLeDiff, Nat.reduceEqDiff, false_and, and_false, or_false, false_or, eq_self, reduceCtorEq, mi_316, mi_317, ml_317, mi_318, ml_318, mi_319, ml_319, mi_320, ml_320, mi_321, ml_321, mi_322, ml_322, mi_359, ml_359, mv_316_1, mv_316_4, mv_316_7, mv_316_8, mv_316_9, mv_316_10, mv_316_13, mv_316_14, mv_316_15, pi_0, pi_1, pl_1, pv_1, pi_2, pl_2, pv_2, pi_3, pl_3, pv_3, pi_4, pl_4, pv_4, pi_5, pl_5, pv_5, pi_6, pl_6, pv_10, pi_7, pl_7, pv_11, pi_8, pl_8, pv_12, pi_9, pl_9, pv_13, pi_10, pl_10, pv_14, pi_11, pl_11, pv_15, pv_20, wi_0, wi_1, wl_1, wv_14, wi_2, wl_2, wv_15, wi_3, wl_3, wv_16, wi_4, wl_4, wv_17, wi_5, wl_5, wv_18, wv_21, pt_P, pt_v, pt_w, pt_SI, pt_SL, kM_SI, kM_SL, lI_SL, lV_SL, lK_SL, lN_SL, lL_SL, lIs_SL, nI_SI, nV_SI, nK_SI, nN_SI, nL_SI, nIs_SI, pp_c, pp_l, pp_r, pp_k, pp_k0, pp_j, pp_j0, isl]

theorem evs_app {X : PX} {s : RS} {e e' : List EVt} : evs X s (e ++ e') = evs X (evs X s e) e' := List.foldl_append
theorem RG_seq {p : Nat} {X : PX} {d d1 i b : Nat} {s : RS} {h : mH} {t t1 : Option mO} {P q : PA} (h1 : RG p X d1 i s h t1 (P i b))
    (f0 : ∀ H, t1 = some (.inl (some (.int 0)), H) → t = some (.inl (some (.int 0)), H))
    (f1 : ∀ H j b s', t1 = some (.inl (some (.int 1)), H) → pS H p X j d1 s' → i ≤ j → RG p X d j s' H t (q j b)) : RG p X d i s h t (sq P q i b) := by
  rcases hP : P i b with ⟨j, _ | ⟨c, e⟩⟩
  · rw [hP] at h1
    rw [sq_n hP]
    obtain ⟨H, a1, a2⟩ := h1
    exact ⟨H, f0 H a1, a2⟩
  · rw [hP] at h1
    obtain ⟨H, a1, a2, a3, a4⟩ := h1
    have g := f1 H j (b + c.length) _ a1 a2 a3
    rcases hq : q j (b + c.length) with ⟨l, _ | ⟨c', e'⟩⟩
    · rw [hq] at g
      rw [sq_sn hP hq]
      obtain ⟨G, b1, b2, b3, b4, b5⟩ := g
      exact ⟨G, b1, b2, b3, b4, Fr_trans a4 b5⟩
    · rw [hq] at g
      rw [sq_ss hP hq]
      obtain ⟨G, b1, b2, b3, b4⟩ := g
      refine ⟨G, b1, ?_, by omega, Fr_trans a4 b4⟩
      rw [evs_app]
      exact b2
/-- what comes after does not speak -/
theorem RG_map {p : Nat} {X : PX} {d d1 i : Nat} {s : RS} {h : mH} {t t1 : Option mO} {r : PR} (h1 : RG p X d1 i s h t1 r)
    (f0 : ∀ H, t1 = some (.inl (some (.int 0)), H) → t = some (.inl (some (.int 0)), H))
    (f1 : ∀ H j s', t1 = some (.inl (some (.int 1)), H) → pS H p X j d1 s' → i ≤ j → ∃ G, t = some (.inl (some (.int 1)), G) ∧ pS G p X j d s' ∧ Fr [p, p + 2, p + 4] H G) : RG p X d i s h t r := by
  rcases r with ⟨j, _ | ⟨c, e⟩⟩
  · obtain ⟨H, a1, a2⟩ := h1
    exact ⟨H, f0 H a1, a2⟩
  · obtain ⟨H, a1, a2, a3, a4⟩ := h1
    obtain ⟨G, b1, b2, b3⟩ := f1 H j _ a1 a2 a3
    exact ⟨G, b1, b2, a3, Fr_trans a4 b3⟩
/-- the token that comes is taken without a call -/
theorem RG_adv {p : Nat} {X : PX} {d d1 i b c : Nat} {s : RS} {h : mH} {t : Option mO} {q : PA} (m : pS h p X i d1 s) (hc : X.1 i = c) (h48 : c < 48)
    (f : ∀ b, pS (mSI h p 16 (Int32.ofNat (i + 1))) p X (i + 1) d1 s → RG p X d (i + 1) s (mSI h p 16 (Int32.ofNat (i + 1))) t (q (i + 1) b)) : RG p X d i s h t (sq (tk X.1 c) q i b) := by
  have a := q_adv m (by omega)
  have e : tk X.1 c i b = (i + 1, some ([], [])) := by unfold tk; rw [if_pos hc]
  have g := f (b + 0) a.1
  rcases hq : q (i + 1) (b + 0) with ⟨l, _ | ⟨c', e'⟩⟩
  · rw [hq] at g
    rw [sq_sn e hq]
    obtain ⟨G, b1, b2, b3, b4, b5⟩ := g
    exact ⟨G, b1, b2, b3, b4, Fr_trans a.2 b5⟩
  · rw [hq] at g
    rw [sq_ss e hq]
    obtain ⟨G, b1, b2, b3, b4⟩ := g
    exact ⟨G, b1, b2, by omega, Fr_trans a.2 b4⟩
theorem RG_eat {D p : Nat} {X : PX} {i d b : Nat} {s : RS} {h : mH} {x : Int32} (m : pS h p X i d s) (c : Nat) (hc : c < 48) (hx : x = kap c) : RG p X d i s h (mCall (D + 2) 102 [.ref p, .int x] h) (tk X.1 c i b) := by
  have e := q_eat (D := D) m c hc hx
  unfold tk
  by_cases z : X.1 i = c
  · rw [if_pos z]
    obtain ⟨H, a1, a2, a3⟩ := e.1 z
    exact ⟨H, a1, a2, by omega, a3⟩
  · rw [if_neg z]
    obtain ⟨H, a1, a2⟩ := e.2 z
    exact ⟨H, a1, a2⟩
theorem RG_fail {D p : Nat} {X : PX} {i d d' b : Nat} {s : RS} {h : mH} (m : pS h p X i d s) : RG p X d' i s h (mCall (D + 1) 101 [.ref p] h) (flp i b) := by
  obtain ⟨H, a1, a2⟩ := q_fail (D := D) m
  exact ⟨H, a1, a2⟩
theorem RG_deep0 {D p : Nat} {X : PX} {i d b : Nat} {s : RS} {h : mH} (m : pS h p X i 8 s) (hc : X.1 i < 48) : RG p X d i s h (mCall (D + 2) 111 [.ref p] h) (flp i b) := by
  obtain ⟨H, a1, a2⟩ := (q_deep (D := D) (a := 0) m (by omega) hc).1 rfl
  exact ⟨H, a1, a2⟩
theorem RG_deep {D p a : Nat} {X : PX} {i b c : Nat} {s : RS} {h : mH} (m : pS h p X i (8 - (a + 1)) s) (ha : a + 1 ≤ 8) (hc : X.1 i = c) (h48 : c < 48) : RG p X (8 - a) i s h (mCall (D + 2) 111 [.ref p] h) (tk X.1 c i b) := by
  obtain ⟨H, a1, a2, a3⟩ := (q_deep (D := D) (a := a + 1) m (by omega) (by omega)).2 a rfl
  unfold tk
  rw [if_pos hc]
  exact ⟨H, a1, a2, by omega, a3⟩
theorem RG_em {p : Nat} {X : PX} {d i b : Nat} {s : RS} {h : mH} {t : Option mO} {q : PA} {op : Int32} (f : RG p X d i s h t (q i (b + 1))) : RG p X d i s h t (sq (em op) q i b) := by
  have e : em op i b = (i, some ([(op, 0, 0)], [])) := rfl
  rcases hq : q i (b + 1) with ⟨l, _ | ⟨c', e'⟩⟩
  · rw [hq] at f
    rw [sq_sn e hq]
    exact f
  · rw [hq] at f
    rw [sq_ss e hq]
    exact f
theorem RG_eme {p : Nat} {X : PX} {d i b : Nat} {s : RS} {h : mH} {t : Option mO} {P : PA} {op : Int32} (f : RG p X d i s h t (P i b)) : RG p X d i s h t (sq P (em op) i b) := by
  rcases hP : P i b with ⟨l, _ | ⟨c', e'⟩⟩
  · rw [hP] at f
    rw [sq_n hP]
    exact f
  · rw [hP] at f
    rw [sq_ss (q := em op) hP (show em op l (b + c'.length) = (l, some ([(op, 0, 0)], [])) from rfl), List.append_nil]
    exact f
theorem RG_old {D p : Nat} {X : PX} {i d b n t : Nat} {R : Nat → Int64} {s : RS} {h : mH} {op : Int32} (m : pS h p X i d s) (ht : mIs h t 101 = true) (hn : n ≤ (mK h t).2) (hl : (mK h t).2 ≤ 1000) (hR : mL h t = R) (r : Nat) (hr : evR X s (r, i, 0) = sNm X s i (fnL R (X.2.2.2.1 i) n 0)) : RG p X d i s h (mCall (D + 3) 107 [.ref p, .ref t, .int (Int32.ofNat n)] h) (ho X.1 op 29 r i b) := by
  have e := q_old (D := D) m ht hn hl hR
  unfold ho
  by_cases z : X.1 i = 29
  · rw [if_pos z]
    obtain ⟨H, a1, a2, a3⟩ := e.1 z
    refine ⟨H, a1, ?_, by omega, a3⟩
    show pS H p X (i + 1) d (evR X s (r, i, 0))
    rw [hr]
    exact a2
  · rw [if_neg z]
    obtain ⟨H, a1, a2⟩ := e.2 z
    exact ⟨H, a1, a2⟩
theorem RG_num {D p : Nat} {X : PX} {i d b : Nat} {s : RS} {h : mH} {op lo hi : Int32} (m : pS h p X i d s) (r : Nat) (hr : evR X s (r, i, 0) = sMn X s i (!inR (s.2.2.1 i) lo hi) 5) : RG p X d i s h (mCall (D + 3) 108 [.ref p, .int lo, .int hi] h) (ho X.1 op 30 r i b) := by
  have e := q_num (D := D) (lo := lo) (hi := hi) m
  unfold ho
  by_cases z : X.1 i = 30
  · rw [if_pos z]
    obtain ⟨H, a1, a2, a3⟩ := e.1 z
    refine ⟨H, a1, ?_, by omega, a3⟩
    show pS H p X (i + 1) d (evR X s (r, i, 0))
    rw [hr]
    exact a2
  · rw [if_neg z]
    obtain ⟨H, a1, a2⟩ := e.2 z
    exact ⟨H, a1, a2⟩
