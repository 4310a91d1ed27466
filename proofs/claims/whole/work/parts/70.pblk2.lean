/-! THE REFERENCE'S PARSER: A BLOCK -/
theorem pSen_no {k : Nat → Nat} {tst blk : PA} {i b : Nat} (h : ¬ isSe (k i) = true) : pSen k tst blk i b = (i, none) := by
  unfold isSe at h
  simp only [Bool.or_eq_true, decide_eq_true_eq, not_or] at h
  obtain ⟨⟨⟨⟨⟨h1, h2⟩, h3⟩, h4⟩, h5⟩, h6⟩ := h
  unfold pSen
  rw [if_neg h1, if_neg h2, if_neg h3, if_neg h4, if_neg h5, if_neg h6]
  rfl
def pRest (k : Nat → Nat) (tst blk : PA) (i0 n : Nat) : PA := fun i b =>
  match sq (pSns k tst blk n) (tk k 32) i b with
  | (j, none) => (j, none)
  | (j, some (c, e)) => (j, some (c, e ++ [(0, i0, j - 1)]))
theorem ev_rest {k : Nat → Nat} {tst blk : PA} {i0 n i b : Nat} (h : isSe (k i) = true) : evq (sq (pSen k tst blk) (pRest k tst blk i0 n) i b) (pRest k tst blk i0 (n + 1) i b) := by
  have e : pSns k tst blk (n + 1) i b = sq (pSen k tst blk) (pSns k tst blk n) i b := by
    show (if isSe (k i) = true then _ else _) = _
    rw [if_pos h]
  unfold evq pRest
  rcases h1 : pSen k tst blk i b with ⟨j1, _ | ⟨c1, e1⟩⟩
  · rw [sq_n h1]
    rw [sq_n (p := pSns k tst blk (n + 1)) (by rw [e]; exact sq_n h1)]
    exact ⟨rfl, rfl⟩
  · rcases h2 : pSns k tst blk n j1 (b + c1.length) with ⟨j2, _ | ⟨c2, e2⟩⟩
    · rw [sq_n (p := pSns k tst blk (n + 1)) (j := j2) (by rw [e]; exact sq_sn h1 h2)]
      rw [sq_sn (j := j1) (l := j2) h1 (by show (match sq (pSns k tst blk n) (tk k 32) j1 (b + c1.length) with | (j, none) => (j, none) | (j, some (c, e)) => (j, some (c, e ++ [(0, i0, j - 1)]))) = _; rw [sq_n h2])]
      exact ⟨rfl, rfl⟩
    · have eP := e.trans (sq_ss h1 h2)
      by_cases g : k j2 = 32
      · have t : ∀ b, tk k 32 j2 b = (j2 + 1, some ([], [])) := fun b => by unfold tk; rw [if_pos g]
        rw [sq_ss eP (t _)]
        rw [sq_ss (q := fun i b => match sq (pSns k tst blk n) (tk k 32) i b with | (j, none) => (j, none) | (j, some (c, e)) => (j, some (c, e ++ [(0, i0, j - 1)]))) (l := j2 + 1) (c' := c2 ++ []) (e' := e2 ++ [] ++ [(0, i0, j2 + 1 - 1)]) h1 (by show (match sq (pSns k tst blk n) (tk k 32) j1 (b + c1.length) with | (j, none) => (j, none) | (j, some (c, e)) => (j, some (c, e ++ [(0, i0, j - 1)]))) = _; rw [sq_ss h2 (t _)])]
        refine ⟨rfl, ?_⟩
        simp only [Option.map_some, List.append_assoc, List.append_nil]
      · have t : ∀ b, tk k 32 j2 b = (j2, none) := fun b => by unfold tk; rw [if_neg g]
        rw [sq_sn eP (t _)]
        rw [sq_sn (q := fun i b => match sq (pSns k tst blk n) (tk k 32) i b with | (j, none) => (j, none) | (j, some (c, e)) => (j, some (c, e ++ [(0, i0, j - 1)]))) (l := j2) h1 (by show (match sq (pSns k tst blk n) (tk k 32) j1 (b + c1.length) with | (j, none) => (j, none) | (j, some (c, e)) => (j, some (c, e ++ [(0, i0, j - 1)]))) = _; rw [sq_sn h2 (t _)])]
        exact ⟨rfl, rfl⟩
/-- the block's end is noted -/
theorem q_last {X : PX} {p i d i0 v : Nat} {s : RS} {h : mH} (m : pS h p X i d s) : pS (mSI h (p + 4) i0 (Int32.ofNat v)) p X i d (sL s i0 (Int32.ofNat v)) ∧ Fr [p, p + 2, p + 4] h (mSI h (p + 4) i0 (Int32.ofNat v)) := by
  have f : Fr [p, p + 2, p + 4] h (mSI h (p + 4) i0 (Int32.ofNat v)) := Fr_SI Fr_refl (by simp)
  have m0 := m
  obtain ⟨hk, hp, hX, hi, w1, w2, w3, w4, w5, w6, n1, n2, n3, a1, a2, a3, a4, a5, a6, a7⟩ := m
  refine ⟨pS_at m0 (by simp (maxDischargeDepth := 60) only [hk, Option.bind_some, mAft_n, mAft_v, mAft_x, mS_n, mS_i, mS_r, mS_l, mS_d, ne_eq, not_false_eq_true, not_true_eq_false, true_or, or_true, and_true, true_and, if_true, if_false, ite_true, ite_false, reduceIte, Nat.reduceAdd, Nat.reduceLeDiff, Nat.reduceEqDiff, false_and, and_false, or_false, false_or, eq_self, reduceCtorEq, mi_316, mi_317, ml_317, mi_318, ml_318, mi_319, ml_319, mi_320, ml_320, mi_321, ml_321, mi_322, ml_322, mi_359, ml_359, mv_316_1, mv_316_4, mv_316_7, mv_316_8, mv_316_9, mv_316_10, mv_316_13, mv_316_14, mv_316_15, pi_0, pi_1, pl_1, pv_1, pi_2, pl_2, pv_2, pi_3, pl_3, pv_3, pi_4, pl_4, pv_4, pi_5, pl_5, pv_5, pi_6, pl_6, pv_10, pi_7, pl_7, pv_11, pi_8, pl_8, pv_12, pi_9, pl_9, pv_13, pi_10, pl_10, pv_14, pi_11, pl_11, pv_15, pv_20, wi_0, wi_1, wl_1, wv_14, wi_2, wl_2, wv_15, wi_3, wl_3, wv_16, wi_4, wl_4, wv_17, wi_5, wl_5, wv_18, wv_21, pt_P, pt_v, pt_w, pt_SI, pt_SL, kM_SI, kM_SL, lI_SL, lV_SL, lK_SL, lN_SL, lL_SL, lIs_SL, nI_SI, nV_SI, nK_SI, nN_SI, nL_SI, nIs_SI, pp_c, pp_l, pp_r, pp_k, pp_k0, pp_j, pp_j0, isl]) f hi ?_ ?_ ?_ ?_ ?_ ?_ ?_, f⟩
  · intro q hq
    rw [nI_SI, if_neg (by omega)]
  · simp (maxDischargeDepth := 60) only [hk, hp, a1, Option.bind_some, mAft_n, mAft_v, mAft_x, mS_n, mS_i, mS_r, mS_l, mS_d, ne_eq, not_false_eq_true, not_true_eq_false, true_or, or_true, and_true, true_and, if_true, if_false, ite_true, ite_false, reduceIte, Nat.reduceAdd, Nat.reduceLeDiff, Nat.reduceEqDiff, false_and, and_false, or_false, false_or, eq_self, reduceCtorEq, mi_316, mi_317, ml_317, mi_318, ml_318, mi_319, ml_319, mi_320, ml_320, mi_321, ml_321, mi_322, ml_322, mi_359, ml_359, mv_316_1, mv_316_4, mv_316_7, mv_316_8, mv_316_9, mv_316_10, mv_316_13, mv_316_14, mv_316_15, pi_0, pi_1, pl_1, pv_1, pi_2, pl_2, pv_2, pi_3, pl_3, pv_3, pi_4, pl_4, pv_4, pi_5, pl_5, pv_5, pi_6, pl_6, pv_10, pi_7, pl_7, pv_11, pi_8, pl_8, pv_12, pi_9, pl_9, pv_13, pi_10, pl_10, pv_14, pi_11, pl_11, pv_15, pv_20, wi_0, wi_1, wl_1, wv_14, wi_2, wl_2, wv_15, wi_3, wl_3, wv_16, wi_4, wl_4, wv_17, wi_5, wl_5, wv_18, wv_21, pt_P, pt_v, pt_w, pt_SI, pt_SL, kM_SI, kM_SL, lI_SL, lV_SL, lK_SL, lN_SL, lL_SL, lIs_SL, nI_SI, nV_SI, nK_SI, nN_SI, nL_SI, nIs_SI, pp_c, pp_l, pp_r, pp_k, pp_k0, pp_j, pp_j0, isl]
  · simp (maxDischargeDepth := 60) only [hk, hp, a2, Option.bind_some, mAft_n, mAft_v, mAft_x, mS_n, mS_i, mS_r, mS_l, mS_d, ne_eq, not_false_eq_true, not_true_eq_false, true_or, or_true, and_true, true_and, if_true, if_false, ite_true, ite_false, reduceIte, Nat.reduceAdd, Nat.reduceLeDiff, Nat.reduceEqDiff, false_and, and_false, or_false, false_or, eq_self, reduceCtorEq, mi_316, mi_317, ml_317, mi_318, ml_318, mi_319, ml_319, mi_320, ml_320, mi_321, ml_321, mi_322, ml_322, mi_359, ml_359, mv_316_1, mv_316_4, mv_316_7, mv_316_8, mv_316_9, mv_316_10, mv_316_13, mv_316_14, mv_316_15, pi_0, pi_1, pl_1, pv_1, pi_2, pl_2, pv_2, pi_3, pl_3, pv_3, pi_4, pl_4, pv_4, pi_5, pl_5, pv_5, pi_6, pl_6, pv_10, pi_7, pl_7, pv_11, pi_8, pl_8, pv_12, pi_9, pl_9, pv_13, pi_10, pl_10, pv_14, pi_11, pl_11, pv_15, pv_20, wi_0, wi_1, wl_1, wv_14, wi_2, wl_2, wv_15, wi_3, wl_3, wv_16, wi_4, wl_4, wv_17, wi_5, wl_5, wv_18, wv_21, pt_P, pt_v, pt_w, pt_SI, pt_SL, kM_SI, kM_SL, lI_SL, lV_SL, lK_SL, lN_SL, lL_SL, lIs_SL, nI_SI, nV_SI, nK_SI, nN_SI, nL_SI, nIs_SI, pp_c, pp_l, pp_r, pp_k, pp_k0, pp_j, pp_j0, isl]
  · simp (maxDischargeDepth := 60) only [hk, hp, a3, Option.bind_some, mAft_n, mAft_v, mAft_x, mS_n, mS_i, mS_r, mS_l, mS_d, ne_eq, not_false_eq_true, not_true_eq_false, true_or, or_true, and_true, true_and, if_true, if_false, ite_true, ite_false, reduceIte, Nat.reduceAdd, Nat.reduceLeDiff, Nat.reduceEqDiff, false_and, and_false, or_false, false_or, eq_self, reduceCtorEq, mi_316, mi_317, ml_317, mi_318, ml_318, mi_319, ml_319, mi_320, ml_320, mi_321, ml_321, mi_322, ml_322, mi_359, ml_359, mv_316_1, mv_316_4, mv_316_7, mv_316_8, mv_316_9, mv_316_10, mv_316_13, mv_316_14, mv_316_15, pi_0, pi_1, pl_1, pv_1, pi_2, pl_2, pv_2, pi_3, pl_3, pv_3, pi_4, pl_4, pv_4, pi_5, pl_5, pv_5, pi_6, pl_6, pv_10, pi_7, pl_7, pv_11, pi_8, pl_8, pv_12, pi_9, pl_9, pv_13, pi_10, pl_10, pv_14, pi_11, pl_11, pv_15, pv_20, wi_0, wi_1, wl_1, wv_14, wi_2, wl_2, wv_15, wi_3, wl_3, wv_16, wi_4, wl_4, wv_17, wi_5, wl_5, wv_18, wv_21, pt_P, pt_v, pt_w, pt_SI, pt_SL, kM_SI, kM_SL, lI_SL, lV_SL, lK_SL, lN_SL, lL_SL, lIs_SL, nI_SI, nV_SI, nK_SI, nN_SI, nL_SI, nIs_SI, pp_c, pp_l, pp_r, pp_k, pp_k0, pp_j, pp_j0, isl]; rfl
  · simp (maxDischargeDepth := 60) only [hk, hp, a4, Option.bind_some, mAft_n, mAft_v, mAft_x, mS_n, mS_i, mS_r, mS_l, mS_d, ne_eq, not_false_eq_true, not_true_eq_false, true_or, or_true, and_true, true_and, if_true, if_false, ite_true, ite_false, reduceIte, Nat.reduceAdd, Nat.reduceLeDiff, Nat.reduceEqDiff, false_and, and_false, or_false, false_or, eq_self, reduceCtorEq, mi_316, mi_317, ml_317, mi_318, ml_318, mi_319, ml_319, mi_320, ml_320, mi_321, ml_321, mi_322, ml_322, mi_359, ml_359, mv_316_1, mv_316_4, mv_316_7, mv_316_8, mv_316_9, mv_316_10, mv_316_13, mv_316_14, mv_316_15, pi_0, pi_1, pl_1, pv_1, pi_2, pl_2, pv_2, pi_3, pl_3, pv_3, pi_4, pl_4, pv_4, pi_5, pl_5, pv_5, pi_6, pl_6, pv_10, pi_7, pl_7, pv_11, pi_8, pl_8, pv_12, pi_9, pl_9, pv_13, pi_10, pl_10, pv_14, pi_11, pl_11, pv_15, pv_20, wi_0, wi_1, wl_1, wv_14, wi_2, wl_2, wv_15, wi_3, wl_3, wv_16, wi_4, wl_4, wv_17, wi_5, wl_5, wv_18, wv_21, pt_P, pt_v, pt_w, pt_SI, pt_SL, kM_SI, kM_SL, lI_SL, lV_SL, lK_SL, lN_SL, lL_SL, lIs_SL, nI_SI, nV_SI, nK_SI, nN_SI, nL_SI, nIs_SI, pp_c, pp_l, pp_r, pp_k, pp_k0, pp_j, pp_j0, isl]; rfl
  · funext q; rw [nI_SI, if_neg (by omega), a5]; rfl
  · funext q
    rw [nI_SI]
    unfold sL
    by_cases z : q = i0
    · simp only [z, and_self, if_true]
    · simp only [z, and_false, if_false]; rw [a6]
theorem r_blk_l {D a : Nat} {X : PX} {tst blk : PA} (ht : mo tst) (hb : mo blk) (ha : a + 1 ≤ 8) (rs : RC (D + 2) 120 X a (pSen X.1 tst blk)) {p i0 : Nat} (h0 : i0 < 402) : ∀ (n : Nat) (h : mH) (i b : Nat) (s : RS), pS h p X i (8 - a) s → 402 ≤ i + n → i0 < i →
    RG p X (8 - (a + 1)) i s h (mExec (mCall (D + 2)) 121 33 [some (.ref p), some (.int (Int32.ofNat i0))] [] h) (pRest X.1 tst blk i0 n i b) := by
  have z0 : (0 : Int32) = 0 ∨ (0 : Int32) = 1 := Or.inl rfl
  have z1 : (1 : Int32) = 0 ∨ (1 : Int32) = 1 := Or.inr rfl
  have n10 : ¬ (1 : Int32) = 0 := by decide
  have hi0 : mIn (Int32.ofNat i0) 402 = true := i_in (by rw [i_of_i (by omega)]; omega) (by rw [i_of_i (by omega)]; omega)
  have e0 : (Int32.ofNat i0).toNatClampNeg = i0 := i_of_n (by omega)
  intro n
  induction n with
  | zero =>
    intro h i b s m hn
    have := (pS_k m).2.2.1
    omega
  | succ n ih =>
    intro h i b s m hn hi
    obtain ⟨k1, k2, k3, k4, k5, hk, hp⟩ := pS_k m
    have hj402 : mIn (Int32.ofNat i) 402 = true := i_in (by rw [i_of_i (by omega)]; omega) (by rw [i_of_i (by omega)]; omega)
    have en : (Int32.ofNat i).toNatClampNeg = i := i_of_n (by omega)
    have w := pS_c m 32 125 (by decide) (by decide)
    have r := rs h p i b s m
    by_cases g : isSe (X.1 i) = true
    · have g32 : ¬ X.1 i = 32 := by intro c; rw [c] at g; exact absurd g (by decide)
      refine RG_evq (ev_rest g) (RG_seqP r (fun H e => ?_) (fun H j b s' x hx e m1 hj => ?_))
      · rw [x_121_33]
        simp (maxDischargeDepth := 60) only [hk, x_121_0, x_121_1, x_121_4, x_121_5, x_121_6, x_121_9, x_121_10, x_121_13, x_121_14, x_121_16, x_121_19, x_121_20, x_121_23, x_121_24, x_121_25, x_121_28, x_121_31, x_121_32, x_121_34, x_121_37, x_121_38, x_121_41, x_121_42, x_121_44, x_121_47, x_121_48, x_121_51, x_121_54, x_121_55, x_121_56, x_121_57, x_121_60, x_121_61, x_121_62, x_121_65, x_121_66, x_121_67, x_121_67i, x_121_68, x_121_71, x_121_72, x_121_73, x_121_76, x_121_77, x_121_80, hp, k4, hj402, en, w, g32, e, z0, Option.bind_some, mAft_n, mAft_v, mAft_x, mS_n, mS_i, mS_r, mS_l, mS_d, ne_eq, not_false_eq_true, not_true_eq_false, true_or, or_true, and_true, true_and, if_true, if_false, ite_true, ite_false, reduceIte, Nat.reduceAdd, Nat.reduceLeDiff, Nat.reduceEqDiff, false_and, and_false, or_false, false_or, eq_self, reduceCtorEq, mi_316, mi_317, ml_317, mi_318, ml_318, mi_319, ml_319, mi_320, ml_320, mi_321, ml_321, mi_322, ml_322, mi_359, ml_359, mv_316_1, mv_316_4, mv_316_7, mv_316_8, mv_316_9, mv_316_10, mv_316_13, mv_316_14, mv_316_15, pi_0, pi_1, pl_1, pv_1, pi_2, pl_2, pv_2, pi_3, pl_3, pv_3, pi_4, pl_4, pv_4, pi_5, pl_5, pv_5, pi_6, pl_6, pv_10, pi_7, pl_7, pv_11, pi_8, pl_8, pv_12, pi_9, pl_9, pv_13, pi_10, pl_10, pv_14, pi_11, pl_11, pv_15, pv_20, wi_0, wi_1, wl_1, wv_14, wi_2, wl_2, wv_15, wi_3, wl_3, wv_16, wi_4, wl_4, wv_17, wi_5, wl_5, wv_18, wv_21, pt_P, pt_v, pt_w, pt_SI, pt_SL, kM_SI, kM_SL, lI_SL, lV_SL, lK_SL, lN_SL, lL_SL, lIs_SL, nI_SI, nV_SI, nK_SI, nN_SI, nL_SI, nIs_SI, pp_c, pp_l, pp_r, pp_k, pp_k0, pp_j, pp_j0, isl]
      · have st : mExec (mCall (D + 2)) 121 33 [some (.ref p), some (.int (Int32.ofNat i0))] [] h = mExec (mCall (D + 2)) 121 33 [some (.ref p), some (.int (Int32.ofNat i0))] [] H := by
          rw [x_121_33]
          simp (maxDischargeDepth := 60) only [hk, x_121_0, x_121_1, x_121_4, x_121_5, x_121_6, x_121_9, x_121_10, x_121_13, x_121_14, x_121_16, x_121_19, x_121_20, x_121_23, x_121_24, x_121_25, x_121_28, x_121_31, x_121_32, x_121_34, x_121_37, x_121_38, x_121_41, x_121_42, x_121_44, x_121_47, x_121_48, x_121_51, x_121_54, x_121_55, x_121_56, x_121_57, x_121_60, x_121_61, x_121_62, x_121_65, x_121_66, x_121_67, x_121_67i, x_121_68, x_121_71, x_121_72, x_121_73, x_121_76, x_121_77, x_121_80, hp, k4, hj402, en, w, g32, e, m1.1, n10, Option.bind_some, mAft_n, mAft_v, mAft_x, mS_n, mS_i, mS_r, mS_l, mS_d, ne_eq, not_false_eq_true, not_true_eq_false, true_or, or_true, and_true, true_and, if_true, if_false, ite_true, ite_false, reduceIte, Nat.reduceAdd, Nat.reduceLeDiff, Nat.reduceEqDiff, false_and, and_false, or_false, false_or, eq_self, reduceCtorEq, mi_316, mi_317, ml_317, mi_318, ml_318, mi_319, ml_319, mi_320, ml_320, mi_321, ml_321, mi_322, ml_322, mi_359, ml_359, mv_316_1, mv_316_4, mv_316_7, mv_316_8, mv_316_9, mv_316_10, mv_316_13, mv_316_14, mv_316_15, pi_0, pi_1, pl_1, pv_1, pi_2, pl_2, pv_2, pi_3, pl_3, pv_3, pi_4, pl_4, pv_4, pi_5, pl_5, pv_5, pi_6, pl_6, pv_10, pi_7, pl_7, pv_11, pi_8, pl_8, pv_12, pi_9, pl_9, pv_13, pi_10, pl_10, pv_14, pi_11, pl_11, pv_15, pv_20, wi_0, wi_1, wl_1, wv_14, wi_2, wl_2, wv_15, wi_3, wl_3, wv_16, wi_4, wl_4, wv_17, wi_5, wl_5, wv_18, wv_21, pt_P, pt_v, pt_w, pt_SI, pt_SL, kM_SI, kM_SL, lI_SL, lV_SL, lK_SL, lN_SL, lL_SL, lIs_SL, nI_SI, nV_SI, nK_SI, nN_SI, nL_SI, nIs_SI, pp_c, pp_l, pp_r, pp_k, pp_k0, pp_j, pp_j0, isl]
        rw [st]
        have z := sen_lt ht hb hx
        exact ih H j b s' m1 (by omega) (by omega)
    · by_cases g32 : X.1 i = 32
      · have g32' := eq_true g32
        have eR : pRest X.1 tst blk i0 (n + 1) i b = (i + 1, some ([], [(0, i0, i)])) := by
          unfold pRest
          have e1 : pSns X.1 tst blk (n + 1) i b = (i, some ([], [])) := by
            show (if isSe (X.1 i) = true then _ else _) = _
            rw [if_neg g]; rfl
          rw [sq_ss e1 (show tk X.1 32 i _ = (i + 1, some ([], [])) by unfold tk; rw [if_pos g32])]
          rfl
        rw [eR]
        obtain ⟨m2, f2⟩ := q_last (i0 := i0) (v := i) m
        obtain ⟨m3, f3⟩ := q_adv m2 (by omega)
        obtain ⟨G, q1, q2, q3⟩ := q_rise (D := D + 1) m3 ha
        refine ⟨G, ?_, q2, by omega, Fr_trans f2 (Fr_trans f3 q3)⟩
        rw [x_121_33]
        simp (maxDischargeDepth := 60) only [hk, x_121_0, x_121_1, x_121_4, x_121_5, x_121_6, x_121_9, x_121_10, x_121_13, x_121_14, x_121_16, x_121_19, x_121_20, x_121_23, x_121_24, x_121_25, x_121_28, x_121_31, x_121_32, x_121_34, x_121_37, x_121_38, x_121_41, x_121_42, x_121_44, x_121_47, x_121_48, x_121_51, x_121_54, x_121_55, x_121_56, x_121_57, x_121_60, x_121_61, x_121_62, x_121_65, x_121_66, x_121_67, x_121_67i, x_121_68, x_121_71, x_121_72, x_121_73, x_121_76, x_121_77, x_121_80, hp, k4, hj402, en, w, g32', hi0, e0, m2.1, m3.1, i_succ, q1, z1, Option.bind_some, mAft_n, mAft_v, mAft_x, mS_n, mS_i, mS_r, mS_l, mS_d, ne_eq, not_false_eq_true, not_true_eq_false, true_or, or_true, and_true, true_and, if_true, if_false, ite_true, ite_false, reduceIte, Nat.reduceAdd, Nat.reduceLeDiff, Nat.reduceEqDiff, false_and, and_false, or_false, false_or, eq_self, reduceCtorEq, mi_316, mi_317, ml_317, mi_318, ml_318, mi_319, ml_319, mi_320, ml_320, mi_321, ml_321, mi_322, ml_322, mi_359, ml_359, mv_316_1, mv_316_4, mv_316_7, mv_316_8, mv_316_9, mv_316_10, mv_316_13, mv_316_14, mv_316_15, pi_0, pi_1, pl_1, pv_1, pi_2, pl_2, pv_2, pi_3, pl_3, pv_3, pi_4, pl_4, pv_4, pi_5, pl_5, pv_5, pi_6, pl_6, pv_10, pi_7, pl_7, pv_11, pi_8, pl_8, pv_12, pi_9, pl_9, pv_13, pi_10, pl_10, pv_14, pi_11, pl_11, pv_15, pv_20, wi_0, wi_1, wl_1, wv_14, wi_2, wl_2, wv_15, wi_3, wl_3, wv_16, wi_4, wl_4, wv_17, wi_5, wl_5, wv_18, wv_21, pt_P, pt_v, pt_w, pt_SI, pt_SL, kM_SI, kM_SL, lI_SL, lV_SL, lK_SL, lN_SL, lL_SL, lIs_SL, nI_SI, nV_SI, nK_SI, nN_SI, nL_SI, nIs_SI, pp_c, pp_l, pp_r, pp_k, pp_k0, pp_j, pp_j0, isl]
      · have eS : pSen X.1 tst blk i b = (i, none) := pSen_no g
        have eR : pRest X.1 tst blk i0 (n + 1) i b = (i, none) := by
          unfold pRest
          have e1 : pSns X.1 tst blk (n + 1) i b = (i, some ([], [])) := by
            show (if isSe (X.1 i) = true then _ else _) = _
            rw [if_neg g]; rfl
          rw [sq_sn e1 (show tk X.1 32 i _ = (i, none) by unfold tk; rw [if_neg g32])]
        rw [eR]
        rw [eS] at r
        obtain ⟨H, e, e2⟩ := r
        refine ⟨H, ?_, e2⟩
        rw [x_121_33]
        simp (maxDischargeDepth := 60) only [hk, x_121_0, x_121_1, x_121_4, x_121_5, x_121_6, x_121_9, x_121_10, x_121_13, x_121_14, x_121_16, x_121_19, x_121_20, x_121_23, x_121_24, x_121_25, x_121_28, x_121_31, x_121_32, x_121_34, x_121_37, x_121_38, x_121_41, x_121_42, x_121_44, x_121_47, x_121_48, x_121_51, x_121_54, x_121_55, x_121_56, x_121_57, x_121_60, x_121_61, x_121_62, x_121_65, x_121_66, x_121_67, x_121_67i, x_121_68, x_121_71, x_121_72, x_121_73, x_121_76, x_121_77, x_121_80, hp, k4, hj402, en, w, g32, e, z0, Option.bind_some, mAft_n, mAft_v, mAft_x, mS_n, mS_i, mS_r, mS_l, mS_d, ne_eq, not_false_eq_true, not_true_eq_false, true_or, or_true, and_true, true_and, if_true, if_false, ite_true, ite_false, reduceIte, Nat.reduceAdd, Nat.reduceLeDiff, Nat.reduceEqDiff, false_and, and_false, or_false, false_or, eq_self, reduceCtorEq, mi_316, mi_317, ml_317, mi_318, ml_318, mi_319, ml_319, mi_320, ml_320, mi_321, ml_321, mi_322, ml_322, mi_359, ml_359, mv_316_1, mv_316_4, mv_316_7, mv_316_8, mv_316_9, mv_316_10, mv_316_13, mv_316_14, mv_316_15, pi_0, pi_1, pl_1, pv_1, pi_2, pl_2, pv_2, pi_3, pl_3, pv_3, pi_4, pl_4, pv_4, pi_5, pl_5, pv_5, pi_6, pl_6, pv_10, pi_7, pl_7, pv_11, pi_8, pl_8, pv_12, pi_9, pl_9, pv_13, pi_10, pl_10, pv_14, pi_11, pl_11, pv_15, pv_20, wi_0, wi_1, wl_1, wv_14, wi_2, wl_2, wv_15, wi_3, wl_3, wv_16, wi_4, wl_4, wv_17, wi_5, wl_5, wv_18, wv_21, pt_P, pt_v, pt_w, pt_SI, pt_SL, kM_SI, kM_SL, lI_SL, lV_SL, lK_SL, lN_SL, lL_SL, lIs_SL, nI_SI, nV_SI, nK_SI, nN_SI, nL_SI, nIs_SI, pp_c, pp_l, pp_r, pp_k, pp_k0, pp_j, pp_j0, isl]
theorem r_blkF {D a : Nat} {X : PX} {tst blk : PA} (ht : mo tst) (hb : mo blk) (ha : a + 1 ≤ 8) (rs : RC (D + 2) 120 X a (pSen X.1 tst blk)) : RC (D + 3) 121 X (a + 1) (pBlkF X.1 tst blk) := by
  have z0 : (0 : Int32) = 0 ∨ (0 : Int32) = 1 := Or.inl rfl
  have z1 : (1 : Int32) = 0 ∨ (1 : Int32) = 1 := Or.inr rfl
  have n10 : ¬ (1 : Int32) = 0 := by decide
  intro h p i b s m
  obtain ⟨k1, k2, k3, k4, k5, hk, hp⟩ := pS_k m
  have hj402 : mIn (Int32.ofNat i) 402 = true := i_in (by rw [i_of_i (by omega)]; omega) (by rw [i_of_i (by omega)]; omega)
  have en : (Int32.ofNat i).toNatClampNeg = i := i_of_n (by omega)
  have w := pS_c m 31 123 (by decide) (by decide)
  by_cases g : X.1 i = 31
  · have g' := eq_true g
    have t : ∀ b, tk X.1 31 i b = (i + 1, some ([], [])) := fun b => by unfold tk; rw [if_pos g]
    have eB : evq (sq (tk X.1 31) (pRest X.1 tst blk i (402 - (i + 1))) i b) (pBlkF X.1 tst blk i b) := by
      unfold pBlkF evq
      rcases h2 : sq (pSns X.1 tst blk (402 - (i + 1))) (tk X.1 32) (i + 1) b with ⟨j, _ | ⟨c, e⟩⟩
      · rw [sq_sn (t b) (show sq (lpF (pSns X.1 tst blk)) (tk X.1 32) (i + 1) (b + 0) = (j, none) from h2)]
        rw [sq_sn (l := j) (t b) (by show pRest X.1 tst blk i (402 - (i + 1)) (i + 1) b = _; unfold pRest; rw [h2])]
        exact ⟨rfl, rfl⟩
      · rw [sq_ss (t b) (show sq (lpF (pSns X.1 tst blk)) (tk X.1 32) (i + 1) (b + 0) = (j, some (c, e)) from h2)]
        rw [sq_ss (l := j) (c' := c) (e' := e ++ [(0, i, j - 1)]) (t b) (by show pRest X.1 tst blk i (402 - (i + 1)) (i + 1) b = _; unfold pRest; rw [h2])]
        exact ⟨rfl, rfl⟩
    refine RG_evq eB (RG_seqP (RG_deep (D := D) m ha g (by decide)) (fun H e => ?_) (fun H j b s' x hx e m1 hj => ?_))
    · simp (maxDischargeDepth := 60) only [hk, x_121_0, x_121_1, x_121_4, x_121_5, x_121_6, x_121_9, x_121_10, x_121_13, x_121_14, x_121_16, x_121_19, x_121_20, x_121_23, x_121_24, x_121_25, x_121_28, x_121_31, x_121_32, x_121_34, x_121_37, x_121_38, x_121_41, x_121_42, x_121_44, x_121_47, x_121_48, x_121_51, x_121_54, x_121_55, x_121_56, x_121_57, x_121_60, x_121_61, x_121_62, x_121_65, x_121_66, x_121_67, x_121_67i, x_121_68, x_121_71, x_121_72, x_121_73, x_121_76, x_121_77, x_121_80, c_121, hp, k4, hj402, en, w, g', e, z0, Option.bind_some, mAft_n, mAft_v, mAft_x, mS_n, mS_i, mS_r, mS_l, mS_d, ne_eq, not_false_eq_true, not_true_eq_false, true_or, or_true, and_true, true_and, if_true, if_false, ite_true, ite_false, reduceIte, Nat.reduceAdd, Nat.reduceLeDiff, Nat.reduceEqDiff, false_and, and_false, or_false, false_or, eq_self, reduceCtorEq, mi_316, mi_317, ml_317, mi_318, ml_318, mi_319, ml_319, mi_320, ml_320, mi_321, ml_321, mi_322, ml_322, mi_359, ml_359, mv_316_1, mv_316_4, mv_316_7, mv_316_8, mv_316_9, mv_316_10, mv_316_13, mv_316_14, mv_316_15, pi_0, pi_1, pl_1, pv_1, pi_2, pl_2, pv_2, pi_3, pl_3, pv_3, pi_4, pl_4, pv_4, pi_5, pl_5, pv_5, pi_6, pl_6, pv_10, pi_7, pl_7, pv_11, pi_8, pl_8, pv_12, pi_9, pl_9, pv_13, pi_10, pl_10, pv_14, pi_11, pl_11, pv_15, pv_20, wi_0, wi_1, wl_1, wv_14, wi_2, wl_2, wv_15, wi_3, wl_3, wv_16, wi_4, wl_4, wv_17, wi_5, wl_5, wv_18, wv_21, pt_P, pt_v, pt_w, pt_SI, pt_SL, kM_SI, kM_SL, lI_SL, lV_SL, lK_SL, lN_SL, lL_SL, lIs_SL, nI_SI, nV_SI, nK_SI, nN_SI, nL_SI, nIs_SI, pp_c, pp_l, pp_r, pp_k, pp_k0, pp_j, pp_j0, isl]
    · have st : mCall (D + 3) 121 [.ref p] h = mExec (mCall (D + 2)) 121 33 [some (.ref p), some (.int (Int32.ofNat i))] [] H := by
        simp (maxDischargeDepth := 60) only [hk, x_121_0, x_121_1, x_121_4, x_121_5, x_121_6, x_121_9, x_121_10, x_121_13, x_121_14, x_121_16, x_121_19, x_121_20, x_121_23, x_121_24, x_121_25, x_121_28, x_121_31, x_121_32, x_121_34, x_121_37, x_121_38, x_121_41, x_121_42, x_121_44, x_121_47, x_121_48, x_121_51, x_121_54, x_121_55, x_121_56, x_121_57, x_121_60, x_121_61, x_121_62, x_121_65, x_121_66, x_121_67, x_121_67i, x_121_68, x_121_71, x_121_72, x_121_73, x_121_76, x_121_77, x_121_80, c_121, hp, k4, hj402, en, w, g', e, m1.1, n10, Option.bind_some, mAft_n, mAft_v, mAft_x, mS_n, mS_i, mS_r, mS_l, mS_d, ne_eq, not_false_eq_true, not_true_eq_false, true_or, or_true, and_true, true_and, if_true, if_false, ite_true, ite_false, reduceIte, Nat.reduceAdd, Nat.reduceLeDiff, Nat.reduceEqDiff, false_and, and_false, or_false, false_or, eq_self, reduceCtorEq, mi_316, mi_317, ml_317, mi_318, ml_318, mi_319, ml_319, mi_320, ml_320, mi_321, ml_321, mi_322, ml_322, mi_359, ml_359, mv_316_1, mv_316_4, mv_316_7, mv_316_8, mv_316_9, mv_316_10, mv_316_13, mv_316_14, mv_316_15, pi_0, pi_1, pl_1, pv_1, pi_2, pl_2, pv_2, pi_3, pl_3, pv_3, pi_4, pl_4, pv_4, pi_5, pl_5, pv_5, pi_6, pl_6, pv_10, pi_7, pl_7, pv_11, pi_8, pl_8, pv_12, pi_9, pl_9, pv_13, pi_10, pl_10, pv_14, pi_11, pl_11, pv_15, pv_20, wi_0, wi_1, wl_1, wv_14, wi_2, wl_2, wv_15, wi_3, wl_3, wv_16, wi_4, wl_4, wv_17, wi_5, wl_5, wv_18, wv_21, pt_P, pt_v, pt_w, pt_SI, pt_SL, kM_SI, kM_SL, lI_SL, lV_SL, lK_SL, lN_SL, lL_SL, lIs_SL, nI_SI, nV_SI, nK_SI, nN_SI, nL_SI, nIs_SI, pp_c, pp_l, pp_r, pp_k, pp_k0, pp_j, pp_j0, isl]
      rw [st]
      rw [t] at hx
      have hj1 : i + 1 = j := congrArg Prod.fst hx
      exact r_blk_l ht hb ha rs (by omega) _ H j b s' m1 (by omega) (by omega)
  · obtain ⟨H, e, e2⟩ := q_fail (D := D + 1) m
    have : pBlkF X.1 tst blk i b = (i, none) := by
      unfold pBlkF
      rw [sq_n (p := tk X.1 31) (j := i) (by unfold tk; rw [if_neg g])]
    rw [this]
    exact ⟨H, by simp (maxDischargeDepth := 60) only [hk, x_121_0, x_121_1, x_121_4, x_121_5, x_121_6, x_121_9, x_121_10, x_121_13, x_121_14, x_121_16, x_121_19, x_121_20, x_121_23, x_121_24, x_121_25, x_121_28, x_121_31, x_121_32, x_121_34, x_121_37, x_121_38, x_121_41, x_121_42, x_121_44, x_121_47, x_121_48, x_121_51, x_121_54, x_121_55, x_121_56, x_121_57, x_121_60, x_121_61, x_121_62, x_121_65, x_121_66, x_121_67, x_121_67i, x_121_68, x_121_71, x_121_72, x_121_73, x_121_76, x_121_77, x_121_80, c_121, hp, k4, hj402, en, w, g, e, z0, Option.bind_some, mAft_n, mAft_v, mAft_x, mS_n, mS_i, mS_r, mS_l, mS_d, ne_eq, not_false_eq_true, not_true_eq_false, true_or, or_true, and_true, true_and, if_true, if_false, ite_true, ite_false, reduceIte, Nat.reduceAdd, Nat.reduceLeDiff, Nat.reduceEqDiff, false_and, and_false, or_false, false_or, eq_self, reduceCtorEq, mi_316, mi_317, ml_317, mi_318, ml_318, mi_319, ml_319, mi_320, ml_320, mi_321, ml_321, mi_322, ml_322, mi_359, ml_359, mv_316_1, mv_316_4, mv_316_7, mv_316_8, mv_316_9, mv_316_10, mv_316_13, mv_316_14, mv_316_15, pi_0, pi_1, pl_1, pv_1, pi_2, pl_2, pv_2, pi_3, pl_3, pv_3, pi_4, pl_4, pv_4, pi_5, pl_5, pv_5, pi_6, pl_6, pv_10, pi_7, pl_7, pv_11, pi_8, pl_8, pv_12, pi_9, pl_9, pv_13, pi_10, pl_10, pv_14, pi_11, pl_11, pv_15, pv_20, wi_0, wi_1, wl_1, wv_14, wi_2, wl_2, wv_15, wi_3, wl_3, wv_16, wi_4, wl_4, wv_17, wi_5, wl_5, wv_18, wv_21, pt_P, pt_v, pt_w, pt_SI, pt_SL, kM_SI, kM_SL, lI_SL, lV_SL, lK_SL, lN_SL, lL_SL, lIs_SL, nI_SI, nV_SI, nK_SI, nN_SI, nL_SI, nIs_SI, pp_c, pp_l, pp_r, pp_k, pp_k0, pp_j, pp_j0, isl], e2⟩
/-- a block, so deep -/
theorem r_blk {X : PX} : ∀ (a : Nat), a ≤ 8 → ∀ D, 3 * a + 10 ≤ D → RC D 121 X a (pBlock X.1 a) := by
  intro a
  induction a with
  | zero =>
    intro ha D hD
    obtain ⟨D', rfl⟩ : ∃ D', D = D' + 3 := ⟨D - 3, by omega⟩
    have z0 : (0 : Int32) = 0 ∨ (0 : Int32) = 1 := Or.inl rfl
    have n10 : ¬ (1 : Int32) = 0 := by decide
    intro h p i b s m
    obtain ⟨k1, k2, k3, k4, k5, hk, hp⟩ := pS_k m
    have hj402 : mIn (Int32.ofNat i) 402 = true := i_in (by rw [i_of_i (by omega)]; omega) (by rw [i_of_i (by omega)]; omega)
    have en : (Int32.ofNat i).toNatClampNeg = i := i_of_n (by omega)
    have w := pS_c m 31 123 (by decide) (by decide)
    by_cases g : X.1 i = 31
    · have g' := eq_true g
      obtain ⟨H, e, e2⟩ := q_deep (D := D') (a := 0) m (by omega) (by omega) |>.1 rfl
      exact ⟨H, by simp (maxDischargeDepth := 60) only [hk, x_121_0, x_121_1, x_121_4, x_121_5, x_121_6, x_121_9, x_121_10, x_121_13, x_121_14, x_121_16, x_121_19, x_121_20, x_121_23, x_121_24, x_121_25, x_121_28, x_121_31, x_121_32, x_121_34, x_121_37, x_121_38, x_121_41, x_121_42, x_121_44, x_121_47, x_121_48, x_121_51, x_121_54, x_121_55, x_121_56, x_121_57, x_121_60, x_121_61, x_121_62, x_121_65, x_121_66, x_121_67, x_121_67i, x_121_68, x_121_71, x_121_72, x_121_73, x_121_76, x_121_77, x_121_80, c_121, hp, k4, hj402, en, w, g', e, z0, Option.bind_some, mAft_n, mAft_v, mAft_x, mS_n, mS_i, mS_r, mS_l, mS_d, ne_eq, not_false_eq_true, not_true_eq_false, true_or, or_true, and_true, true_and, if_true, if_false, ite_true, ite_false, reduceIte, Nat.reduceAdd, Nat.reduceLeDiff, Nat.reduceEqDiff, false_and, and_false, or_false, false_or, eq_self, reduceCtorEq, mi_316, mi_317, ml_317, mi_318, ml_318, mi_319, ml_319, mi_320, ml_320, mi_321, ml_321, mi_322, ml_322, mi_359, ml_359, mv_316_1, mv_316_4, mv_316_7, mv_316_8, mv_316_9, mv_316_10, mv_316_13, mv_316_14, mv_316_15, pi_0, pi_1, pl_1, pv_1, pi_2, pl_2, pv_2, pi_3, pl_3, pv_3, pi_4, pl_4, pv_4, pi_5, pl_5, pv_5, pi_6, pl_6, pv_10, pi_7, pl_7, pv_11, pi_8, pl_8, pv_12, pi_9, pl_9, pv_13, pi_10, pl_10, pv_14, pi_11, pl_11, pv_15, pv_20, wi_0, wi_1, wl_1, wv_14, wi_2, wl_2, wv_15, wi_3, wl_3, wv_16, wi_4, wl_4, wv_17, wi_5, wl_5, wv_18, wv_21, pt_P, pt_v, pt_w, pt_SI, pt_SL, kM_SI, kM_SL, lI_SL, lV_SL, lK_SL, lN_SL, lL_SL, lIs_SL, nI_SI, nV_SI, nK_SI, nN_SI, nL_SI, nIs_SI, pp_c, pp_l, pp_r, pp_k, pp_k0, pp_j, pp_j0, isl], e2⟩
    · obtain ⟨H, e, e2⟩ := q_fail (D := D' + 1) m
      exact ⟨H, by simp (maxDischargeDepth := 60) only [hk, x_121_0, x_121_1, x_121_4, x_121_5, x_121_6, x_121_9, x_121_10, x_121_13, x_121_14, x_121_16, x_121_19, x_121_20, x_121_23, x_121_24, x_121_25, x_121_28, x_121_31, x_121_32, x_121_34, x_121_37, x_121_38, x_121_41, x_121_42, x_121_44, x_121_47, x_121_48, x_121_51, x_121_54, x_121_55, x_121_56, x_121_57, x_121_60, x_121_61, x_121_62, x_121_65, x_121_66, x_121_67, x_121_67i, x_121_68, x_121_71, x_121_72, x_121_73, x_121_76, x_121_77, x_121_80, c_121, hp, k4, hj402, en, w, g, e, z0, Option.bind_some, mAft_n, mAft_v, mAft_x, mS_n, mS_i, mS_r, mS_l, mS_d, ne_eq, not_false_eq_true, not_true_eq_false, true_or, or_true, and_true, true_and, if_true, if_false, ite_true, ite_false, reduceIte, Nat.reduceAdd, Nat.reduceLeDiff, Nat.reduceEqDiff, false_and, and_false, or_false, false_or, eq_self, reduceCtorEq, mi_316, mi_317, ml_317, mi_318, ml_318, mi_319, ml_319, mi_320, ml_320, mi_321, ml_321, mi_322, ml_322, mi_359, ml_359, mv_316_1, mv_316_4, mv_316_7, mv_316_8, mv_316_9, mv_316_10, mv_316_13, mv_316_14, mv_316_15, pi_0, pi_1, pl_1, pv_1, pi_2, pl_2, pv_2, pi_3, pl_3, pv_3, pi_4, pl_4, pv_4, pi_5, pl_5, pv_5, pi_6, pl_6, pv_10, pi_7, pl_7, pv_11, pi_8, pl_8, pv_12, pi_9, pl_9, pv_13, pi_10, pl_10, pv_14, pi_11, pl_11, pv_15, pv_20, wi_0, wi_1, wl_1, wv_14, wi_2, wl_2, wv_15, wi_3, wl_3, wv_16, wi_4, wl_4, wv_17, wi_5, wl_5, wv_18, wv_21, pt_P, pt_v, pt_w, pt_SI, pt_SL, kM_SI, kM_SL, lI_SL, lV_SL, lK_SL, lN_SL, lL_SL, lIs_SL, nI_SI, nV_SI, nK_SI, nN_SI, nL_SI, nIs_SI, pp_c, pp_l, pp_r, pp_k, pp_k0, pp_j, pp_j0, isl], e2⟩
  | succ a ih =>
    intro ha D hD
    obtain ⟨D', rfl⟩ : ∃ D', D = D' + 5 := ⟨D - 5, by omega⟩
    exact r_blkF (mo_tst (mo_single a)) (mo_block a) ha (r_sen _ (r_tst a (by omega) _ (by omega)) (ih (by omega) _ (by omega)))
