/-! THE REFERENCE'S VISIT: TESTS -/
def RB (h : mH) (v : Nat) (K : VK) (cl : List CL) (S : VS) (V : Nat → Int32) (np n g D mid : Nat) (P : PA) : Prop := ∀ i b j c e, i < n → P i b = (j, some (c, e)) → evOK V np e → j < n ∧ ∃ x, (∀ vs, vs.length + g ≤ 80 → exL K cl S V c vs = vs ++ [bz x]) ∧ mCall D mid [.ref v] (mSI h v 20 (Int32.ofNat i)) = some (.inl (some (.int (bz x))), mSI h v 20 (Int32.ofNat j))
theorem bz_d {b : Bool} : (!decide (bz b = 0)) = b := by cases b <;> decide
theorem hO_31 {a b : Bool} : hO 31 (bz a) (bz b) = (a && b) := by unfold hO; rw [if_neg (by decide), if_neg (by decide), if_neg (by decide), if_neg (by decide), if_neg (by decide), if_pos rfl, bz_d, bz_d]
theorem hO_32 {a b : Bool} : hO 32 (bz a) (bz b) = (a || b) := by unfold hO; rw [if_neg (by decide), if_neg (by decide), if_neg (by decide), if_neg (by decide), if_neg (by decide), if_neg (by decide), bz_d, bz_d]
theorem hO_26 {a b : Int32} : hO 26 a b = decide (a < b) := by unfold hO; rw [if_pos rfl]
theorem hO_27 {a b : Int32} : hO 27 a b = decide (b < a) := by unfold hO; rw [if_neg (by decide), if_pos rfl]
theorem hO_28 {a b : Int32} : hO 28 a b = decide (a = b) := by unfold hO; rw [if_neg (by decide), if_neg (by decide), if_pos rfl]
theorem hO_29 {a b : Int32} : hO 29 a b = decide (a ≤ b) := by unfold hO; rw [if_neg (by decide), if_neg (by decide), if_neg (by decide), if_pos rfl]
theorem hO_30 {a b : Int32} : hO 30 a b = decide (b ≤ a) := by unfold hO; rw [if_neg (by decide), if_neg (by decide), if_neg (by decide), if_neg (by decide), if_pos rfl]
theorem and1 {x : Int32} : x &&& 1 = 0 ∨ x &&& 1 = 1 := by
  have e : (x &&& 1).toBitVec = x.toBitVec &&& 1#32 := rfl
  have e2 : x.toBitVec &&& 1#32 = (BitVec.ofBool (x.toBitVec.getLsbD 0)).setWidth 32 := BitVec.and_one_eq_setWidth_ofBool_getLsbD
  cases h : x.toBitVec.getLsbD 0
  · left
    apply Int32.toBitVec_inj.mp
    rw [e, e2, h]; rfl
  · right
    apply Int32.toBitVec_inj.mp
    rw [e, e2, h]; rfl
theorem bt_1 {m p : Int32} : ((m >>> (p &&& 31)) &&& 1 = 1) = (bt m p = true) := by
  unfold bt
  apply propext
  rcases and1 (x := m >>> (p &&& 31)) with h | h
  · rw [h, decide_eq_true rfl]
    constructor
    · intro z; exact absurd z (by decide)
    · intro z; cases z
  · rw [h, decide_eq_false (by decide)]
    exact ⟨fun _ => rfl, fun _ => rfl⟩
theorem e_bothl {D g : Nat} {one : PA} {h : mH} {v who : Nat} {lim : Int32} {S : VS} {cl : List CL} {dn : List NS} {ps : List PT} {vs : List (Int32 × Int32 × Int32)} {k : Nat → Nat} {n : Nat} {V : Nat → Int32} (m : xS h v who lim S cl dn ps vs k n V) (hg : 1 ≤ g) (mo1 : mo one) (r1 : RB h v (vKK vs (Int32.ofNat who) lim) cl S V ps.length n g D 209 one) : ∀ (mm i b j : Nat) (c : List CI) (e : List EVt) (all : Bool), i < n → 402 ≤ i + mm → lpp k 25 31 99 0 one mm i b = (j, some (c, e)) → evOK V ps.length e →
    j < n ∧ ∃ x, (∀ us, us.length + (g + 1) ≤ 80 → exL (vKK vs (Int32.ofNat who) lim) cl S V c (us ++ [bz all]) = us ++ [bz x]) ∧ mExec (mCall D) 210 5 [some (.ref v), some (.int (bz all))] [] (mSI h v 20 (Int32.ofNat i)) = some (.inl (some (.int (bz x))), mSI h v 20 (Int32.ofNat j)) := by
  have m0 := m
  obtain ⟨w, hv, hwh, ms, hn, tk', k50, knx⟩ := m
  have hk := w.1
  have hp := pt_P hk
  have b0' : ∀ b, bz b = 0 ∨ bz b = 1 := fun _ => bz_1
  intro mm
  induction mm with
  | zero => intro i b j c e all hi h4; omega
  | succ mm ih =>
    intro i b j c e all hi h4 hP he
    have hj : mIn (Int32.ofNat i) 402 = true := i_in (by rw [i_of_i (by omega)]; omega) (by rw [i_of_i (by omega)]; omega)
    have en : (Int32.ofNat i).toNatClampNeg = i := i_of_n (by omega)
    have kq := (tk' i hi).1
    have wA := kap_eq (x := 25) 25 (k50 i) (by decide) (by decide)
    rw [lpp] at hP
    dsimp only at hP
    by_cases cA : k i = 25
    · rw [if_pos cA] at hP
      have cA' := eq_true cA
      obtain ⟨l1, cc1, f1, cc2, f2, x1, x2, hc, he'⟩ := sq_inv hP
      obtain ⟨_, q1, q2, q3⟩ := tk_inv x1
      obtain ⟨l4, cc3, f3, cc4, f4, x3, x4, hc2, he2⟩ := sq_inv x2
      obtain ⟨l5, cc5, f5, cc6, f6, x5, x6, hc3, he3⟩ := sq_inv x4
      obtain ⟨q4, q5, q6⟩ := em_inv x5
      rw [q1] at x3
      rw [q4] at x6
      have e1' : evOK V ps.length f3 := fun ev hv => he ev (by rw [he', he2]; simp [hv])
      have e2' : evOK V ps.length f6 := fun ev hv => he ev (by rw [he', he2, he3]; simp [hv])
      obtain ⟨hl, y1, g1, e1⟩ := r1 _ _ _ _ _ (knx i (by omega) (by omega)) x3 e1'
      have hli : i + 1 ≤ l4 := mo_le mo1 x3
      obtain ⟨hj', y, g2, e2⟩ := ih _ _ _ _ _ (all && y1) hl (by omega) x6 e2'
      refine ⟨hj', y, fun us hu => ?_, ?_⟩
      · rw [hc, hc2, hc3, q2, q5, List.nil_append, exL_app, g1 _ (by rw [List.length_append, List.length_cons, List.length_nil]; omega), exL_app]
        show exL (vKK vs (Int32.ofNat who) lim) cl S V cc6 (exI (vKK vs (Int32.ofNat who) lim) cl S V (us ++ [bz all] ++ [bz y1]) (31, 0, 0)) = _
        rw [ex_c (by decide) (by omega), hO_31, g2 us hu]
      · have eb : bz all &&& bz y1 = bz (all && y1) := by cases all <;> cases y1 <;> decide
        rw [← e2, x_210_5, ← eb]
        simp (maxDischargeDepth := 60) only [hk, x_210_0, x_210_1, x_210_4, x_210_6, x_210_9, x_210_12, x_210_15, x_210_16, x_210_19, x_210_20, x_210_22, x_210_25, x_210_26, x_210_26i, x_210_27, x_210_30, x_210_31, x_210_32, x_210_35, x_210_36, x_210_37, x_210_40, x_210_41, x_210_42, x_210_45, x_210_46, hv, hp, hk, wt_a hv hp, wt_b hv hp, wt_c hv hp, wt_d hv hp, wk_c hv, wk_d hv, wk_0 hv, wk_1 hv, kq, hj, en, wA, cA', i_succ, SI_SI, e1, b0', Option.bind_some, mAft_n, mAft_v, mAft_x, mS_n, mS_i, mS_r, mS_l, mS_d, ne_eq, not_false_eq_true, not_true_eq_false, true_or, or_true, and_true, true_and, if_true, if_false, ite_true, ite_false, reduceIte, Nat.reduceAdd, Nat.reduceLeDiff, Nat.reduceEqDiff, false_and, and_false, or_false, false_or, eq_self, reduceCtorEq, mi_316, mi_317, ml_317, mi_318, ml_318, mi_319, ml_319, mi_320, ml_320, mi_321, ml_321, mi_322, ml_322, mi_359, ml_359, mv_316_1, mv_316_4, mv_316_7, mv_316_8, mv_316_9, mv_316_10, mv_316_13, mv_316_14, mv_316_15, pi_0, pi_1, pl_1, pv_1, pi_2, pl_2, pv_2, pi_3, pl_3, pv_3, pi_4, pl_4, pv_4, pi_5, pl_5, pv_5, pi_6, pl_6, pv_10, pi_7, pl_7, pv_11, pi_8, pl_8, pv_12, pi_9, pl_9, pv_13, pi_10, pl_10, pv_14, pi_11, pl_11, pv_15, pv_20, wi_0, wi_1, wl_1, wv_14, wi_2, wl_2, wv_15, wi_3, wl_3, wv_16, wi_4, wl_4, wv_17, wi_5, wl_5, wv_18, wv_21, pt_P, pt_v, pt_w, pt_SI, pt_SL, kM_SI, kM_SL, lI_SL, lV_SL, lK_SL, lN_SL, lL_SL, lIs_SL, nI_SI, nV_SI, nK_SI, nN_SI, nL_SI, nIs_SI, pp_c, pp_l, pp_r, pp_k, pp_k0, pp_j, pp_j0, isl]
    rw [if_neg cA, if_neg (by have := k50 i; omega)] at hP
    unfold skp at hP
    cases hP
    refine ⟨hi, all, fun us hu => rfl, ?_⟩
    rw [x_210_5]
    simp (maxDischargeDepth := 60) only [hk, x_210_0, x_210_1, x_210_4, x_210_6, x_210_9, x_210_12, x_210_15, x_210_16, x_210_19, x_210_20, x_210_22, x_210_25, x_210_26, x_210_26i, x_210_27, x_210_30, x_210_31, x_210_32, x_210_35, x_210_36, x_210_37, x_210_40, x_210_41, x_210_42, x_210_45, x_210_46, hv, hp, hk, wt_a hv hp, wt_b hv hp, wt_c hv hp, wt_d hv hp, wk_c hv, wk_d hv, wk_0 hv, wk_1 hv, kq, hj, en, wA, cA, b0', Option.bind_some, mAft_n, mAft_v, mAft_x, mS_n, mS_i, mS_r, mS_l, mS_d, ne_eq, not_false_eq_true, not_true_eq_false, true_or, or_true, and_true, true_and, if_true, if_false, ite_true, ite_false, reduceIte, Nat.reduceAdd, Nat.reduceLeDiff, Nat.reduceEqDiff, false_and, and_false, or_false, false_or, eq_self, reduceCtorEq, mi_316, mi_317, ml_317, mi_318, ml_318, mi_319, ml_319, mi_320, ml_320, mi_321, ml_321, mi_322, ml_322, mi_359, ml_359, mv_316_1, mv_316_4, mv_316_7, mv_316_8, mv_316_9, mv_316_10, mv_316_13, mv_316_14, mv_316_15, pi_0, pi_1, pl_1, pv_1, pi_2, pl_2, pv_2, pi_3, pl_3, pv_3, pi_4, pl_4, pv_4, pi_5, pl_5, pv_5, pi_6, pl_6, pv_10, pi_7, pl_7, pv_11, pi_8, pl_8, pv_12, pi_9, pl_9, pv_13, pi_10, pl_10, pv_14, pi_11, pl_11, pv_15, pv_20, wi_0, wi_1, wl_1, wv_14, wi_2, wl_2, wv_15, wi_3, wl_3, wv_16, wi_4, wl_4, wv_17, wi_5, wl_5, wv_18, wv_21, pt_P, pt_v, pt_w, pt_SI, pt_SL, kM_SI, kM_SL, lI_SL, lV_SL, lK_SL, lN_SL, lL_SL, lIs_SL, nI_SI, nV_SI, nK_SI, nN_SI, nL_SI, nIs_SI, pp_c, pp_l, pp_r, pp_k, pp_k0, pp_j, pp_j0, isl]
theorem e_testl {D g : Nat} {one : PA} {h : mH} {v who : Nat} {lim : Int32} {S : VS} {cl : List CL} {dn : List NS} {ps : List PT} {vs : List (Int32 × Int32 × Int32)} {k : Nat → Nat} {n : Nat} {V : Nat → Int32} (m : xS h v who lim S cl dn ps vs k n V) (hg : 1 ≤ g) (mo1 : mo one) (r1 : RB h v (vKK vs (Int32.ofNat who) lim) cl S V ps.length n g D 210 one) : ∀ (mm i b j : Nat) (c : List CI) (e : List EVt) (all : Bool), i < n → 402 ≤ i + mm → lpp k 26 32 99 0 one mm i b = (j, some (c, e)) → evOK V ps.length e →
    j < n ∧ ∃ x, (∀ us, us.length + (g + 1) ≤ 80 → exL (vKK vs (Int32.ofNat who) lim) cl S V c (us ++ [bz all]) = us ++ [bz x]) ∧ mExec (mCall D) 211 5 [some (.ref v), some (.int (bz all))] [] (mSI h v 20 (Int32.ofNat i)) = some (.inl (some (.int (bz x))), mSI h v 20 (Int32.ofNat j)) := by
  have m0 := m
  obtain ⟨w, hv, hwh, ms, hn, tk', k50, knx⟩ := m
  have hk := w.1
  have hp := pt_P hk
  have b0' : ∀ b, bz b = 0 ∨ bz b = 1 := fun _ => bz_1
  intro mm
  induction mm with
  | zero => intro i b j c e all hi h4; omega
  | succ mm ih =>
    intro i b j c e all hi h4 hP he
    have hj : mIn (Int32.ofNat i) 402 = true := i_in (by rw [i_of_i (by omega)]; omega) (by rw [i_of_i (by omega)]; omega)
    have en : (Int32.ofNat i).toNatClampNeg = i := i_of_n (by omega)
    have kq := (tk' i hi).1
    have wA := kap_eq (x := 26) 26 (k50 i) (by decide) (by decide)
    rw [lpp] at hP
    dsimp only at hP
    by_cases cA : k i = 26
    · rw [if_pos cA] at hP
      have cA' := eq_true cA
      obtain ⟨l1, cc1, f1, cc2, f2, x1, x2, hc, he'⟩ := sq_inv hP
      obtain ⟨_, q1, q2, q3⟩ := tk_inv x1
      obtain ⟨l4, cc3, f3, cc4, f4, x3, x4, hc2, he2⟩ := sq_inv x2
      obtain ⟨l5, cc5, f5, cc6, f6, x5, x6, hc3, he3⟩ := sq_inv x4
      obtain ⟨q4, q5, q6⟩ := em_inv x5
      rw [q1] at x3
      rw [q4] at x6
      have e1' : evOK V ps.length f3 := fun ev hv => he ev (by rw [he', he2]; simp [hv])
      have e2' : evOK V ps.length f6 := fun ev hv => he ev (by rw [he', he2, he3]; simp [hv])
      obtain ⟨hl, y1, g1, e1⟩ := r1 _ _ _ _ _ (knx i (by omega) (by omega)) x3 e1'
      have hli : i + 1 ≤ l4 := mo_le mo1 x3
      obtain ⟨hj', y, g2, e2⟩ := ih _ _ _ _ _ (all || y1) hl (by omega) x6 e2'
      refine ⟨hj', y, fun us hu => ?_, ?_⟩
      · rw [hc, hc2, hc3, q2, q5, List.nil_append, exL_app, g1 _ (by rw [List.length_append, List.length_cons, List.length_nil]; omega), exL_app]
        show exL (vKK vs (Int32.ofNat who) lim) cl S V cc6 (exI (vKK vs (Int32.ofNat who) lim) cl S V (us ++ [bz all] ++ [bz y1]) (32, 0, 0)) = _
        rw [ex_c (by decide) (by omega), hO_32, g2 us hu]
      · have eb : bz all ||| bz y1 = bz (all || y1) := by cases all <;> cases y1 <;> decide
        rw [← e2, x_211_5, ← eb]
        simp (maxDischargeDepth := 60) only [hk, x_211_0, x_211_1, x_211_4, x_211_6, x_211_9, x_211_12, x_211_15, x_211_16, x_211_19, x_211_20, x_211_22, x_211_25, x_211_26, x_211_26i, x_211_27, x_211_30, x_211_31, x_211_32, x_211_35, x_211_36, x_211_37, x_211_40, x_211_41, x_211_42, x_211_45, x_211_46, hv, hp, hk, wt_a hv hp, wt_b hv hp, wt_c hv hp, wt_d hv hp, wk_c hv, wk_d hv, wk_0 hv, wk_1 hv, kq, hj, en, wA, cA', i_succ, SI_SI, e1, b0', Option.bind_some, mAft_n, mAft_v, mAft_x, mS_n, mS_i, mS_r, mS_l, mS_d, ne_eq, not_false_eq_true, not_true_eq_false, true_or, or_true, and_true, true_and, if_true, if_false, ite_true, ite_false, reduceIte, Nat.reduceAdd, Nat.reduceLeDiff, Nat.reduceEqDiff, false_and, and_false, or_false, false_or, eq_self, reduceCtorEq, mi_316, mi_317, ml_317, mi_318, ml_318, mi_319, ml_319, mi_320, ml_320, mi_321, ml_321, mi_322, ml_322, mi_359, ml_359, mv_316_1, mv_316_4, mv_316_7, mv_316_8, mv_316_9, mv_316_10, mv_316_13, mv_316_14, mv_316_15, pi_0, pi_1, pl_1, pv_1, pi_2, pl_2, pv_2, pi_3, pl_3, pv_3, pi_4, pl_4, pv_4, pi_5, pl_5, pv_5, pi_6, pl_6, pv_10, pi_7, pl_7, pv_11, pi_8, pl_8, pv_12, pi_9, pl_9, pv_13, pi_10, pl_10, pv_14, pi_11, pl_11, pv_15, pv_20, wi_0, wi_1, wl_1, wv_14, wi_2, wl_2, wv_15, wi_3, wl_3, wv_16, wi_4, wl_4, wv_17, wi_5, wl_5, wv_18, wv_21, pt_P, pt_v, pt_w, pt_SI, pt_SL, kM_SI, kM_SL, lI_SL, lV_SL, lK_SL, lN_SL, lL_SL, lIs_SL, nI_SI, nV_SI, nK_SI, nN_SI, nL_SI, nIs_SI, pp_c, pp_l, pp_r, pp_k, pp_k0, pp_j, pp_j0, isl]
    rw [if_neg cA, if_neg (by have := k50 i; omega)] at hP
    unfold skp at hP
    cases hP
    refine ⟨hi, all, fun us hu => rfl, ?_⟩
    rw [x_211_5]
    simp (maxDischargeDepth := 60) only [hk, x_211_0, x_211_1, x_211_4, x_211_6, x_211_9, x_211_12, x_211_15, x_211_16, x_211_19, x_211_20, x_211_22, x_211_25, x_211_26, x_211_26i, x_211_27, x_211_30, x_211_31, x_211_32, x_211_35, x_211_36, x_211_37, x_211_40, x_211_41, x_211_42, x_211_45, x_211_46, hv, hp, hk, wt_a hv hp, wt_b hv hp, wt_c hv hp, wt_d hv hp, wk_c hv, wk_d hv, wk_0 hv, wk_1 hv, kq, hj, en, wA, cA, b0', Option.bind_some, mAft_n, mAft_v, mAft_x, mS_n, mS_i, mS_r, mS_l, mS_d, ne_eq, not_false_eq_true, not_true_eq_false, true_or, or_true, and_true, true_and, if_true, if_false, ite_true, ite_false, reduceIte, Nat.reduceAdd, Nat.reduceLeDiff, Nat.reduceEqDiff, false_and, and_false, or_false, false_or, eq_self, reduceCtorEq, mi_316, mi_317, ml_317, mi_318, ml_318, mi_319, ml_319, mi_320, ml_320, mi_321, ml_321, mi_322, ml_322, mi_359, ml_359, mv_316_1, mv_316_4, mv_316_7, mv_316_8, mv_316_9, mv_316_10, mv_316_13, mv_316_14, mv_316_15, pi_0, pi_1, pl_1, pv_1, pi_2, pl_2, pv_2, pi_3, pl_3, pv_3, pi_4, pl_4, pv_4, pi_5, pl_5, pv_5, pi_6, pl_6, pv_10, pi_7, pl_7, pv_11, pi_8, pl_8, pv_12, pi_9, pl_9, pv_13, pi_10, pl_10, pv_14, pi_11, pl_11, pv_15, pv_20, wi_0, wi_1, wl_1, wv_14, wi_2, wl_2, wv_15, wi_3, wl_3, wv_16, wi_4, wl_4, wv_17, wi_5, wl_5, wv_18, wv_21, pt_P, pt_v, pt_w, pt_SI, pt_SL, kM_SI, kM_SL, lI_SL, lV_SL, lK_SL, lN_SL, lL_SL, lIs_SL, nI_SI, nV_SI, nK_SI, nN_SI, nL_SI, nIs_SI, pp_c, pp_l, pp_r, pp_k, pp_k0, pp_j, pp_j0, isl]
theorem e_both {D g : Nat} {one : PA} {h : mH} {v who : Nat} {lim : Int32} {S : VS} {cl : List CL} {dn : List NS} {ps : List PT} {vs : List (Int32 × Int32 × Int32)} {k : Nat → Nat} {n : Nat} {V : Nat → Int32} (m : xS h v who lim S cl dn ps vs k n V) (hg : 1 ≤ g) (mo1 : mo one) (r1 : RB h v (vKK vs (Int32.ofNat who) lim) cl S V ps.length n g D 209 one) : RB h v (vKK vs (Int32.ofNat who) lim) cl S V ps.length n (g + 1) (D + 1) 210 (pBth k one) := by
  intro i b j c e hi hP he
  obtain ⟨l1, cc1, f1, cc2, f2, x1, x2, hc, he'⟩ := sq_inv hP
  subst hc he'
  obtain ⟨hl, y1, g1, e1⟩ := r1 _ _ _ _ _ hi x1 (evOK_l he)
  obtain ⟨hj', y, g2, e2⟩ := e_bothl m hg mo1 r1 (402 - l1) l1 _ j cc2 f2 y1 hl (by have := m.2.2.2.2.1; omega) x2 (evOK_r he)
  have hv := m.2.1
  have hk := m.1.1
  have b0' : ∀ b, bz b = 0 ∨ bz b = 1 := fun _ => bz_1
  refine ⟨hj', y, fun us hu => ?_, ?_⟩
  · rw [exL_app, g1 us (by omega), g2 us (by omega)]
  · rw [← e2]
    simp (maxDischargeDepth := 60) only [hk, x_210_0, x_210_1, x_210_4, x_210_6, x_210_9, x_210_12, x_210_15, x_210_16, x_210_19, x_210_20, x_210_22, x_210_25, x_210_26, x_210_26i, x_210_27, x_210_30, x_210_31, x_210_32, x_210_35, x_210_36, x_210_37, x_210_40, x_210_41, x_210_42, x_210_45, x_210_46, c_210, hv, e1, b0', Option.bind_some, mAft_n, mAft_v, mAft_x, mS_n, mS_i, mS_r, mS_l, mS_d, ne_eq, not_false_eq_true, not_true_eq_false, true_or, or_true, and_true, true_and, if_true, if_false, ite_true, ite_false, reduceIte, Nat.reduceAdd, Nat.reduceLeDiff, Nat.reduceEqDiff, false_and, and_false, or_false, false_or, eq_self, reduceCtorEq, mi_316, mi_317, ml_317, mi_318, ml_318, mi_319, ml_319, mi_320, ml_320, mi_321, ml_321, mi_322, ml_322, mi_359, ml_359, mv_316_1, mv_316_4, mv_316_7, mv_316_8, mv_316_9, mv_316_10, mv_316_13, mv_316_14, mv_316_15, pi_0, pi_1, pl_1, pv_1, pi_2, pl_2, pv_2, pi_3, pl_3, pv_3, pi_4, pl_4, pv_4, pi_5, pl_5, pv_5, pi_6, pl_6, pv_10, pi_7, pl_7, pv_11, pi_8, pl_8, pv_12, pi_9, pl_9, pv_13, pi_10, pl_10, pv_14, pi_11, pl_11, pv_15, pv_20, wi_0, wi_1, wl_1, wv_14, wi_2, wl_2, wv_15, wi_3, wl_3, wv_16, wi_4, wl_4, wv_17, wi_5, wl_5, wv_18, wv_21, pt_P, pt_v, pt_w, pt_SI, pt_SL, kM_SI, kM_SL, lI_SL, lV_SL, lK_SL, lN_SL, lL_SL, lIs_SL, nI_SI, nV_SI, nK_SI, nN_SI, nL_SI, nIs_SI, pp_c, pp_l, pp_r, pp_k, pp_k0, pp_j, pp_j0, isl]
theorem e_test {D g : Nat} {one : PA} {h : mH} {v who : Nat} {lim : Int32} {S : VS} {cl : List CL} {dn : List NS} {ps : List PT} {vs : List (Int32 × Int32 × Int32)} {k : Nat → Nat} {n : Nat} {V : Nat → Int32} (m : xS h v who lim S cl dn ps vs k n V) (hg : 1 ≤ g) (mo1 : mo one) (r1 : RB h v (vKK vs (Int32.ofNat who) lim) cl S V ps.length n g D 209 one) : RB h v (vKK vs (Int32.ofNat who) lim) cl S V ps.length n (g + 2) (D + 2) 211 (pTst k one) := by
  intro i b j c e hi hP he
  have r2 := e_both m hg mo1 r1
  obtain ⟨l1, cc1, f1, cc2, f2, x1, x2, hc, he'⟩ := sq_inv hP
  subst hc he'
  obtain ⟨hl, y1, g1, e1⟩ := r2 _ _ _ _ _ hi x1 (evOK_l he)
  obtain ⟨hj', y, g2, e2⟩ := e_testl m (Nat.le_add_left 1 g) (mo_bth mo1) r2 (402 - l1) l1 _ j cc2 f2 y1 hl (by have := m.2.2.2.2.1; omega) x2 (evOK_r he)
  have hv := m.2.1
  have hk := m.1.1
  have b0' : ∀ b, bz b = 0 ∨ bz b = 1 := fun _ => bz_1
  refine ⟨hj', y, fun us hu => ?_, ?_⟩
  · rw [exL_app, g1 us (by omega), g2 us (by omega)]
  · rw [← e2]
    simp (maxDischargeDepth := 60) only [hk, x_211_0, x_211_1, x_211_4, x_211_6, x_211_9, x_211_12, x_211_15, x_211_16, x_211_19, x_211_20, x_211_22, x_211_25, x_211_26, x_211_26i, x_211_27, x_211_30, x_211_31, x_211_32, x_211_35, x_211_36, x_211_37, x_211_40, x_211_41, x_211_42, x_211_45, x_211_46, c_211, hv, e1, b0', Option.bind_some, mAft_n, mAft_v, mAft_x, mS_n, mS_i, mS_r, mS_l, mS_d, ne_eq, not_false_eq_true, not_true_eq_false, true_or, or_true, and_true, true_and, if_true, if_false, ite_true, ite_false, reduceIte, Nat.reduceAdd, Nat.reduceLeDiff, Nat.reduceEqDiff, false_and, and_false, or_false, false_or, eq_self, reduceCtorEq, mi_316, mi_317, ml_317, mi_318, ml_318, mi_319, ml_319, mi_320, ml_320, mi_321, ml_321, mi_322, ml_322, mi_359, ml_359, mv_316_1, mv_316_4, mv_316_7, mv_316_8, mv_316_9, mv_316_10, mv_316_13, mv_316_14, mv_316_15, pi_0, pi_1, pl_1, pv_1, pi_2, pl_2, pv_2, pi_3, pl_3, pv_3, pi_4, pl_4, pv_4, pi_5, pl_5, pv_5, pi_6, pl_6, pv_10, pi_7, pl_7, pv_11, pi_8, pl_8, pv_12, pi_9, pl_9, pv_13, pi_10, pl_10, pv_14, pi_11, pl_11, pv_15, pv_20, wi_0, wi_1, wl_1, wv_14, wi_2, wl_2, wv_15, wi_3, wl_3, wv_16, wi_4, wl_4, wv_17, wi_5, wl_5, wv_18, wv_21, pt_P, pt_v, pt_w, pt_SI, pt_SL, kM_SI, kM_SL, lI_SL, lV_SL, lK_SL, lN_SL, lL_SL, lIs_SL, nI_SI, nV_SI, nK_SI, nN_SI, nL_SI, nIs_SI, pp_c, pp_l, pp_r, pp_k, pp_k0, pp_j, pp_j0, isl]
