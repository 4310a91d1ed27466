/-! THE REFERENCE: TEACH -/
theorem pt_12 {h : mH} (hk : kM h) : mV h 316 12 = .ref (658 - pt h) ∧ mV h 316 11 = .ref (pt h) ∧ isP (658 - pt h) := by
  unfold pt
  rcases hk.2.2.2 with ⟨e1, e2⟩ | ⟨e1, e2⟩
  · rw [e1, e2]; exact ⟨rfl, rfl, Or.inr rfl⟩
  · rw [e1, e2]; exact ⟨rfl, rfl, Or.inl rfl⟩
theorem kM_swap {h : mH} (hk : kM h) : kM (mSV (mSV h 316 11 (.ref (658 - pt h))) 316 12 (.ref (pt h))) ∧ pt (mSV (mSV h 316 11 (.ref (658 - pt h))) 316 12 (.ref (pt h))) = 658 - pt h := by
  have hP := pt_P hk
  obtain ⟨k1, k2, k3, k4⟩ := hk
  refine ⟨⟨k1, k2, fun q hq => ?_, ?_⟩, rfl⟩
  · have b : ∀ q, q ∈ mmRt → ¬ (q.1 = 316 ∧ q.2.1 = 11) ∧ ¬ (q.1 = 316 ∧ q.2.1 = 12) := by decide +kernel
    show (if q.1 = 316 ∧ q.2.1 = 12 then _ else if q.1 = 316 ∧ q.2.1 = 11 then _ else mV h q.1 q.2.1) = _
    rw [if_neg (b q hq).2, if_neg (b q hq).1]
    exact k3 q hq
  · show (Value.ref (658 - pt h) = .ref 323 ∧ Value.ref (pt h) = .ref 335) ∨ (Value.ref (658 - pt h) = .ref 335 ∧ Value.ref (pt h) = .ref 323)
    rcases hP with e | e <;> rw [e]
    · exact Or.inr ⟨rfl, rfl⟩
    · exact Or.inl ⟨rfl, rfl⟩
theorem m_teach {D : Nat} {h : mH} {E : EV} {rn pn tn : List (List Int32)} {B : List Int32} {ep : Int32} {vs : List (Int32 × Int32 × Int32)} {hv : Bool} {S : VS} {ea : Bool} {P : List Int32} (m : mG h (E, rn, pn, tn, B, ep, vs, hv, S, ea, P)) : ∃ H, mCall (D + 38) 125 [.ref 316] h = some (.inl (some (.int (tRes B).1)), H) ∧ mI H 316 0 = 0 ∧ FMc 402 h H ∧
    (¬ (tRes B).1 = 0 → mG H (E, rn, pn, tn, [], (tRes B).2, vs, hv, S, ea, P)) ∧
    ((tRes B).1 = 0 → mG H (eOf (tG B).2.2.2.2.2.2.2.1 (tM B).2.2, (tM B).2.2.1, (tM B).2.2.2.2.2.2.1, (tM B).2.2.2.2.2.2.2.2.2.2.2.2.1, [], -1, vs, false, S, ea, P)) ∧
    ((tG B).2.2.2.2.1 = false → nGd B (tD B) (tM0 B)) ∧
    ((tRes B).1 = 0 → ∃ c j Q, (tG B).2.2.2.2.2.2.2.1 = c.map (·.1) ∧ NR B c j c.length (tM B).2.2 Q) := by
  have m0 := m
  obtain ⟨hk, hP, mc, h12, vi, vo, tp, hb, hep, pp, vt, md, pa, r1, r2, r3, r4, w, g1⟩ := mG_p m
  have hl := tp.2.1
  obtain ⟨p12, p11, hp⟩ := pt_12 hk
  generalize hpe : 658 - pt h = p at p12 hp
  have hpo : ∀ a, a ≤ 322 ∨ 347 ≤ a → ¬ (p ≤ a ∧ a ≤ p + 11) := by
    intro a ha
    rcases hp with e | e <;> omega
  have hpr : 323 ≤ p ∧ p ≤ 335 := by rcases hp with e | e <;> omega
  have hk1 : kM (mSI h 316 0 0) := hk
  have tp1 : tpR (mSI h 316 0 0) B := by
    refine ⟨?_, tp.2.1, fun k hk => ?_⟩
    · rw [nI_SI, if_neg (by decide)]; exact tp.1
    · rw [nI_SI, if_neg (by omega)]; exact tp.2.2 k hk
  obtain ⟨G, tg, sk, fG, rt⟩ := s_read (D := D) (p := p) hk1 hp tp1 hb
  have res := tch_res hl sk
  have r402 : ∀ {j : Nat}, True := trivial
  -- up to the reading
  have E0 : ∀ (x : Int32) (H : mH), mCall (D + 37) 123 [.ref p] (mSI h 316 0 0) = some (.inl (some (.int x)), H) → mCall (D + 38) 125 [.ref 316] h = mExec (mCall (D + 37)) 125 12 [some (.ref 316), none, none] [.int x] H := by
    intro x H e
    simp (maxDischargeDepth := 60) only [hk, x_125_0, x_125_1, x_125_2, x_125_5, x_125_6, x_125_9, x_125_13, x_125_14, x_125_15, x_125_18, x_125_21, x_125_24, x_125_25, x_125_26, x_125_29, x_125_30, x_125_33, x_125_34, x_125_35, x_125_36, x_125_39, x_125_40, x_125_41, x_125_42, x_125_45, x_125_48, x_125_49, x_125_50, x_125_53, x_125_54, x_125_57, x_125_58, x_125_61, x_125_62, x_125_65, x_125_66, x_125_69, x_125_70, x_125_73, x_125_74, x_125_77, x_125_78, x_125_81, x_125_82, x_125_85, x_125_86, c_125, p12, e, hp, hpe, Option.bind_some, mAft_n, mAft_v, mAft_x, mS_n, mS_i, mS_r, mS_l, mS_d, ne_eq, not_false_eq_true, not_true_eq_false, true_or, or_true, and_true, true_and, if_true, if_false, ite_true, ite_false, reduceIte, Nat.reduceAdd, Nat.reduceLeDiff, Nat.reduceEqDiff, false_and, and_false, or_false, false_or, eq_self, reduceCtorEq, mi_316, mi_317, ml_317, mi_318, ml_318, mi_319, ml_319, mi_320, ml_320, mi_321, ml_321, mi_322, ml_322, mi_359, ml_359, mv_316_1, mv_316_4, mv_316_7, mv_316_8, mv_316_9, mv_316_10, mv_316_13, mv_316_14, mv_316_15, pi_0, pi_1, pl_1, pv_1, pi_2, pl_2, pv_2, pi_3, pl_3, pv_3, pi_4, pl_4, pv_4, pi_5, pl_5, pv_5, pi_6, pl_6, pv_10, pi_7, pl_7, pv_11, pi_8, pl_8, pv_12, pi_9, pl_9, pv_13, pi_10, pl_10, pv_14, pi_11, pl_11, pv_15, pv_20, wi_0, wi_1, wl_1, wv_14, wi_2, wl_2, wv_15, wi_3, wl_3, wv_16, wi_4, wl_4, wv_17, wi_5, wl_5, wv_18, wv_21, pt_P, pt_v, pt_w, pt_SI, pt_SL, kM_SI, kM_SL, lI_SL, lV_SL, lK_SL, lN_SL, lL_SL, lIs_SL, nI_SI, nV_SI, nK_SI, nN_SI, nL_SI, nIs_SI, pp_c, pp_l, pp_r, pp_k, pp_k0, pp_j, pp_j0, isl]
  have E1 : ∀ (x : Int32) (H : mH), kM H → pt H = pt h → ¬ x = 0 → mExec (mCall (D + 37)) 125 12 [some (.ref 316), none, none] [.int x] H = some (.inl (some (.int x)), mSI (mSI H 316 3 (mI H p 19)) 316 2 0) := by
    intro x H hk ep hx
    have q12 := (pt_12 hk).1
    rw [ep, hpe] at q12
    rw [x_125_12]
    simp (maxDischargeDepth := 60) only [hk, x_125_0, x_125_1, x_125_2, x_125_5, x_125_6, x_125_9, x_125_13, x_125_14, x_125_15, x_125_18, x_125_21, x_125_24, x_125_25, x_125_26, x_125_29, x_125_30, x_125_33, x_125_34, x_125_35, x_125_36, x_125_39, x_125_40, x_125_41, x_125_42, x_125_45, x_125_48, x_125_49, x_125_50, x_125_53, x_125_54, x_125_57, x_125_58, x_125_61, x_125_62, x_125_65, x_125_66, x_125_69, x_125_70, x_125_73, x_125_74, x_125_77, x_125_78, x_125_81, x_125_82, x_125_85, x_125_86, q12, hp, hx, ep, hpe, Option.bind_some, mAft_n, mAft_v, mAft_x, mS_n, mS_i, mS_r, mS_l, mS_d, ne_eq, not_false_eq_true, not_true_eq_false, true_or, or_true, and_true, true_and, if_true, if_false, ite_true, ite_false, reduceIte, Nat.reduceAdd, Nat.reduceLeDiff, Nat.reduceEqDiff, false_and, and_false, or_false, false_or, eq_self, reduceCtorEq, mi_316, mi_317, ml_317, mi_318, ml_318, mi_319, ml_319, mi_320, ml_320, mi_321, ml_321, mi_322, ml_322, mi_359, ml_359, mv_316_1, mv_316_4, mv_316_7, mv_316_8, mv_316_9, mv_316_10, mv_316_13, mv_316_14, mv_316_15, pi_0, pi_1, pl_1, pv_1, pi_2, pl_2, pv_2, pi_3, pl_3, pv_3, pi_4, pl_4, pv_4, pi_5, pl_5, pv_5, pi_6, pl_6, pv_10, pi_7, pl_7, pv_11, pi_8, pl_8, pv_12, pi_9, pl_9, pv_13, pi_10, pl_10, pv_14, pi_11, pl_11, pv_15, pv_20, wi_0, wi_1, wl_1, wv_14, wi_2, wl_2, wv_15, wi_3, wl_3, wv_16, wi_4, wl_4, wv_17, wi_5, wl_5, wv_18, wv_21, pt_P, pt_v, pt_w, pt_SI, pt_SL, kM_SI, kM_SL, lI_SL, lV_SL, lK_SL, lN_SL, lL_SL, lIs_SL, nI_SI, nV_SI, nK_SI, nN_SI, nL_SI, nIs_SI, pp_c, pp_l, pp_r, pp_k, pp_k0, pp_j, pp_j0, isl]
  have E2 : ∀ (H : mH), kM H → pt H = pt h → ∃ K, mExec (mCall (D + 37)) 125 12 [some (.ref 316), none, none] [.int 0] H = some (.inl (some (.int 0)), K) ∧ Fr [320] (mSI (mSI (mSI (mSV (mSV (mSI (mSI H 316 3 (mI H p 19)) 316 2 0) 316 11 (.ref p)) 316 12 (.ref (pt h))) 347 0 0) 347 13 0) 347 6 0) K ∧ (∀ j, j < 12 → mI K 320 j = 0) ∧ kM K ∧ pt K = p := by
    intro H hk ep
    have q12 := (pt_12 hk).1
    have q11 := (pt_12 hk).2.1
    rw [ep, hpe] at q12
    rw [ep] at q11
    have hkX : kM (mSI (mSI (mSI (mSV (mSV (mSI (mSI H 316 3 (mI H p 19)) 316 2 0) 316 11 (.ref p)) 316 12 (.ref (pt h))) 347 0 0) 347 13 0) 347 6 0) := by
      have := (kM_swap (h := mSI (mSI H 316 3 (mI H p 19)) 316 2 0) hk).1
      have e : pt (mSI (mSI H 316 3 (mI H p 19)) 316 2 0) = pt h := ep
      rw [e, hpe] at this
      exact this
    obtain ⟨K, k1, k2, k3⟩ := m_fill (d := D + 36) (a := 320) (n := 12) (x := 0) (mi_320 hkX) (by rw [kM_k hkX (by omega) (by omega) rfl]; decide +kernel) (by decide)
    have hkS : kM (mSV (mSV (mSI (mSI H 316 3 (mI H p 19)) 316 2 0) 316 11 (.ref p)) 316 12 (.ref (pt h))) := hkX
    have i1 : mIs (mSV (mSI (mSI H 316 3 (mI H p 19)) 316 2 0) 316 11 (.ref p)) 316 13 = true := show mIs H 316 13 = true from mi_316 hk
    have st1 : mExec (mCall (D + 37)) 125 12 [some (.ref 316), none, none] [.int 0] H = mExec (mCall (D + 37)) 125 53 [some (.ref 316), some (.int 0), some (.ref (pt h))] [] (mSV (mSV (mSI (mSI H 316 3 (mI H p 19)) 316 2 0) 316 11 (.ref p)) 316 12 (.ref (pt h))) := by
      rw [x_125_12]
      simp (maxDischargeDepth := 60) only [hk, x_125_0, x_125_1, x_125_2, x_125_5, x_125_6, x_125_9, x_125_13, x_125_14, x_125_15, x_125_18, x_125_21, x_125_24, x_125_25, x_125_26, x_125_29, x_125_30, x_125_33, x_125_34, x_125_35, x_125_36, x_125_39, x_125_40, x_125_41, x_125_42, x_125_45, x_125_48, x_125_49, x_125_50, x_125_54, x_125_57, x_125_58, x_125_61, x_125_62, x_125_65, x_125_66, x_125_69, x_125_70, x_125_73, x_125_74, x_125_77, x_125_78, x_125_81, x_125_82, x_125_85, x_125_86, q12, q11, hp, ep, hpe, i1, Option.bind_some, mAft_n, mAft_v, mAft_x, mS_n, mS_i, mS_r, mS_l, mS_d, ne_eq, not_false_eq_true, not_true_eq_false, true_or, or_true, and_true, true_and, if_true, if_false, ite_true, ite_false, reduceIte, Nat.reduceAdd, Nat.reduceLeDiff, Nat.reduceEqDiff, false_and, and_false, or_false, false_or, eq_self, reduceCtorEq, mi_316, mi_317, ml_317, mi_318, ml_318, mi_319, ml_319, mi_320, ml_320, mi_321, ml_321, mi_322, ml_322, mi_359, ml_359, mv_316_1, mv_316_4, mv_316_7, mv_316_8, mv_316_9, mv_316_10, mv_316_13, mv_316_14, mv_316_15, pi_0, pi_1, pl_1, pv_1, pi_2, pl_2, pv_2, pi_3, pl_3, pv_3, pi_4, pl_4, pv_4, pi_5, pl_5, pv_5, pi_6, pl_6, pv_10, pi_7, pl_7, pv_11, pi_8, pl_8, pv_12, pi_9, pl_9, pv_13, pi_10, pl_10, pv_14, pi_11, pl_11, pv_15, pv_20, wi_0, wi_1, wl_1, wv_14, wi_2, wl_2, wv_15, wi_3, wl_3, wv_16, wi_4, wl_4, wv_17, wi_5, wl_5, wv_18, wv_21, pt_P, pt_v, pt_w, pt_SI, pt_SL, kM_SI, kM_SL, lI_SL, lV_SL, lK_SL, lN_SL, lL_SL, lIs_SL, nI_SI, nV_SI, nK_SI, nN_SI, nL_SI, nIs_SI, pp_c, pp_l, pp_r, pp_k, pp_k0, pp_j, pp_j0, isl]
    refine ⟨K, ?_, k2, k3, kM_Fr' k2 hkX, pt_Fr k2⟩
    rw [st1]
    clear st1 i1 hkX q12 q11 hk
    generalize mSV (mSV (mSI (mSI H 316 3 (mI H p 19)) 316 2 0) 316 11 (.ref p)) 316 12 (.ref (pt h)) = X1 at k1 hkS
    have hk := hkS
    have i347 : mIs X1 347 12 = true := kM_is hkS (by omega) (by omega) (by decide +kernel)
    rw [x_125_53]
    simp (maxDischargeDepth := 60) only [hk, x_125_0, x_125_1, x_125_2, x_125_5, x_125_6, x_125_9, x_125_12, x_125_13, x_125_14, x_125_15, x_125_18, x_125_21, x_125_24, x_125_25, x_125_26, x_125_29, x_125_30, x_125_33, x_125_34, x_125_35, x_125_36, x_125_39, x_125_40, x_125_41, x_125_42, x_125_45, x_125_48, x_125_49, x_125_50, x_125_54, x_125_57, x_125_58, x_125_61, x_125_62, x_125_65, x_125_66, x_125_69, x_125_70, x_125_73, x_125_74, x_125_77, x_125_78, x_125_81, x_125_82, x_125_85, x_125_86, k1, i347, Option.bind_some, mAft_n, mAft_v, mAft_x, mS_n, mS_i, mS_r, mS_l, mS_d, ne_eq, not_false_eq_true, not_true_eq_false, true_or, or_true, and_true, true_and, if_true, if_false, ite_true, ite_false, reduceIte, Nat.reduceAdd, Nat.reduceLeDiff, Nat.reduceEqDiff, false_and, and_false, or_false, false_or, eq_self, reduceCtorEq, mi_316, mi_317, ml_317, mi_318, ml_318, mi_319, ml_319, mi_320, ml_320, mi_321, ml_321, mi_322, ml_322, mi_359, ml_359, mv_316_1, mv_316_4, mv_316_7, mv_316_8, mv_316_9, mv_316_10, mv_316_13, mv_316_14, mv_316_15, pi_0, pi_1, pl_1, pv_1, pi_2, pl_2, pv_2, pi_3, pl_3, pv_3, pi_4, pl_4, pv_4, pi_5, pl_5, pv_5, pi_6, pl_6, pv_10, pi_7, pl_7, pv_11, pi_8, pl_8, pv_12, pi_9, pl_9, pv_13, pi_10, pl_10, pv_14, pi_11, pl_11, pv_15, pv_20, wi_0, wi_1, wl_1, wv_14, wi_2, wl_2, wv_15, wi_3, wl_3, wv_16, wi_4, wl_4, wv_17, wi_5, wl_5, wv_18, wv_21, pt_P, pt_v, pt_w, pt_SI, pt_SL, kM_SI, kM_SL, lI_SL, lV_SL, lK_SL, lN_SL, lL_SL, lIs_SL, nI_SI, nV_SI, nK_SI, nN_SI, nL_SI, nIs_SI, pp_c, pp_l, pp_r, pp_k, pp_k0, pp_j, pp_j0, isl]
  have EQ : ∀ H, FT p 402 (mSI h 316 0 0) H → EQP p h (mSI (mSI H 316 3 (mI H p 19)) 316 2 0) := by
    intro H f
    obtain ⟨f1, f2, f3, f4, f5, f6, f7⟩ := f
    refine ⟨fun a h0 h1 h2 => ⟨fun j => ?_, ?_⟩, fun a ha => ⟨?_, f3 a (by omega)⟩, f4⟩
    · by_cases c : a = 316 ∧ (j = 0 ∨ j = 2 ∨ j = 3)
      · exact Or.inl c
      · right
        rw [nI_SI, if_neg (by omega), nI_SI, if_neg (by omega), (f1 a j (by omega) h2).1, nI_SI, if_neg (by omega)]
    · funext j
      exact (f1 a j (by omega) h2).2
    · funext j
      exact f2 a j (by omega)
  have FF : ∀ H, FT p 402 (mSI h 316 0 0) H → FMc 402 h (mSI (mSI H 316 3 (mI H p 19)) 316 2 0) := by
    intro H f
    obtain ⟨f1, f2, f3, f4, f5, f6, f7⟩ := f
    refine ⟨fun a ha => ⟨?_, ?_, ?_, f3 a (by omega)⟩, f4, f5, f6, ?_⟩
    · funext j
      rw [nI_SI, if_neg (by omega), nI_SI, if_neg (by omega), (f1 a j (by omega) (by omega)).1, nI_SI, if_neg (by omega)]
    · funext j
      exact (f1 a j (by omega) (by omega)).2
    · funext j
      exact f2 a j (by omega)
    · have : mS H ≤ mS h + 5 * 402 := f7
      show mS H ≤ mS h + 14 * 402
      omega
  have Z : ∀ H, FT p 402 (mSI h 316 0 0) H → mI H 316 0 = 0 := by
    intro H f
    rw [(f.1 316 0 (by omega) (hpo _ (by omega))).1, nI_SI, if_pos ⟨rfl, rfl⟩]
  have PT : ∀ H, FT p 402 (mSI h 316 0 0) H → pt H = pt h := by
    intro H f
    have : mV H 316 = mV h 316 := by funext j; exact f.2.1 316 j (by omega)
    unfold pt
    rw [this]
  rcases hT : pTxt (kdF B) 402 0 0 with ⟨j, _ | ⟨c', e⟩⟩
  · rw [hT] at res rt
    obtain ⟨e1, e2⟩ := res
    obtain ⟨H, a1, a2, a3, a4, a5⟩ := rt
    have f : FT p 402 (mSI h 316 0 0) H := FT_mono (FT_trans fG a5) (by omega)
    have a4 : mI H p 19 = mI G (p + 3) j := a4
    rw [e2]
    dsimp only
    refine ⟨_, (E0 _ _ a1).trans (E1 1 H a2 (PT H f) (by decide)), ?_, FF H f, fun _ => ?_, fun z => absurd z (by decide), fun z => ?_, fun z => absurd z (by decide)⟩
    · rw [nI_SI, if_neg (by decide), nI_SI, if_neg (by decide)]; exact Z H f
    · exact told_e m0 hpe.symm (EQ H f) (by rw [nI_SI, if_pos ⟨rfl, rfl⟩]) (by rw [nI_SI, if_neg (by decide), nI_SI, if_pos ⟨rfl, rfl⟩]; exact a4)
    · rw [e1] at z; cases z
  · rw [hT] at res rt
    obtain ⟨e1, e2, e3, e4, e5⟩ := res
    obtain ⟨H, a1, a2, a3, a4⟩ := rt
    have ek := evTs_k (e := e) (Q := rdQ B G p)
    have hj : j < (tT B).length := by
      have := a2.1.2.2.2.1
      rw [ek.2.1] at this
      exact this
    have h401 := (tT_ok hl).1
    have f : FT p 402 (mSI h 316 0 0) H := FT_mono (FT_trans fG a4) (by omega)
    have hkH := a2.1.1
    have h19 : mI H p 19 = (evTs (rdQ B G p) e).2.1.2.1 := by
      obtain ⟨⟨_, _, _, _, s1, s2, s3, s4, s5, s6, s7, s8, s9, sa, sb, sc, sd, _⟩, _⟩ := a2
      exact sd
    rw [e3] at a1
    by_cases z : (tRes B).1 = 0
    · rw [z] at a1 ⊢
      obtain ⟨z1, c, j', z2, z3, z4, z5⟩ := e5 z
      obtain ⟨K, k1, k2, k3, k4, k5⟩ := E2 H hkH (PT H f)
      have hm1 : mI H p 19 = -1 := by
        rw [h19, evTs_p (by rw [e3]; exact z)]
        rfl
      have KI : ∀ a, ¬ a = 320 → mI K a = mI (mSI (mSI (mSI (mSV (mSV (mSI (mSI H 316 3 (mI H p 19)) 316 2 0) 316 11 (.ref p)) 316 12 (.ref (pt h))) 347 0 0) 347 13 0) 347 6 0) a := by
        intro a ha
        funext j
        exact k2.2 a j (by rw [List.mem_singleton]; exact ha)
      have nSV : ∀ (g : mH) b q v, mI (mSV g b q v) = mI g := fun _ _ _ _ => rfl
      have KL : ∀ a, mL K a = mL H a := fun a => by
        have : mL K = mL H := congrArg (fun q => q.1) k2.1
        rw [this]
      have ff := FF H f
      refine ⟨K, (E0 _ _ a1).trans k1, ?_, ?_, fun y => absurd rfl y, fun _ => ?_, fun _ => e2, fun _ => ⟨c, j', _, z3, z5⟩⟩
      · rw [KI 316 (by decide), nI_SI, if_neg (by decide), nI_SI, if_neg (by decide), nI_SI, if_neg (by decide), nSV, nSV, nI_SI, if_neg (by decide), nI_SI, if_neg (by decide)]
        exact Z H f
      · refine FMc_Fr (W := [320]) (H := mSI (mSI (mSI (mSV (mSV (mSI (mSI H 316 3 (mI H p 19)) 316 2 0) 316 11 (.ref p)) 316 12 (.ref (pt h))) 347 0 0) 347 13 0) 347 6 0) (FMc_SI (FMc_SI (FMc_SI ?_ (by decide)) (by decide)) (by decide)) k2 (by decide)
        obtain ⟨g1, g2, g3, g4, g5⟩ := ff
        refine ⟨fun a ha => ⟨(g1 a ha).1, (g1 a ha).2.1, ?_, (g1 a ha).2.2.2⟩, g2, g3, g4, g5⟩
        rw [← (g1 a ha).2.2.1]
        funext j
        show (if a = 316 ∧ j = 12 then _ else if a = 316 ∧ j = 11 then _ else _) = _
        rw [if_neg (by omega), if_neg (by omega)]
        rfl
      · rw [z3]
        obtain ⟨f1, f2, f3, f4, f5, f6, f7⟩ := f
        refine told_n m0 hl hpe.symm a2 z5 ?_ ?_ f4 ?_ ?_ ?_ ?_ ?_ k3 ?_ k4 k5 ?_
        · intro a ha hb
          funext j
          rw [(f1 a j (by omega) (hpo _ (by omega))).1, nI_SI, if_neg (by omega)]
        · intro i hi
          rw [(f1 316 i (by omega) (hpo _ (by omega))).1, nI_SI, if_neg (by omega)]
        · intro a ha hb
          refine ⟨?_, KL a⟩
          rw [KI a (by omega)]
          funext j
          rw [nI_SI, if_neg (by omega), nI_SI, if_neg (by omega), nI_SI, if_neg (by omega), nSV, nSV, nI_SI, if_neg (by omega), nI_SI, if_neg (by omega)]
        · intro a ha hb
          rw [KI a (by omega)]
          funext j
          rw [nI_SI, if_neg (by omega), nI_SI, if_neg (by omega), nI_SI, if_neg (by omega), nSV, nSV, nI_SI, if_neg (by omega), nI_SI, if_neg (by omega)]
        · intro i hi
          rw [KI 316 (by omega)]
          rw [nI_SI, if_neg (by omega), nI_SI, if_neg (by omega), nI_SI, if_neg (by omega), nSV, nSV, nI_SI, if_neg (by omega), nI_SI, if_neg (by omega)]
        · rw [KI 316 (by omega), nI_SI, if_neg (by decide), nI_SI, if_neg (by decide), nI_SI, if_neg (by decide), nSV, nSV, nI_SI, if_pos ⟨rfl, rfl⟩]
        · rw [KI 316 (by omega), nI_SI, if_neg (by decide), nI_SI, if_neg (by decide), nI_SI, if_neg (by decide), nSV, nSV, nI_SI, if_neg (by decide), nI_SI, if_pos ⟨rfl, rfl⟩]
          exact hm1
        · rw [KI 347 (by omega)]
          simp only [nI_SI, true_and, and_self, if_true, Nat.reduceEqDiff, if_false, Nat.zero_ne_one, Nat.one_ne_zero]
        · exact Nat.le_of_eq (Fr_N k2).symm
    · refine ⟨_, (E0 _ _ a1).trans (E1 _ H hkH (PT H f) z), ?_, FF H f, fun _ => ?_, fun y => absurd y z, fun _ => e2, fun y => absurd y z⟩
      · rw [nI_SI, if_neg (by decide), nI_SI, if_neg (by decide)]; exact Z H f
      · exact told_e m0 hpe.symm (EQ H f) (by rw [nI_SI, if_pos ⟨rfl, rfl⟩]) (by rw [nI_SI, if_neg (by decide), nI_SI, if_pos ⟨rfl, rfl⟩]; exact h19.trans (e4 z))
