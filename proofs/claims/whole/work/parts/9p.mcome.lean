/-! THE REFERENCE'S VISITORS COME -/
theorem Fr_Cpy {W : List Nat} {h H : mH} {a i b j n : Nat} (f : Fr W h H) (hb : b ∈ W) : Fr W h (mCpy H a i b j n) := by
  refine ⟨f.1, fun x y hx => ?_⟩
  show (if x = b ∧ j ≤ y ∧ y < j + n then _ else mI H x y) = _
  rw [if_neg (by rintro ⟨z, _⟩; exact hx (by rw [z]; exact hb))]
  exact f.2 x y hx
theorem lg_app {α : Type} {l : List α} {x : α} {f : α → Int32} {v : Nat} (hl : l.length ≤ 1000) (h : v < l.length + 1) : lg ((l ++ [x]).map f) (Int32.ofNat v) = if v = l.length then f x else lg (l.map f) (Int32.ofNat v) := by
  rw [lg_of (by omega), lg_of (by omega), List.map_append, List.getD_eq_getElem?_getD, List.getD_eq_getElem?_getD]
  by_cases c : v = l.length
  · rw [if_pos c, c, List.getElem?_append_right (by rw [List.length_map]; exact Nat.le_refl _), List.length_map, Nat.sub_self]; rfl
  · rw [if_neg c, List.getElem?_append_left (by rw [List.length_map]; omega)]
def mmC : Nat → Int32 := fun e => if e = 1 then 1 else 2
theorem m_come {d : Nat} {a b c : Int32} {h : mH} {E : EV} {rn pn tn : List (List Int32)} {B : List Int32} {ep : Int32} {vs : List (Int32 × Int32 × Int32)} {hv : Bool} {S : VS} {ea : Bool} {P : List Int32} (m : mG h (E, rn, pn, tn, B, ep, vs, hv, S, ea, P)) : MR h (E, rn, pn, tn, B, ep, (if ¬ (inR a 1 9 = true ∧ inR b 10 500 = true ∧ inR c 0 2 = true) then vs else if 8 ≤ vs.length then vs else vs ++ [(a, b, c)]), hv, S, ea, P) (mCall (d + 3) 166 [.ref 316, .int a, .int b, .int c] h) mmC (if ¬ (inR a 1 9 = true ∧ inR b 10 500 = true ∧ inR c 0 2 = true) then .inr 1 else if 8 ≤ vs.length then .inr 0 else .inl (Int32.ofNat vs.length)) := by
  have m0 := m
  obtain ⟨hk, hp, mc, h12, ⟨v1, v2, v3⟩, vo, tp, hb, hep, pp, vt, md, pa, r1, r2, r3, r4, ww, g1⟩ := mG_p m
  by_cases c0 : inR a 1 9 = true ∧ inR b 10 500 = true ∧ inR c 0 2 = true
  case neg =>
    rw [if_pos c0, if_pos c0]
    refine MR_thr m0 ?_
    cases d1 : inR a 1 9
    · simp (maxDischargeDepth := 60) only [hk, x_166_0, x_166_1, x_166_2, x_166_5, x_166_6, x_166_7, x_166_9, x_166_12, x_166_15, x_166_16, x_166_18, x_166_21, x_166_24, x_166_27, x_166_28, x_166_29, x_166_30, x_166_33, x_166_36, x_166_37, x_166_38, x_166_41, x_166_42, x_166_43, x_166_46, x_166_48, x_166_51, x_166_52, x_166_53, x_166_56, x_166_57, x_166_58, x_166_60, x_166_60i, x_166_61, x_166_62, x_166_63, x_166_64, x_166_64i, x_166_65, x_166_66, x_166_67, x_166_68, x_166_68i, x_166_69, x_166_70, x_166_71, x_166_72, x_166_74, x_166_76, x_166_77, x_166_78, x_166_81, x_166_82, x_166_83, x_166_86, x_166_87, x_166_88, x_166_91, x_166_92, x_166_92i, x_166_93, x_166_96, x_166_97, x_166_98, x_166_101, x_166_102, x_166_105, x_166_106, x_166_107, c_166, m_isIn, d1, bz_0, m_no, SI_SI, Option.bind_some, mAft_n, mAft_v, mAft_x, mS_n, mS_i, mS_r, mS_l, mS_d, ne_eq, not_false_eq_true, not_true_eq_false, true_or, or_true, and_true, true_and, if_true, if_false, ite_true, ite_false, reduceIte, Nat.reduceAdd, Nat.reduceLeDiff, Nat.reduceEqDiff, false_and, and_false, or_false, false_or, eq_self, reduceCtorEq, mi_316, mi_317, ml_317, mi_318, ml_318, mi_319, ml_319, mi_320, ml_320, mi_321, ml_321, mi_322, ml_322, mi_359, ml_359, mv_316_1, mv_316_4, mv_316_7, mv_316_8, mv_316_9, mv_316_10, mv_316_13, mv_316_14, mv_316_15, pi_0, pi_1, pl_1, pv_1, pi_2, pl_2, pv_2, pi_3, pl_3, pv_3, pi_4, pl_4, pv_4, pi_5, pl_5, pv_5, pi_6, pl_6, pv_10, pi_7, pl_7, pv_11, pi_8, pl_8, pv_12, pi_9, pl_9, pv_13, pi_10, pl_10, pv_14, pi_11, pl_11, pv_15, pv_20, wi_0, wi_1, wl_1, wv_14, wi_2, wl_2, wv_15, wi_3, wl_3, wv_16, wi_4, wl_4, wv_17, wi_5, wl_5, wv_18, wv_21, pt_P, pt_v, pt_w, pt_SI, pt_SL, kM_SI, kM_SL, lI_SL, lV_SL, lK_SL, lN_SL, lL_SL, lIs_SL, nI_SI, nV_SI, nK_SI, nN_SI, nL_SI, nIs_SI, pp_c, pp_l, pp_r, pp_k, pp_k0, pp_j, pp_j0, isl]
      rfl
    · cases d2 : inR b 10 500
      · simp (maxDischargeDepth := 60) only [hk, x_166_0, x_166_1, x_166_2, x_166_5, x_166_6, x_166_7, x_166_9, x_166_12, x_166_15, x_166_16, x_166_18, x_166_21, x_166_24, x_166_27, x_166_28, x_166_29, x_166_30, x_166_33, x_166_36, x_166_37, x_166_38, x_166_41, x_166_42, x_166_43, x_166_46, x_166_48, x_166_51, x_166_52, x_166_53, x_166_56, x_166_57, x_166_58, x_166_60, x_166_60i, x_166_61, x_166_62, x_166_63, x_166_64, x_166_64i, x_166_65, x_166_66, x_166_67, x_166_68, x_166_68i, x_166_69, x_166_70, x_166_71, x_166_72, x_166_74, x_166_76, x_166_77, x_166_78, x_166_81, x_166_82, x_166_83, x_166_86, x_166_87, x_166_88, x_166_91, x_166_92, x_166_92i, x_166_93, x_166_96, x_166_97, x_166_98, x_166_101, x_166_102, x_166_105, x_166_106, x_166_107, c_166, m_isIn, d1, d2, bz_0, Bool.true_eq_false, m_no, SI_SI, Option.bind_some, mAft_n, mAft_v, mAft_x, mS_n, mS_i, mS_r, mS_l, mS_d, ne_eq, not_false_eq_true, not_true_eq_false, true_or, or_true, and_true, true_and, if_true, if_false, ite_true, ite_false, reduceIte, Nat.reduceAdd, Nat.reduceLeDiff, Nat.reduceEqDiff, false_and, and_false, or_false, false_or, eq_self, reduceCtorEq, mi_316, mi_317, ml_317, mi_318, ml_318, mi_319, ml_319, mi_320, ml_320, mi_321, ml_321, mi_322, ml_322, mi_359, ml_359, mv_316_1, mv_316_4, mv_316_7, mv_316_8, mv_316_9, mv_316_10, mv_316_13, mv_316_14, mv_316_15, pi_0, pi_1, pl_1, pv_1, pi_2, pl_2, pv_2, pi_3, pl_3, pv_3, pi_4, pl_4, pv_4, pi_5, pl_5, pv_5, pi_6, pl_6, pv_10, pi_7, pl_7, pv_11, pi_8, pl_8, pv_12, pi_9, pl_9, pv_13, pi_10, pl_10, pv_14, pi_11, pl_11, pv_15, pv_20, wi_0, wi_1, wl_1, wv_14, wi_2, wl_2, wv_15, wi_3, wl_3, wv_16, wi_4, wl_4, wv_17, wi_5, wl_5, wv_18, wv_21, pt_P, pt_v, pt_w, pt_SI, pt_SL, kM_SI, kM_SL, lI_SL, lV_SL, lK_SL, lN_SL, lL_SL, lIs_SL, nI_SI, nV_SI, nK_SI, nN_SI, nL_SI, nIs_SI, pp_c, pp_l, pp_r, pp_k, pp_k0, pp_j, pp_j0, isl]
        rfl
      · cases d3 : inR c 0 2
        · simp (maxDischargeDepth := 60) only [hk, x_166_0, x_166_1, x_166_2, x_166_5, x_166_6, x_166_7, x_166_9, x_166_12, x_166_15, x_166_16, x_166_18, x_166_21, x_166_24, x_166_27, x_166_28, x_166_29, x_166_30, x_166_33, x_166_36, x_166_37, x_166_38, x_166_41, x_166_42, x_166_43, x_166_46, x_166_48, x_166_51, x_166_52, x_166_53, x_166_56, x_166_57, x_166_58, x_166_60, x_166_60i, x_166_61, x_166_62, x_166_63, x_166_64, x_166_64i, x_166_65, x_166_66, x_166_67, x_166_68, x_166_68i, x_166_69, x_166_70, x_166_71, x_166_72, x_166_74, x_166_76, x_166_77, x_166_78, x_166_81, x_166_82, x_166_83, x_166_86, x_166_87, x_166_88, x_166_91, x_166_92, x_166_92i, x_166_93, x_166_96, x_166_97, x_166_98, x_166_101, x_166_102, x_166_105, x_166_106, x_166_107, c_166, m_isIn, d1, d2, d3, bz_0, Bool.true_eq_false, m_no, SI_SI, Option.bind_some, mAft_n, mAft_v, mAft_x, mS_n, mS_i, mS_r, mS_l, mS_d, ne_eq, not_false_eq_true, not_true_eq_false, true_or, or_true, and_true, true_and, if_true, if_false, ite_true, ite_false, reduceIte, Nat.reduceAdd, Nat.reduceLeDiff, Nat.reduceEqDiff, false_and, and_false, or_false, false_or, eq_self, reduceCtorEq, mi_316, mi_317, ml_317, mi_318, ml_318, mi_319, ml_319, mi_320, ml_320, mi_321, ml_321, mi_322, ml_322, mi_359, ml_359, mv_316_1, mv_316_4, mv_316_7, mv_316_8, mv_316_9, mv_316_10, mv_316_13, mv_316_14, mv_316_15, pi_0, pi_1, pl_1, pv_1, pi_2, pl_2, pv_2, pi_3, pl_3, pv_3, pi_4, pl_4, pv_4, pi_5, pl_5, pv_5, pi_6, pl_6, pv_10, pi_7, pl_7, pv_11, pi_8, pl_8, pv_12, pi_9, pl_9, pv_13, pi_10, pl_10, pv_14, pi_11, pl_11, pv_15, pv_20, wi_0, wi_1, wl_1, wv_14, wi_2, wl_2, wv_15, wi_3, wl_3, wv_16, wi_4, wl_4, wv_17, wi_5, wl_5, wv_18, wv_21, pt_P, pt_v, pt_w, pt_SI, pt_SL, kM_SI, kM_SL, lI_SL, lV_SL, lK_SL, lN_SL, lL_SL, lIs_SL, nI_SI, nV_SI, nK_SI, nN_SI, nL_SI, nIs_SI, pp_c, pp_l, pp_r, pp_k, pp_k0, pp_j, pp_j0, isl]
          rfl
        · exact absurd ⟨d1, d2, d3⟩ c0
  obtain ⟨d1, d2, d3⟩ := c0
  have cc : ¬ ¬ (inR a 1 9 = true ∧ inR b 10 500 = true ∧ inR c 0 2 = true) := fun z => z ⟨d1, d2, d3⟩
  rw [if_neg cc, if_neg cc]
  have e8 : (Int32.ofNat vs.length = 8) = (vs.length = 8) := by rw [show (8 : Int32) = Int32.ofNat 8 from rfl, i_ofeq (by omega) (by omega)]
  by_cases c8 : 8 ≤ vs.length
  · rw [if_pos c8, if_pos c8]
    refine MR_thr m0 ?_
    have c8' := eq_true (show vs.length = 8 by omega)
    simp (maxDischargeDepth := 60) only [hk, x_166_0, x_166_1, x_166_2, x_166_5, x_166_6, x_166_7, x_166_9, x_166_12, x_166_15, x_166_16, x_166_18, x_166_21, x_166_24, x_166_27, x_166_28, x_166_29, x_166_30, x_166_33, x_166_36, x_166_37, x_166_38, x_166_41, x_166_42, x_166_43, x_166_46, x_166_48, x_166_51, x_166_52, x_166_53, x_166_56, x_166_57, x_166_58, x_166_60, x_166_60i, x_166_61, x_166_62, x_166_63, x_166_64, x_166_64i, x_166_65, x_166_66, x_166_67, x_166_68, x_166_68i, x_166_69, x_166_70, x_166_71, x_166_72, x_166_74, x_166_76, x_166_77, x_166_78, x_166_81, x_166_82, x_166_83, x_166_86, x_166_87, x_166_88, x_166_91, x_166_92, x_166_92i, x_166_93, x_166_96, x_166_97, x_166_98, x_166_101, x_166_102, x_166_105, x_166_106, x_166_107, c_166, m_isIn, d1, d2, d3, bz_0, Bool.true_eq_false, v1, e8, c8', m_no, SI_SI, Option.bind_some, mAft_n, mAft_v, mAft_x, mS_n, mS_i, mS_r, mS_l, mS_d, ne_eq, not_false_eq_true, not_true_eq_false, true_or, or_true, and_true, true_and, if_true, if_false, ite_true, ite_false, reduceIte, Nat.reduceAdd, Nat.reduceLeDiff, Nat.reduceEqDiff, false_and, and_false, or_false, false_or, eq_self, reduceCtorEq, mi_316, mi_317, ml_317, mi_318, ml_318, mi_319, ml_319, mi_320, ml_320, mi_321, ml_321, mi_322, ml_322, mi_359, ml_359, mv_316_1, mv_316_4, mv_316_7, mv_316_8, mv_316_9, mv_316_10, mv_316_13, mv_316_14, mv_316_15, pi_0, pi_1, pl_1, pv_1, pi_2, pl_2, pv_2, pi_3, pl_3, pv_3, pi_4, pl_4, pv_4, pi_5, pl_5, pv_5, pi_6, pl_6, pv_10, pi_7, pl_7, pv_11, pi_8, pl_8, pv_12, pi_9, pl_9, pv_13, pi_10, pl_10, pv_14, pi_11, pl_11, pv_15, pv_20, wi_0, wi_1, wl_1, wv_14, wi_2, wl_2, wv_15, wi_3, wl_3, wv_16, wi_4, wl_4, wv_17, wi_5, wl_5, wv_18, wv_21, pt_P, pt_v, pt_w, pt_SI, pt_SL, kM_SI, kM_SL, lI_SL, lV_SL, lK_SL, lN_SL, lL_SL, lIs_SL, nI_SI, nV_SI, nK_SI, nN_SI, nL_SI, nIs_SI, pp_c, pp_l, pp_r, pp_k, pp_k0, pp_j, pp_j0, isl]
    rfl
  rw [if_neg c8, if_neg c8]
  have c8' : ¬ vs.length = 8 := by omega
  have n3 : ¬ (3 : Int32) < 0 ∧ (3 : Int32).toNatClampNeg ≤ 65536 := by decide
  have k3 : (3 : Int32).toNatClampNeg = 3 := by decide
  generalize hg1 : mSI (mSI (mSI (mNew (mSI h 316 0 0) (100, 3) 3) (mN h) 0 a) (mN h) 1 b) (mN h) 2 c = G
  have hEQ : EQM h G := by
    rw [← hg1]
    exact EQM_out (EQM_out (EQM_out (EQM_new (EQM_thr EQM_r) (by show 360 ≤ mN h; omega)) (by omega)) (by omega)) (by omega)
  have mG1 := mG_eq hEQ m0
  have fm1 : FMc 1 h G := by
    rw [← hg1]
    exact FMc_SI (FMc_SI (FMc_SI (FMc_new (FMc_SI FMc_r (by omega)) (by show 361 ≤ mN h; omega) (by omega)) (by omega)) (by omega)) (by omega)
  obtain ⟨hkG, hpG, mcG, _, ⟨w1, w2, w3⟩, _, tpG, _, hepG, ppG, vtG, _, _, _, _, _, _, _, _⟩ := mG_p mG1
  have gA : ∀ j, j < 3 → mI G (mN h) j = if j = 2 then c else if j = 1 then b else a := by
    intro j hj
    rw [← hg1, nI_SI, nI_SI, nI_SI]
    match j, hj with
    | 0, _ => simp
    | 1, _ => simp
    | 2, _ => simp
  generalize hH : mSI (mCpy G (mN h) 0 319 (3 * vs.length) 3) 316 6 (Int32.ofNat (vs.length + 1)) = H
  have F : Fr [316, 319] G H := by rw [← hH]; exact Fr_SI (Fr_Cpy ⟨rfl, fun _ _ _ => rfl⟩ (by simp)) (by simp)
  have I : ∀ a, a ∉ [316, 319] → mI H a = mI G a := fun a ha => by funext j; exact Fr_I F ha
  have cp : ∀ x y, mI (mCpy G (mN h) 0 319 (3 * vs.length) 3) x y = if x = 319 ∧ 3 * vs.length ≤ y ∧ y < 3 * vs.length + 3 then mI G (mN h) (0 + (y - 3 * vs.length)) else mI G x y := fun x y => rfl
  have J : ∀ j, ¬ j = 6 → mI H 316 j = mI G 316 j := fun j h0 => by rw [← hH, nI_SI, if_neg (by omega), cp, if_neg (by omega)]
  have thr : mI G 316 0 = 0 := by
    rw [← hg1, mI_SI_other (by omega), mI_SI_other (by omega), mI_SI_other (by omega), nwI (by show 316 < mN h; omega), nI_SI, if_pos ⟨rfl, rfl⟩]
  refine ⟨H, ?_, (J 0 (by decide)).trans thr, ?_, FM_c (FMc_Fr fm1 F (by simp)) (by omega)⟩
  · have e3 : (3 : Int32) * Int32.ofNat vs.length = Int32.ofNat (3 * vs.length) := by rw [show (3 : Int32) = Int32.ofNat 3 from rfl, i_mulof]
    have en3 : (Int32.ofNat (3 * vs.length)).toNatClampNeg = 3 * vs.length := i_of_n (by omega)
    have p2 : ¬ Int32.ofNat (3 * vs.length) < 0 := by rw [Int32.lt_iff_toInt_lt, i_of_i (by omega)]; show ¬ ((_ : Nat) : Int) < 0; omega
    have p3 : ¬ (3 : Int32) < 0 := by decide
    have p0 : ¬ (0 : Int32) < 0 := by decide
    have t0 : (0 : Int32).toNatClampNeg = 0 := by decide
    have rr1 : 0 + 3 ≤ 3 := by omega
    have rr2 : 3 * vs.length + 3 ≤ 24 := by omega
    have i0' : mIn 0 3 = true := by decide
    have i1' : mIn 1 3 = true := by decide
    have i2' : mIn 2 3 = true := by decide
    have c0' : (0 : Int32).toNatClampNeg = 0 := by decide
    have c1' : (1 : Int32).toNatClampNeg = 1 := by decide
    have c2' : (2 : Int32).toNatClampNeg = 2 := by decide
    have eN : mN (mSI h 316 0 0) = mN h := rfl
    have kA : mK (mNew (mSI h 316 0 0) (100, 3) 3) (mN h) = (100, 3) := by
      show (if mN h = mN h then (100, 3) else _) = _
      rw [if_pos rfl]
    have iA : mIs (mNew (mSI h 316 0 0) (100, 3) 3) (mN h) 100 = true := by
      unfold mIs
      rw [decide_eq_true_iff, kA]
      exact ⟨by show 200 ≤ mN h; omega, by show mN h < mN h + 1; omega, rfl⟩
    have kN : kM (mNew (mSI h 316 0 0) (100, 3) 3) := kM_New (by rw [kM_SI]; exact hk)
    have d0 : ¬ 316 = mN h := by omega
    have x6 : mI (mNew (mSI h 316 0 0) (100, 3) 3) 316 = mI (mSI h 316 0 0) 316 := nwI (by show 316 < mN h; omega)
    have x6' : mI G 316 6 = Int32.ofNat vs.length := w1
    have e1 : Int32.ofNat (vs.length + 1) - 1 = Int32.ofNat vs.length := by rw [show (1 : Int32) = Int32.ofNat 1 from rfl, i_subof (by omega)]; rfl
    rw [← hH, ← hg1]
    simp (maxDischargeDepth := 60) only [hk, x_166_0, x_166_1, x_166_2, x_166_5, x_166_6, x_166_7, x_166_9, x_166_12, x_166_15, x_166_16, x_166_18, x_166_21, x_166_24, x_166_27, x_166_28, x_166_29, x_166_30, x_166_33, x_166_36, x_166_37, x_166_38, x_166_41, x_166_42, x_166_43, x_166_46, x_166_48, x_166_51, x_166_52, x_166_53, x_166_56, x_166_57, x_166_58, x_166_60, x_166_60i, x_166_61, x_166_62, x_166_63, x_166_64, x_166_64i, x_166_65, x_166_66, x_166_67, x_166_68, x_166_68i, x_166_69, x_166_70, x_166_71, x_166_72, x_166_74, x_166_76, x_166_77, x_166_78, x_166_81, x_166_82, x_166_83, x_166_86, x_166_87, x_166_88, x_166_91, x_166_92, x_166_92i, x_166_93, x_166_96, x_166_97, x_166_98, x_166_101, x_166_102, x_166_105, x_166_106, x_166_107, c_166, m_isIn, d1, d2, d3, bz_0, Bool.true_eq_false, v1, e8, c8', n3, k3, eN, kA, iA, kN, d0, x6, i0', i1', i2', c0', c1', c2', e3, en3, p2, p3, p0, t0, rr1, rr2, kM_Cpy, Option.bind_some, mAft_n, mAft_v, mAft_x, mS_n, mS_i, mS_r, mS_l, mS_d, ne_eq, not_false_eq_true, not_true_eq_false, true_or, or_true, and_true, true_and, if_true, if_false, ite_true, ite_false, reduceIte, Nat.reduceAdd, Nat.reduceLeDiff, Nat.reduceEqDiff, false_and, and_false, or_false, false_or, eq_self, reduceCtorEq, mi_316, mi_317, ml_317, mi_318, ml_318, mi_319, ml_319, mi_320, ml_320, mi_321, ml_321, mi_322, ml_322, mi_359, ml_359, mv_316_1, mv_316_4, mv_316_7, mv_316_8, mv_316_9, mv_316_10, mv_316_13, mv_316_14, mv_316_15, pi_0, pi_1, pl_1, pv_1, pi_2, pl_2, pv_2, pi_3, pl_3, pv_3, pi_4, pl_4, pv_4, pi_5, pl_5, pv_5, pi_6, pl_6, pv_10, pi_7, pl_7, pv_11, pi_8, pl_8, pv_12, pi_9, pl_9, pv_13, pi_10, pl_10, pv_14, pi_11, pl_11, pv_15, pv_20, wi_0, wi_1, wl_1, wv_14, wi_2, wl_2, wv_15, wi_3, wl_3, wv_16, wi_4, wl_4, wv_17, wi_5, wl_5, wv_18, wv_21, pt_P, pt_v, pt_w, pt_SI, pt_SL, kM_SI, kM_SL, lI_SL, lV_SL, lK_SL, lN_SL, lL_SL, lIs_SL, nI_SI, nV_SI, nK_SI, nN_SI, nL_SI, nIs_SI, pp_c, pp_l, pp_r, pp_k, pp_k0, pp_j, pp_j0, isl]
    rw [hg1, cp, if_neg (by omega), x6', i_succ, e1]
    rfl
  · refine mG_W mG1 F (by simp) (kCl mcG (I 320 (by decide)) (I 321 (by decide))) h12 ?_ ?_ (kTp tpG (J 2 (by decide)) (I 317 (by decide))) hb ((J 3 (by decide)).trans hepG) (kPp ppG (J 5 (by decide)) (I 318 (by decide))) (kVt vtG (fun j _ => by rw [I 347 (by decide)]) (I 348 (by decide)))
    · refine ⟨by rw [← hH, nI_SI, if_pos ⟨rfl, rfl⟩, List.length_append]; rfl, by rw [List.length_append]; simp only [List.length_cons, List.length_nil]; omega, fun k hk => ?_⟩
      rw [List.length_append] at hk
      simp only [List.length_cons, List.length_nil] at hk
      rw [lg_app (by omega) (by omega), lg_app (by omega) (by omega), lg_app (by omega) (by omega)]
      by_cases ck : k = vs.length
      · rw [if_pos ck, if_pos ck, if_pos ck, ck, ← hH]
        refine ⟨?_, ?_, ?_⟩
        · rw [mI_SI_other (by decide), cp, if_pos ⟨rfl, by omega, by omega⟩, gA _ (by omega), if_neg (by omega), if_neg (by omega)]
        · rw [mI_SI_other (by decide), cp, if_pos ⟨rfl, by omega, by omega⟩, gA _ (by omega), if_neg (by omega), if_pos (by omega)]
        · rw [mI_SI_other (by decide), cp, if_pos ⟨rfl, by omega, by omega⟩, gA _ (by omega), if_pos (by omega)]
      · rw [if_neg ck, if_neg ck, if_neg ck, ← hH]
        obtain ⟨y1, y2, y3⟩ := w3 k (by omega)
        refine ⟨?_, ?_, ?_⟩
        · rw [mI_SI_other (by decide), cp, if_neg (by omega)]; exact y1
        · rw [mI_SI_other (by decide), cp, if_neg (by omega)]; exact y2
        · rw [mI_SI_other (by decide), cp, if_neg (by omega)]; exact y3
    · intro x hx
      rcases List.mem_append.mp hx with z | z
      · exact vo x z
      · rw [List.mem_singleton] at z
        rw [z]
        obtain ⟨b1, _⟩ := inR_p d1
        have e1 : (1 : Int32).toInt = 1 := by decide
        rw [i_lt] at b1
        show ¬ a ≤ 0
        rw [i_le, i_z]
        omega
