/-! THE REFERENCE IS FED -/
theorem and255 {x : Int32} : 0 ≤ (x &&& 255).toInt ∧ (x &&& 255).toInt < 256 := by
  have e : (x &&& 255).toBitVec = x.toBitVec &&& 255#32 := rfl
  have n : (x.toBitVec &&& 255#32).toNat ≤ 255 := by
    rw [BitVec.toNat_and]
    exact Nat.and_le_right
  have t : (x &&& 255).toInt = ((x.toBitVec &&& 255#32).toNat : Int) := by
    show (x &&& 255).toBitVec.toInt = _
    rw [e]
    exact BitVec.toInt_eq_toNat_of_lt (by omega)
  rw [t]
  omega
theorem by4_ok {x : Int32} : bytes (by4 x) := by
  intro y hy
  unfold by4 at hy
  simp only [List.mem_cons, List.not_mem_nil, or_false] at hy
  rcases hy with rfl | rfl | rfl | rfl <;> exact and255
theorem feed_b {a b c e f : Int32} {B : List Int32} (hb : bytes B) : bytes (fFeed a b c e f B) := by
  intro y hy
  unfold fFeed at hy
  simp only [List.mem_append] at hy
  rcases hy with h | ((((h | h) | h) | h) | h)
  · exact hb y h
  · exact by4_ok y h
  · exact by4_ok y h
  · exact by4_ok y h
  · exact by4_ok y h
  · exact by4_ok y h
theorem feed_at {a b c e f : Int32} : ∀ k, k < 20 → (by4 a ++ by4 b ++ by4 c ++ by4 e ++ by4 f).getD k 0 = ush ([a, b, c, e, f].getD (k / 4) 0) (Int32.ofNat (24 - 8 * (k % 4))) &&& 255 := by
  intro k hk
  match k, hk with
  | 0, _ => rfl
  | 1, _ => rfl
  | 2, _ => rfl
  | 3, _ => rfl
  | 4, _ => rfl
  | 5, _ => rfl
  | 6, _ => rfl
  | 7, _ => rfl
  | 8, _ => rfl
  | 9, _ => rfl
  | 10, _ => rfl
  | 11, _ => rfl
  | 12, _ => rfl
  | 13, _ => rfl
  | 14, _ => rfl
  | 15, _ => rfl
  | 16, _ => rfl
  | 17, _ => rfl
  | 18, _ => rfl
  | 19, _ => rfl
  | n + 20, h => exact absurd h (by omega)
theorem k20 : ∀ k, k < 20 → Int32.ofNat k / 4 = Int32.ofNat (k / 4) ∧ Int32.ofNat k - Int32.ofNat (k / 4) * 4 = Int32.ofNat (k % 4) ∧ (8 : Int32) * Int32.ofNat (k % 4) = Int32.ofNat (8 * (k % 4)) ∧ (24 : Int32) - Int32.ofNat (8 * (k % 4)) = Int32.ofNat (24 - 8 * (k % 4)) ∧ mIn (Int32.ofNat (k / 4)) 5 = true ∧ (Int32.ofNat (k / 4)).toNatClampNeg = k / 4 := by decide +kernel
theorem m_feed_l {d n A : Nat} {a b c e f : Int32} {x1 x2 x3 x4 x5 : Option Value} {G : mH} (hk : kM G) (hA : mIs G A 100 = true) (hA5 : (mK G A).2 = 5) (hA9 : 361 ≤ A) (hv : ∀ j, j < 5 → mI G A j = [a, b, c, e, f].getD j 0) (ht : mI G 316 2 = Int32.ofNat n) (hn : n + 20 ≤ 2000) : ∀ (m k : Nat) (H : mH), k + m = 20 → Fr [317] G H → (∀ j, j < n → mI H 317 j = mI G 317 j) → (∀ j, j < k → mI H 317 (n + j) = (by4 a ++ by4 b ++ by4 c ++ by4 e ++ by4 f).getD j 0) →
    ∃ K, mExec (mCall d) 21 54 [some (.ref 316), x1, x2, x3, x4, x5, some (.ref A), some (.int (Int32.ofNat k))] [] H = mExec (mCall d) 21 101 [some (.ref 316), x1, x2, x3, x4, x5, some (.ref A), some (.int 20)] [] K ∧ Fr [317] G K ∧ (∀ j, j < n → mI K 317 j = mI G 317 j) ∧ ∀ j, j < 20 → mI K 317 (n + j) = (by4 a ++ by4 b ++ by4 c ++ by4 e ++ by4 f).getD j 0 := by
  intro m
  induction m with
  | zero =>
    intro k H e1 F g1 g2
    have c1 := eq_true (show (20 : Int32) ≤ Int32.ofNat k by rw [show (20 : Int32) = Int32.ofNat 20 from rfl, i_ofle (by omega) (by omega)]; omega)
    refine ⟨H, ?_, F, g1, fun j hj => g2 j (by omega)⟩
    have ek : k = 20 := by omega
    subst ek
    rw [x_21_54]
    simp (maxDischargeDepth := 60) only [hk, x_21_0, x_21_1, x_21_2, x_21_5, x_21_6, x_21_9, x_21_11, x_21_12, x_21_15, x_21_18, x_21_19, x_21_20, x_21_23, x_21_24, x_21_25, x_21_27, x_21_27i, x_21_28, x_21_29, x_21_30, x_21_31, x_21_31i, x_21_32, x_21_33, x_21_34, x_21_35, x_21_35i, x_21_36, x_21_37, x_21_38, x_21_39, x_21_39i, x_21_40, x_21_41, x_21_43, x_21_44, x_21_44i, x_21_45, x_21_46, x_21_48, x_21_49, x_21_51, x_21_52, x_21_56, x_21_58, x_21_61, x_21_62, x_21_65, x_21_66, x_21_69, x_21_71, x_21_72, x_21_74, x_21_76, x_21_77, x_21_78, x_21_79, x_21_81, x_21_83, x_21_85, x_21_86, x_21_87, x_21_88, x_21_89, x_21_90, x_21_93, x_21_94, x_21_95, x_21_98, x_21_102, x_21_102i, x_21_103, x_21_106, x_21_108, x_21_109, x_21_112, x_21_113, x_21_116, c1, Option.bind_some, mAft_n, mAft_v, mAft_x, mS_n, mS_i, mS_r, mS_l, mS_d, ne_eq, not_false_eq_true, not_true_eq_false, true_or, or_true, and_true, true_and, if_true, if_false, ite_true, ite_false, reduceIte, Nat.reduceAdd, Nat.reduceLeDiff, Nat.reduceEqDiff, false_and, and_false, or_false, false_or, eq_self, reduceCtorEq, mi_316, mi_317, ml_317, mi_318, ml_318, mi_319, ml_319, mi_320, ml_320, mi_321, ml_321, mi_322, ml_322, mi_359, ml_359, mv_316_1, mv_316_4, mv_316_7, mv_316_8, mv_316_9, mv_316_10, mv_316_13, mv_316_14, mv_316_15, pi_0, pi_1, pl_1, pv_1, pi_2, pl_2, pv_2, pi_3, pl_3, pv_3, pi_4, pl_4, pv_4, pi_5, pl_5, pv_5, pi_6, pl_6, pv_10, pi_7, pl_7, pv_11, pi_8, pl_8, pv_12, pi_9, pl_9, pv_13, pi_10, pl_10, pv_14, pi_11, pl_11, pv_15, pv_20, wi_0, wi_1, wl_1, wv_14, wi_2, wl_2, wv_15, wi_3, wl_3, wv_16, wi_4, wl_4, wv_17, wi_5, wl_5, wv_18, wv_21, pt_P, pt_v, pt_w, pt_SI, pt_SL, kM_SI, kM_SL, lI_SL, lV_SL, lK_SL, lN_SL, lL_SL, lIs_SL, nI_SI, nV_SI, nK_SI, nN_SI, nL_SI, nIs_SI, pp_c, pp_l, pp_r, pp_k, pp_k0, pp_j, pp_j0, isl]
    rfl
  | succ m ih =>
    intro k H e1 F g1 g2
    have c1 : ¬ (20 : Int32) ≤ Int32.ofNat k := by rw [show (20 : Int32) = Int32.ofNat 20 from rfl, i_ofle (by omega) (by omega)]; omega
    obtain ⟨d1, d2, d3, d4, d5, d6⟩ := k20 k (by omega)
    have hkH := kM_Fr' F hk
    have hj : mIn (Int32.ofNat (n + k)) 2000 = true := i_in (by rw [i_of_i (by omega)]; omega) (by rw [i_of_i (by omega)]; omega)
    have en : (Int32.ofNat (n + k)).toNatClampNeg = n + k := i_of_n (by omega)
    have n4 : ¬ (4 : Int32) = 0 := by decide
    have hAH : mIs H A 100 = true := by rw [Fr_is F]; exact hA
    have hA5H : (mK H A).2 = 5 := by rw [Fr_K F]; exact hA5
    have vA : mI H A (k / 4) = [a, b, c, e, f].getD (k / 4) 0 := by
      rw [Fr_I F (by simp; omega)]
      exact hv _ (by omega)
    have htH : mI H 316 2 = Int32.ofNat n := (Fr_I F (by decide)).trans ht
    have fa := feed_at (a := a) (b := b) (c := c) (e := e) (f := f) k (by omega)
    unfold ush at fa
    obtain ⟨K, b1, b2, b3, b4⟩ := ih (k + 1) (mSI H 317 (n + k) ((by4 a ++ by4 b ++ by4 c ++ by4 e ++ by4 f).getD k 0)) (by omega) (Fr_SI F (by simp)) (fun j hj2 => by rw [nI_SI, if_neg (by omega)]; exact g1 j hj2) (fun j hj2 => by
      rw [nI_SI]
      by_cases c : j = k
      · rw [if_pos ⟨rfl, by omega⟩, c]
      · rw [if_neg (by omega)]; exact g2 j (by omega))
    refine ⟨K, ?_, b2, b3, b4⟩
    rw [← b1, fa, x_21_54]
    simp (maxDischargeDepth := 60) only [hk, x_21_0, x_21_1, x_21_2, x_21_5, x_21_6, x_21_9, x_21_11, x_21_12, x_21_15, x_21_18, x_21_19, x_21_20, x_21_23, x_21_24, x_21_25, x_21_27, x_21_27i, x_21_28, x_21_29, x_21_30, x_21_31, x_21_31i, x_21_32, x_21_33, x_21_34, x_21_35, x_21_35i, x_21_36, x_21_37, x_21_38, x_21_39, x_21_39i, x_21_40, x_21_41, x_21_43, x_21_44, x_21_44i, x_21_45, x_21_46, x_21_48, x_21_49, x_21_51, x_21_52, x_21_56, x_21_58, x_21_61, x_21_62, x_21_65, x_21_66, x_21_69, x_21_71, x_21_72, x_21_74, x_21_76, x_21_77, x_21_78, x_21_79, x_21_81, x_21_83, x_21_85, x_21_86, x_21_87, x_21_88, x_21_89, x_21_90, x_21_93, x_21_94, x_21_95, x_21_98, x_21_102, x_21_102i, x_21_103, x_21_106, x_21_108, x_21_109, x_21_112, x_21_113, x_21_116, c1, hkH, htH, i_addof, n4, d1, d2, d3, d4, d5, d6, hAH, hA5H, vA, hj, en, i_succ, Option.bind_some, mAft_n, mAft_v, mAft_x, mS_n, mS_i, mS_r, mS_l, mS_d, ne_eq, not_false_eq_true, not_true_eq_false, true_or, or_true, and_true, true_and, if_true, if_false, ite_true, ite_false, reduceIte, Nat.reduceAdd, Nat.reduceLeDiff, Nat.reduceEqDiff, false_and, and_false, or_false, false_or, eq_self, reduceCtorEq, mi_316, mi_317, ml_317, mi_318, ml_318, mi_319, ml_319, mi_320, ml_320, mi_321, ml_321, mi_322, ml_322, mi_359, ml_359, mv_316_1, mv_316_4, mv_316_7, mv_316_8, mv_316_9, mv_316_10, mv_316_13, mv_316_14, mv_316_15, pi_0, pi_1, pl_1, pv_1, pi_2, pl_2, pv_2, pi_3, pl_3, pv_3, pi_4, pl_4, pv_4, pi_5, pl_5, pv_5, pi_6, pl_6, pv_10, pi_7, pl_7, pv_11, pi_8, pl_8, pv_12, pi_9, pl_9, pv_13, pi_10, pl_10, pv_14, pi_11, pl_11, pv_15, pv_20, wi_0, wi_1, wl_1, wv_14, wi_2, wl_2, wv_15, wi_3, wl_3, wv_16, wi_4, wl_4, wv_17, wi_5, wl_5, wv_18, wv_21, pt_P, pt_v, pt_w, pt_SI, pt_SL, kM_SI, kM_SL, lI_SL, lV_SL, lK_SL, lN_SL, lL_SL, lIs_SL, nI_SI, nV_SI, nK_SI, nN_SI, nL_SI, nIs_SI, pp_c, pp_l, pp_r, pp_k, pp_k0, pp_j, pp_j0, isl]
theorem m_feed {d : Nat} {a b c e f : Int32} {h : mH} {E : EV} {rn pn tn : List (List Int32)} {B : List Int32} {ep : Int32} {vs : List (Int32 × Int32 × Int32)} {hv : Bool} {S : VS} {ea : Bool} {P : List Int32} (m : mG h (E, rn, pn, tn, B, ep, vs, hv, S, ea, P)) : MR h (E, rn, pn, tn, (if B.length + 20 ≤ 2000 then fFeed a b c e f B else B), ep, vs, hv, S, ea, P) (mCall (d + 2) 21 [.ref 316, .int a, .int b, .int c, .int e, .int f] h) (fun _ => 1) (if B.length + 20 ≤ 2000 then .inl (Int32.ofNat (B.length + 20)) else .inr 0) := by
  have m0 := m
  obtain ⟨hk, hp, mc, h12, vi, vo, ⟨t1, t2, t3⟩, hb, hep, pp, vt, md, pa, r1, r2, r3, r4, ww, g1⟩ := mG_p m
  have e20 : Int32.ofNat B.length + 20 = Int32.ofNat (B.length + 20) := by rw [show (20 : Int32) = Int32.ofNat 20 from rfl, i_addof]
  by_cases c0 : B.length + 20 ≤ 2000
  case neg =>
    rw [if_neg c0, if_neg c0]
    refine MR_thr m0 ?_
    have c1 : ¬ Int32.ofNat (B.length + 20) ≤ 2000 := by rw [show (2000 : Int32) = Int32.ofNat 2000 from rfl, i_ofle (by omega) (by omega)]; exact c0
    simp (maxDischargeDepth := 60) only [hk, x_21_0, x_21_1, x_21_2, x_21_5, x_21_6, x_21_9, x_21_11, x_21_12, x_21_15, x_21_18, x_21_19, x_21_20, x_21_23, x_21_24, x_21_25, x_21_27, x_21_27i, x_21_28, x_21_29, x_21_30, x_21_31, x_21_31i, x_21_32, x_21_33, x_21_34, x_21_35, x_21_35i, x_21_36, x_21_37, x_21_38, x_21_39, x_21_39i, x_21_40, x_21_41, x_21_43, x_21_44, x_21_44i, x_21_45, x_21_46, x_21_48, x_21_49, x_21_51, x_21_52, x_21_54, x_21_56, x_21_58, x_21_61, x_21_62, x_21_65, x_21_66, x_21_69, x_21_71, x_21_72, x_21_74, x_21_76, x_21_77, x_21_78, x_21_79, x_21_81, x_21_83, x_21_85, x_21_86, x_21_87, x_21_88, x_21_89, x_21_90, x_21_93, x_21_94, x_21_95, x_21_98, x_21_101, x_21_102, x_21_102i, x_21_103, x_21_106, x_21_108, x_21_109, x_21_112, x_21_113, x_21_116, c_21, t1, e20, c1, m_no, SI_SI, Option.bind_some, mAft_n, mAft_v, mAft_x, mS_n, mS_i, mS_r, mS_l, mS_d, ne_eq, not_false_eq_true, not_true_eq_false, true_or, or_true, and_true, true_and, if_true, if_false, ite_true, ite_false, reduceIte, Nat.reduceAdd, Nat.reduceLeDiff, Nat.reduceEqDiff, false_and, and_false, or_false, false_or, eq_self, reduceCtorEq, mi_316, mi_317, ml_317, mi_318, ml_318, mi_319, ml_319, mi_320, ml_320, mi_321, ml_321, mi_322, ml_322, mi_359, ml_359, mv_316_1, mv_316_4, mv_316_7, mv_316_8, mv_316_9, mv_316_10, mv_316_13, mv_316_14, mv_316_15, pi_0, pi_1, pl_1, pv_1, pi_2, pl_2, pv_2, pi_3, pl_3, pv_3, pi_4, pl_4, pv_4, pi_5, pl_5, pv_5, pi_6, pl_6, pv_10, pi_7, pl_7, pv_11, pi_8, pl_8, pv_12, pi_9, pl_9, pv_13, pi_10, pl_10, pv_14, pi_11, pl_11, pv_15, pv_20, wi_0, wi_1, wl_1, wv_14, wi_2, wl_2, wv_15, wi_3, wl_3, wv_16, wi_4, wl_4, wv_17, wi_5, wl_5, wv_18, wv_21, pt_P, pt_v, pt_w, pt_SI, pt_SL, kM_SI, kM_SL, lI_SL, lV_SL, lK_SL, lN_SL, lL_SL, lIs_SL, nI_SI, nV_SI, nK_SI, nN_SI, nL_SI, nIs_SI, pp_c, pp_l, pp_r, pp_k, pp_k0, pp_j, pp_j0, isl]
    rfl
  rw [if_pos c0, if_pos c0]
  have c1 := eq_true (show Int32.ofNat (B.length + 20) ≤ 2000 by rw [show (2000 : Int32) = Int32.ofNat 2000 from rfl, i_ofle (by omega) (by omega)]; exact c0)
  have hk1 : kM (mSI h 316 0 0) := by rw [kM_SI]; exact hk
  obtain ⟨kN, kA, iA, eP, d0, d1, d2, x0, x1, x2, eN⟩ := new_p (h := mSI h 316 0 0) (n := 5) hk1 (by show 361 ≤ mN h; exact g1)
  have eNh : mN (mSI h 316 0 0) = mN h := rfl
  rw [eNh] at kA iA d0 d1 d2
  have n5 : ¬ (5 : Int32) < 0 ∧ (5 : Int32).toNatClampNeg ≤ 65536 := by decide
  have k5 : (5 : Int32).toNatClampNeg = 5 := by decide
  have i0 : mIn 0 5 = true := by decide
  have c0' : (0 : Int32).toNatClampNeg = 0 := by decide
  have i1 : mIn 1 5 = true := by decide
  have c1' : (1 : Int32).toNatClampNeg = 1 := by decide
  have i2 : mIn 2 5 = true := by decide
  have c2' : (2 : Int32).toNatClampNeg = 2 := by decide
  have i3 : mIn 3 5 = true := by decide
  have c3' : (3 : Int32).toNatClampNeg = 3 := by decide
  have i4 : mIn 4 5 = true := by decide
  have c4' : (4 : Int32).toNatClampNeg = 4 := by decide
  generalize hG : mSI (mSI (mSI (mSI (mSI (mNew (mSI h 316 0 0) (100, 5) 5) (mN h) 0 a) (mN h) 1 b) (mN h) 2 c) (mN h) 3 e) (mN h) 4 f = G
  have hEQ : EQM h G := by
    rw [← hG]
    repeat' first
      | exact EQM_new (EQM_thr EQM_r) (by show 360 ≤ mN h; omega)
      | refine EQM_out ?_ (by omega)
  have fm1 : FMc 1 h G := by
    rw [← hG]
    repeat' first
      | exact FMc_new (FMc_SI FMc_r (by omega)) (by show 361 ≤ mN h; omega) (by omega)
      | refine FMc_SI ?_ (by omega)
  have mG1 := mG_eq hEQ m0
  obtain ⟨hkG, hpG, mcG, _, viG, _, ⟨tG1, tG2, tG3⟩, _, hepG, ppG, vtG, _, _, _, _, _, _, _, _⟩ := mG_p mG1
  have gv : ∀ j, j < 5 → mI G (mN h) j = [a, b, c, e, f].getD j 0 := by
    intro j hj
    rw [← hG]
    match j, hj with
    | 0, _ => simp [nI_SI]
    | 1, _ => simp [nI_SI]
    | 2, _ => simp [nI_SI]
    | 3, _ => simp [nI_SI]
    | 4, _ => simp [nI_SI]
  have gA : mIs G (mN h) 100 = true := by rw [← hG]; simp only [nIs_SI]; exact iA
  have gA5 : (mK G (mN h)).2 = 5 := by rw [← hG]; simp only [nK_SI]; rw [kA]
  have thr : mI G 316 0 = 0 := by rw [← hG]; simp [nI_SI, d0, x0]
  obtain ⟨K, b1, b2, b3, b4⟩ := m_feed_l (d := d + 1) (x1 := some (.int a)) (x2 := some (.int b)) (x3 := some (.int c)) (x4 := some (.int e)) (x5 := some (.int f)) hkG gA gA5 g1 gv tG1 c0 20 0 G (by omega) ⟨rfl, fun _ _ _ => rfl⟩ (fun _ _ => rfl) (fun j hj => by omega)
  have hkK := kM_Fr' b2 hkG
  have tK : mI K 316 2 = Int32.ofNat B.length := (Fr_I b2 (by decide)).trans tG1
  have F : Fr [316, 317] G (mSI K 316 2 (Int32.ofNat (B.length + 20))) := Fr_SI (Fr_mono b2 (by simp)) (by simp)
  have I : ∀ a, a ∉ [316, 317] → mI (mSI K 316 2 (Int32.ofNat (B.length + 20))) a = mI G a := fun a ha => by funext j; exact Fr_I F ha
  have J : ∀ j, ¬ j = 2 → mI (mSI K 316 2 (Int32.ofNat (B.length + 20))) 316 j = mI G 316 j := fun j h0 => by rw [nI_SI, if_neg (by omega)]; exact Fr_I b2 (by decide)
  have eL : (fFeed a b c e f B).length = B.length + 20 := by unfold fFeed; rw [List.length_append]; rfl
  refine ⟨mSI K 316 2 (Int32.ofNat (B.length + 20)), ?_, (J 0 (by decide)).trans thr, ?_, FM_c (FMc_Fr fm1 F (by simp)) (by omega)⟩
  · have b1' : mExec (mCall (d + 1)) 21 54 [some (.ref 316), some (.int a), some (.int b), some (.int c), some (.int e), some (.int f), some (.ref (mN h)), some (.int 0)] [] G = _ := b1
    have st : mCall (d + 2) 21 [.ref 316, .int a, .int b, .int c, .int e, .int f] h = mExec (mCall (d + 1)) 21 54 [some (.ref 316), some (.int a), some (.int b), some (.int c), some (.int e), some (.int f), some (.ref (mN h)), some (.int 0)] [] G := by
      rw [← hG]
      simp (maxDischargeDepth := 60) only [hk, x_21_0, x_21_1, x_21_2, x_21_5, x_21_6, x_21_9, x_21_11, x_21_12, x_21_15, x_21_18, x_21_19, x_21_20, x_21_23, x_21_24, x_21_25, x_21_27, x_21_27i, x_21_28, x_21_29, x_21_30, x_21_31, x_21_31i, x_21_32, x_21_33, x_21_34, x_21_35, x_21_35i, x_21_36, x_21_37, x_21_38, x_21_39, x_21_39i, x_21_40, x_21_41, x_21_43, x_21_44, x_21_44i, x_21_45, x_21_46, x_21_48, x_21_49, x_21_51, x_21_52, x_21_56, x_21_58, x_21_61, x_21_62, x_21_65, x_21_66, x_21_69, x_21_71, x_21_72, x_21_74, x_21_76, x_21_77, x_21_78, x_21_79, x_21_81, x_21_83, x_21_85, x_21_86, x_21_87, x_21_88, x_21_89, x_21_90, x_21_93, x_21_94, x_21_95, x_21_98, x_21_102, x_21_102i, x_21_103, x_21_106, x_21_108, x_21_109, x_21_112, x_21_113, x_21_116, c_21, t1, e20, c1, n5, k5, kN, kA, iA, eNh, i0, i1, i2, i3, i4, c0', c1', c2', c3', c4', Option.bind_some, mAft_n, mAft_v, mAft_x, mS_n, mS_i, mS_r, mS_l, mS_d, ne_eq, not_false_eq_true, not_true_eq_false, true_or, or_true, and_true, true_and, if_true, if_false, ite_true, ite_false, reduceIte, Nat.reduceAdd, Nat.reduceLeDiff, Nat.reduceEqDiff, false_and, and_false, or_false, false_or, eq_self, reduceCtorEq, mi_316, mi_317, ml_317, mi_318, ml_318, mi_319, ml_319, mi_320, ml_320, mi_321, ml_321, mi_322, ml_322, mi_359, ml_359, mv_316_1, mv_316_4, mv_316_7, mv_316_8, mv_316_9, mv_316_10, mv_316_13, mv_316_14, mv_316_15, pi_0, pi_1, pl_1, pv_1, pi_2, pl_2, pv_2, pi_3, pl_3, pv_3, pi_4, pl_4, pv_4, pi_5, pl_5, pv_5, pi_6, pl_6, pv_10, pi_7, pl_7, pv_11, pi_8, pl_8, pv_12, pi_9, pl_9, pv_13, pi_10, pl_10, pv_14, pi_11, pl_11, pv_15, pv_20, wi_0, wi_1, wl_1, wv_14, wi_2, wl_2, wv_15, wi_3, wl_3, wv_16, wi_4, wl_4, wv_17, wi_5, wl_5, wv_18, wv_21, pt_P, pt_v, pt_w, pt_SI, pt_SL, kM_SI, kM_SL, lI_SL, lV_SL, lK_SL, lN_SL, lL_SL, lIs_SL, nI_SI, nV_SI, nK_SI, nN_SI, nL_SI, nIs_SI, pp_c, pp_l, pp_r, pp_k, pp_k0, pp_j, pp_j0, isl]
    rw [st, b1', x_21_101]
    simp (maxDischargeDepth := 60) only [hk, x_21_0, x_21_1, x_21_2, x_21_5, x_21_6, x_21_9, x_21_11, x_21_12, x_21_15, x_21_18, x_21_19, x_21_20, x_21_23, x_21_24, x_21_25, x_21_27, x_21_27i, x_21_28, x_21_29, x_21_30, x_21_31, x_21_31i, x_21_32, x_21_33, x_21_34, x_21_35, x_21_35i, x_21_36, x_21_37, x_21_38, x_21_39, x_21_39i, x_21_40, x_21_41, x_21_43, x_21_44, x_21_44i, x_21_45, x_21_46, x_21_48, x_21_49, x_21_51, x_21_52, x_21_56, x_21_58, x_21_61, x_21_62, x_21_65, x_21_66, x_21_69, x_21_71, x_21_72, x_21_74, x_21_76, x_21_77, x_21_78, x_21_79, x_21_81, x_21_83, x_21_85, x_21_86, x_21_87, x_21_88, x_21_89, x_21_90, x_21_93, x_21_94, x_21_95, x_21_98, x_21_102, x_21_102i, x_21_103, x_21_106, x_21_108, x_21_109, x_21_112, x_21_113, x_21_116, hkK, tK, e20, Option.bind_some, mAft_n, mAft_v, mAft_x, mS_n, mS_i, mS_r, mS_l, mS_d, ne_eq, not_false_eq_true, not_true_eq_false, true_or, or_true, and_true, true_and, if_true, if_false, ite_true, ite_false, reduceIte, Nat.reduceAdd, Nat.reduceLeDiff, Nat.reduceEqDiff, false_and, and_false, or_false, false_or, eq_self, reduceCtorEq, mi_316, mi_317, ml_317, mi_318, ml_318, mi_319, ml_319, mi_320, ml_320, mi_321, ml_321, mi_322, ml_322, mi_359, ml_359, mv_316_1, mv_316_4, mv_316_7, mv_316_8, mv_316_9, mv_316_10, mv_316_13, mv_316_14, mv_316_15, pi_0, pi_1, pl_1, pv_1, pi_2, pl_2, pv_2, pi_3, pl_3, pv_3, pi_4, pl_4, pv_4, pi_5, pl_5, pv_5, pi_6, pl_6, pv_10, pi_7, pl_7, pv_11, pi_8, pl_8, pv_12, pi_9, pl_9, pv_13, pi_10, pl_10, pv_14, pi_11, pl_11, pv_15, pv_20, wi_0, wi_1, wl_1, wv_14, wi_2, wl_2, wv_15, wi_3, wl_3, wv_16, wi_4, wl_4, wv_17, wi_5, wl_5, wv_18, wv_21, pt_P, pt_v, pt_w, pt_SI, pt_SL, kM_SI, kM_SL, lI_SL, lV_SL, lK_SL, lN_SL, lL_SL, lIs_SL, nI_SI, nV_SI, nK_SI, nN_SI, nL_SI, nIs_SI, pp_c, pp_l, pp_r, pp_k, pp_k0, pp_j, pp_j0, isl]
    rfl
  · refine mG_W mG1 F (by simp) (kCl mcG (I 320 (by decide)) (I 321 (by decide))) h12 (kVi viG (J 6 (by decide)) (I 319 (by decide))) vo ?_ (feed_b hb) ((J 3 (by decide)).trans hepG) (kPp ppG (J 5 (by decide)) (I 318 (by decide))) (kVt vtG (fun j _ => by rw [I 347 (by decide)]) (I 348 (by decide)))
    refine ⟨by rw [nI_SI, if_pos ⟨rfl, rfl⟩, eL], by rw [eL]; exact c0, fun k hk => ?_⟩
    rw [eL] at hk
    rw [mI_SI_other (by decide)]
    unfold fFeed
    rw [List.getD_eq_getElem?_getD]
    by_cases ck : k < B.length
    · rw [List.getElem?_append_left ck, ← List.getD_eq_getElem?_getD, b3 k ck]
      exact tG3 k ck
    · obtain ⟨j, rfl⟩ : ∃ j, k = B.length + j := ⟨k - B.length, by omega⟩
      rw [List.getElem?_append_right (by omega), Nat.add_sub_cancel_left, ← List.getD_eq_getElem?_getD]
      exact b4 j (by omega)
