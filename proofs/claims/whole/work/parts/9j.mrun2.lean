/-! THE REFERENCE'S VISIT IS THE CLASS'S -/
theorem m_run {D v who nt tour r : Nat} {sec time : Int32} {cl : List CL} {dn : List NS} {ps : List PT} {vs : List (Int32 × Int32 × Int32)} {k : Nat → Nat} {n : Nat} {V L : Nat → Int32} {T : Nat → Nat} {E : EV} {h : mH} (hE1 : E.1 = cl) (hE2 : E.2.1 = dn) (hE3 : E.2.2.1 = ps) (hT : TOU k n V L ps.length E nt T) (m : xT h v who cl dn ps vs k n V L nt T) (ht : tour < nt) (hr : r < 12) :
    ∃ H, mCall (D + 29) 213 [.ref v, .int (Int32.ofNat who), .int (Int32.ofNat tour), .int (Int32.ofNat r), .int sec, .int time] h = some (.inl (some (.int (wRn E vs (Int32.ofNat who) (Int32.ofNat tour) (Int32.ofNat r) sec time))), H) ∧
      wS H v who (sec + time) (vRn E vs (Int32.ofNat who) (Int32.ofNat tour) (Int32.ofNat r) sec time).2.2.2.2.2.2 ∧ mI H v 11 = bz (vRn E vs (Int32.ofNat who) (Int32.ofNat tour) (Int32.ofNat r) sec time).2.2.2.2.2.1 ∧ mI H v 0 = 1 ∧ Fr (WV v) h H ∧ (vRn E vs (Int32.ofNat who) (Int32.ofNat tour) (Int32.ofNat r) sec time).2.2.2.2.2.2.2.2.2.2.2.2.2.2.2.length ≤ 1800 := by
  have m0 := m
  obtain ⟨w, hv, hwh, hn, tk', k50, knx, hnt, tt⟩ := m
  have hk := w.1
  have hp := pt_P hk
  obtain ⟨hT6, hTq⟩ := id hT
  obtain ⟨hTx, j, c, e, p, p1, p2, p3, p4⟩ := hTq tour ht
  obtain ⟨d1, d2⟩ := cAt_app p3
  obtain ⟨a', z, q1, q2, q3, q4, q5, q6, q7, q8, q9⟩ := at_blk knx p1 p2 d1
  have ea' : a' = 7 := by omega
  subst ea'
  obtain ⟨og, _, _, _⟩ := cAt_h d2
  generalize hh1 : mSI (mSI (mSI (mSI (mSI (mSI (mSI (mSI (mSI (mSI (mSI (mSI (mSI (mSI (mSI h v 0 1) v 1 (Int32.ofNat who)) v 3 sec) v 2 (sec + time)) v 4 (Int32.ofNat r)) v 5 0) v 6 0) v 7 0) v 8 0) v 9 0) v 10 0) v 11 0) v 12 0) v 13 0) v 19 0 = h1
  have fv1 : Fr [v] h h1 := by
    rw [← hh1]
    repeat' first
      | exact ⟨rfl, fun _ _ _ => rfl⟩
      | refine Fr_SI ?_ (by simp)
  have F1 : Fr (WV v) h h1 := Fr_mono fv1 (by unfold WV; simp)
  have x1 := xT_Fr F1 (WV_ok hv) m0
  have v2 : ∀ c, 1 ≤ c → mI h1 (v + c) = mI h (v + c) := fun c hc => by
    funext y
    exact Fr_I fv1 (by simp; omega)
  have hs1 : wS h1 v who (sec + time) (vS0 sec (Int32.ofNat r)) := by
    rw [← hh1]
    refine ⟨?_, ?_, ?_, ?_, ?_, ?_, ?_, ?_, ?_, ?_, ?_, ?_, rfl, Nat.zero_le _, fun j hj => by cases hj⟩
    all_goals simp [nI_SI]
  have f0 : frS h1 v [] := ⟨by rw [← hh1]; simp [nI_SI], by simp, trivial⟩
  have tx := x1.2.2.2.2.1 (T tour) hTx
  obtain ⟨H, y1, y2, y3, y4⟩ := m_enter (d := D + 27) (b := T tour) (z := z) (m := 1) (a := 7) (q := tour) x1.1.1 hv f0 (by simp) (by omega) (tx.2.2.trans q6)
  have F2 : Fr (WV v) h H := Fr_trans F1 (Fr_mono y4 (by unfold WF WV; simp))
  have x2 := xT_Fr F2 (WV_ok hv) m0
  have hs2 : wS H v who (sec + time) (vS0 sec (Int32.ofNat r)) := wS_KF y3 (by funext y; exact Fr_I y4 (by unfold WF; simp)) hs1
  have A0 : AT k n V L ps.length E [(T tour + 1, z, T tour + 1, 1, 7, tour)] p [] [] := by
    refine ⟨c, q3, q4, q7, by omega, by rw [List.length_nil]; omega, by rw [List.length_nil]; omega, by simp, q8, q8, by omega, by omega, Or.inl ⟨rfl, og, Or.inl ⟨rfl, rfl⟩⟩⟩
  have ph := phi_new (nx := T tour + 1) (en := z) (fi := T tour + 1) (ti := 1) (a := 7) (q := tour) (by omega)
  have pc := phi_c (f := (T tour + 1, z, T tour + 1, 1, 7, tour)) (fs := [])
  have p0 : phi [] = 0 := rfl
  obtain ⟨K, N, s', S', ea, g1, g2, g3, g4, g5, g6, g7, g8, g9⟩ := run_l (D := D) (o1 := some (.int (Int32.ofNat who))) (o2 := some (.int (Int32.ofNat tour))) (o3 := some (.int (Int32.ofNat r))) (o4 := some (.int sec)) (o5 := some (.int time)) hE1 hE2 hE3 hT 180100 0 [(T tour + 1, z, T tour + 1, 1, 7, tour)] (vS0 sec (Int32.ofNat r)) (Int32.ofNat p, [], [], [], true, false, vS0 sec (Int32.ofNat r)) H (by omega) (by omega) rfl (by show 0 ≤ _; omega) ⟨r, hr, rfl⟩ (by intro y hy; simp only [List.mem_cons, List.not_mem_nil, or_false] at hy; subst hy; show tour ≤ nt; omega) x2 hs2 y2 (by rw [y3 11 (by decide), ← hh1]; simp [nI_SI]) (Or.inr ⟨p, [], [], rfl, A0⟩)
  have hfin : (vRn E vs (Int32.ofNat who) (Int32.ofNat tour) (Int32.ofNat r) sec time).2.2.2.2 = (false, ea, S') := by
    unfold vRn
    rw [p4, VRn_end g2 (by rw [g3]) (show N ≤ 1000000 by omega)]
    exact g3
  refine ⟨K, ?_, ?_, ?_, ?_, Fr_trans F2 g8, by rw [hfin]; exact g9⟩
  · have ew : wRn E vs (Int32.ofNat who) (Int32.ofNat tour) (Int32.ofNat r) sec time = S'.2.2.2.2.1 := by
      unfold wRn
      rw [hfin]
    rw [ew, ← g4]
    have tt' := x1.2.2.2.2.2.2.2.2 tour ht
    have ept : pt h1 = pt h := pt_Fr fv1
    rw [ept] at tt'
    have tt2 : mI h (pt h + 11) tour = Int32.ofNat (T tour) := tt tour ht
    have hj6 : mIn (Int32.ofNat tour) 6 = true := i_in (by rw [i_of_i (by omega)]; omega) (by rw [i_of_i (by omega)]; omega)
    have en6 : (Int32.ofNat tour).toNatClampNeg = tour := i_of_n (by omega)
    have y1' : mCall (D + 28) 199 [.ref v, .int (Int32.ofNat (T tour)), .int 1] (mSI (mSI (mSI (mSI (mSI (mSI (mSI (mSI (mSI (mSI (mSI (mSI (mSI (mSI (mSI h v 0 1) v 1 (Int32.ofNat who)) v 3 sec) v 2 (sec + time)) v 4 (Int32.ofNat r)) v 5 0) v 6 0) v 7 0) v 8 0) v 9 0) v 10 0) v 11 0) v 12 0) v 13 0) v 19 0) = some (.inl none, H) := by rw [hh1]; exact y1
    simp (maxDischargeDepth := 60) only [hk, x_213_0, x_213_1, x_213_2, x_213_5, x_213_6, x_213_7, x_213_10, x_213_11, x_213_13, x_213_16, x_213_17, x_213_19, x_213_21, x_213_22, x_213_25, x_213_26, x_213_27, x_213_30, x_213_31, x_213_32, x_213_35, x_213_36, x_213_37, x_213_40, x_213_41, x_213_42, x_213_45, x_213_46, x_213_47, x_213_50, x_213_51, x_213_52, x_213_55, x_213_56, x_213_57, x_213_60, x_213_61, x_213_62, x_213_65, x_213_66, x_213_67, x_213_70, x_213_71, x_213_72, x_213_75, x_213_76, x_213_77, x_213_80, x_213_81, x_213_82, x_213_85, x_213_88, x_213_91, x_213_92, x_213_93, x_213_94, x_213_98, x_213_101, x_213_104, x_213_105, x_213_108, x_213_109, x_213_112, x_213_113, x_213_114, x_213_115, x_213_116, x_213_119, x_213_120, x_213_123, x_213_124, x_213_125, x_213_126, x_213_129, x_213_130, x_213_133, x_213_134, x_213_137, x_213_138, x_213_139, x_213_140, x_213_141, x_213_142, x_213_143, x_213_144, x_213_145, x_213_148, x_213_149, x_213_152, x_213_153, x_213_154, x_213_155, x_213_158, x_213_159, x_213_162, x_213_163, x_213_164, x_213_165, x_213_166, x_213_167, x_213_170, x_213_171, x_213_174, x_213_175, x_213_176, x_213_177, x_213_180, x_213_181, x_213_181i, x_213_182, x_213_185, x_213_186, x_213_187, x_213_190, x_213_193, x_213_194, x_213_197, x_213_198, x_213_201, x_213_204, x_213_205, x_213_208, x_213_211, x_213_214, x_213_215, x_213_216, x_213_219, x_213_222, x_213_223, x_213_223i, x_213_224, x_213_227, x_213_228, x_213_229, x_213_232, x_213_233, x_213_236, x_213_239, x_213_240, x_213_243, c_213, hv, hp, hk, wt_a hv hp, wt_b hv hp, wt_c hv hp, wt_d hv hp, wk_c hv, wk_d hv, wk_0 hv, wk_1 hv, tt2, hj6, en6, y1', Option.bind_some, mAft_n, mAft_v, mAft_x, mS_n, mS_i, mS_r, mS_l, mS_d, ne_eq, not_false_eq_true, not_true_eq_false, true_or, or_true, and_true, true_and, if_true, if_false, ite_true, ite_false, reduceIte, Nat.reduceAdd, Nat.reduceLeDiff, Nat.reduceEqDiff, false_and, and_false, or_false, false_or, eq_self, reduceCtorEq, mi_316, mi_317, ml_317, mi_318, ml_318, mi_319, ml_319, mi_320, ml_320, mi_321, ml_321, mi_322, ml_322, mi_359, ml_359, mv_316_1, mv_316_4, mv_316_7, mv_316_8, mv_316_9, mv_316_10, mv_316_13, mv_316_14, mv_316_15, pi_0, pi_1, pl_1, pv_1, pi_2, pl_2, pv_2, pi_3, pl_3, pv_3, pi_4, pl_4, pv_4, pi_5, pl_5, pv_5, pi_6, pl_6, pv_10, pi_7, pl_7, pv_11, pi_8, pl_8, pv_12, pi_9, pl_9, pv_13, pi_10, pl_10, pv_14, pi_11, pl_11, pv_15, pv_20, wi_0, wi_1, wl_1, wv_14, wi_2, wl_2, wv_15, wi_3, wl_3, wv_16, wi_4, wl_4, wv_17, wi_5, wl_5, wv_18, wv_21, pt_P, pt_v, pt_w, pt_SI, pt_SL, kM_SI, kM_SL, lI_SL, lV_SL, lK_SL, lN_SL, lL_SL, lIs_SL, nI_SI, nV_SI, nK_SI, nN_SI, nL_SI, nIs_SI, pp_c, pp_l, pp_r, pp_k, pp_k0, pp_j, pp_j0, isl]
  · rw [hfin]; exact g5
  · rw [hfin]; exact g6
  · rw [g7, y3 0 (by decide), ← hh1]; simp [nI_SI]
