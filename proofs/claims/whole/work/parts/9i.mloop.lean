/-! THE REFERENCE'S VISIT: ITS LOOP -/
theorem sen_1 {k : Nat → Nat} {tst blk : PA} {i b l : Nat} {c1 : List CI} {e1 : List EVt} (hs : isSe (k i) = true) (h : pSen k tst blk i b = (l, some (c1, e1))) : ∃ r, c1 = (1, 0, 0) :: r := by
  unfold pSen at h
  rcases isSe_c hs with g | g | g | g | g | g
  · rw [if_pos g] at h
    obtain ⟨_, _, _, _, hc, _⟩ := leaf_inv h
    exact ⟨_, hc⟩
  · rw [if_neg (by omega), if_pos g] at h
    obtain ⟨_, _, _, _, hc, _⟩ := leaf_inv h
    exact ⟨_, hc⟩
  · rw [if_neg (by omega), if_neg (by omega), if_pos g] at h
    obtain ⟨_, _, _, _, hc, _⟩ := leaf_inv h
    exact ⟨_, hc⟩
  · rw [if_neg (by omega), if_neg (by omega), if_neg (by omega), if_pos g] at h
    obtain ⟨_, _, _, _, hc, _⟩ := leaf_inv h
    exact ⟨_, hc⟩
  · rw [if_neg (by omega), if_neg (by omega), if_neg (by omega), if_neg (by omega), if_pos g] at h
    obtain ⟨i1, ct, et, i2, c2, e2, _, _, _, ⟨_, _, hc, _⟩ | ⟨_, c3, e3, _, hc, _⟩⟩ := if_inv h
    · exact ⟨_, hc⟩
    · exact ⟨_, hc⟩
  · rw [if_neg (by omega), if_neg (by omega), if_neg (by omega), if_neg (by omega), if_neg (by omega), if_pos g] at h
    obtain ⟨c2, e2, _, _, _, hc, _⟩ := rep_inv h
    exact ⟨_, hc⟩
theorem AT_q {k : Nat → Nat} {n : Nat} {V L : Nat → Int32} {np : Nat} {E : EV} {nx en fi ti a q pc : Nat} {fs : List FRM} {ls' rs : List Int32} (h : AT k n V L np E ((nx, en, fi, ti, a, q) :: fs) pc ls' rs) : q ≤ 5 ∧ 1 ≤ ti ∧ ti ≤ 9 ∧ nx < n ∧ en < n ∧ fi < n := by
  obtain ⟨c, _, _, h3, _, h5, _, _, h8, h9, h10, h11, _⟩ := h
  exact ⟨by omega, h10, h11, h8, h3, h9⟩
theorem phi1_p {nx en fi ti a q : Nat} (h : 1 ≤ ti) : 1 ≤ phi1 (nx, en, fi, ti, a, q) := by
  unfold phi1
  dsimp only
  repeat' split
  all_goals omega
theorem phi1_b {en fi ti a q a' q' : Nat} (h : ¬ ti = 1) (h1 : 1 ≤ ti) : phi1 (fi, en, fi, ti - 1, a', q') + 1 ≤ phi1 (en, en, fi, ti, a, q) := by
  unfold phi1
  dsimp only
  by_cases c : fi = en
  · rw [if_pos c, if_pos c]; omega
  · rw [if_neg c, if_neg c, if_neg c, if_pos rfl]; omega
/-- the depth of tours: a frame's tour is one of them -/
theorem run_l {D v who nt : Nat} {lim : Int32} {cl : List CL} {dn : List NS} {ps : List PT} {vs : List (Int32 × Int32 × Int32)} {k : Nat → Nat} {n : Nat} {V L : Nat → Int32} {T : Nat → Nat} {E : EV} {o1 o2 o3 o4 o5 : Option Value} (hE1 : E.1 = cl) (hE2 : E.2.1 = dn) (hE3 : E.2.2.1 = ps) (hT : TOU k n V L ps.length E nt T) :
    ∀ (M se : Nat) (fs : List FRM) (S : VS) (s : VM) (h : mH), (300 - se) * 600 + 2 * phi fs + 1 ≤ M → se ≤ 300 → S.2.2.2.2.2.2.2.2.1 = Int32.ofNat se → S.2.2.2.2.2.2.2.2.2.length ≤ 6 * se → (∃ r, r < 12 ∧ S.2.1 = Int32.ofNat r) → (∀ f, f ∈ fs → f.2.2.2.2.2 ≤ nt) → xT h v who cl dn ps vs k n V L nt T → wS h v who lim S → frS h v fs → mI h v 11 = 0 → WW k n V L ps.length E fs s S →
    ∃ H N s' S' ea, N ≤ M ∧ VRn (vKK vs (Int32.ofNat who) lim) E N s s' ∧ s'.2.2.2.2 = (false, ea, S') ∧ mExec (mCall (D + 28)) 213 97 [some (.ref v), o1, o2, o3, o4, o5] [] h = some (.inl (some (.int S'.2.2.2.2.1)), H) ∧ wS H v who lim S' ∧ mI H v 11 = bz ea ∧ mI H v 0 = mI h v 0 ∧ Fr (WV v) h H ∧ S'.2.2.2.2.2.2.2.2.2.length ≤ 1800 := by
  intro M
  induction M using Nat.strongRecOn with
  | ind M ih =>
  intro se fs S s h hM hse hS hl hr hfq m hs f h11 ww
  have m0 := m
  obtain ⟨w, hv, hwh, hn, tk', k50, knx, hnt, tt⟩ := m
  have hk := w.1
  have hp := pt_P hk
  have f0 := f
  cases fs with
  | nil =>
    rcases ww with ⟨_, e⟩ | ⟨pc, ls', rs, _, hA⟩
    · obtain ⟨f1, _, _⟩ := f
      obtain ⟨sec, room, ti, he, wo, st, re, mi, se0, l⟩ := S
      obtain ⟨m1, m2, m3, m4, m5, m6, m7, m8, m9, m10, m11, m12, m13, m14, m15⟩ := id hs
      have t0 := eq_true (show Int32.ofNat ([] : List FRM).length ≤ 0 by decide)
      refine ⟨h, 0, s, _, false, by omega, VRn_0, e, ?_, hs, h11, rfl, ⟨rfl, fun _ _ _ => rfl⟩, Nat.le_trans hl (by omega)⟩
      rw [x_213_97]
      simp (maxDischargeDepth := 60) only [hk, x_213_0, x_213_1, x_213_2, x_213_5, x_213_6, x_213_7, x_213_10, x_213_11, x_213_13, x_213_16, x_213_17, x_213_19, x_213_21, x_213_22, x_213_25, x_213_26, x_213_27, x_213_30, x_213_31, x_213_32, x_213_35, x_213_36, x_213_37, x_213_40, x_213_41, x_213_42, x_213_45, x_213_46, x_213_47, x_213_50, x_213_51, x_213_52, x_213_55, x_213_56, x_213_57, x_213_60, x_213_61, x_213_62, x_213_65, x_213_66, x_213_67, x_213_70, x_213_71, x_213_72, x_213_75, x_213_76, x_213_77, x_213_80, x_213_81, x_213_82, x_213_85, x_213_88, x_213_91, x_213_92, x_213_93, x_213_94, x_213_98, x_213_101, x_213_104, x_213_105, x_213_108, x_213_109, x_213_112, x_213_113, x_213_114, x_213_115, x_213_116, x_213_119, x_213_120, x_213_123, x_213_124, x_213_125, x_213_126, x_213_129, x_213_130, x_213_133, x_213_134, x_213_137, x_213_138, x_213_139, x_213_140, x_213_141, x_213_142, x_213_143, x_213_144, x_213_145, x_213_148, x_213_149, x_213_152, x_213_153, x_213_154, x_213_155, x_213_158, x_213_159, x_213_162, x_213_163, x_213_164, x_213_165, x_213_166, x_213_167, x_213_170, x_213_171, x_213_174, x_213_175, x_213_176, x_213_177, x_213_180, x_213_181, x_213_181i, x_213_182, x_213_185, x_213_186, x_213_187, x_213_190, x_213_193, x_213_194, x_213_197, x_213_198, x_213_201, x_213_204, x_213_205, x_213_208, x_213_211, x_213_214, x_213_215, x_213_216, x_213_219, x_213_222, x_213_223, x_213_223i, x_213_224, x_213_227, x_213_228, x_213_229, x_213_232, x_213_233, x_213_236, x_213_239, x_213_240, x_213_243, hv, hp, hk, wt_a hv hp, wt_b hv hp, wt_c hv hp, wt_d hv hp, wk_c hv, wk_d hv, wk_0 hv, wk_1 hv, f1, t0, m7, Option.bind_some, mAft_n, mAft_v, mAft_x, mS_n, mS_i, mS_r, mS_l, mS_d, ne_eq, not_false_eq_true, not_true_eq_false, true_or, or_true, and_true, true_and, if_true, if_false, ite_true, ite_false, reduceIte, Nat.reduceAdd, Nat.reduceLeDiff, Nat.reduceEqDiff, false_and, and_false, or_false, false_or, eq_self, reduceCtorEq, mi_316, mi_317, ml_317, mi_318, ml_318, mi_319, ml_319, mi_320, ml_320, mi_321, ml_321, mi_322, ml_322, mi_359, ml_359, mv_316_1, mv_316_4, mv_316_7, mv_316_8, mv_316_9, mv_316_10, mv_316_13, mv_316_14, mv_316_15, pi_0, pi_1, pl_1, pv_1, pi_2, pl_2, pv_2, pi_3, pl_3, pv_3, pi_4, pl_4, pv_4, pi_5, pl_5, pv_5, pi_6, pl_6, pv_10, pi_7, pl_7, pv_11, pi_8, pl_8, pv_12, pi_9, pl_9, pv_13, pi_10, pl_10, pv_14, pi_11, pl_11, pv_15, pv_20, wi_0, wi_1, wl_1, wv_14, wi_2, wl_2, wv_15, wi_3, wl_3, wv_16, wi_4, wl_4, wv_17, wi_5, wl_5, wv_18, wv_21, pt_P, pt_v, pt_w, pt_SI, pt_SL, kM_SI, kM_SL, lI_SL, lV_SL, lK_SL, lN_SL, lL_SL, lIs_SL, nI_SI, nV_SI, nK_SI, nN_SI, nL_SI, nIs_SI, pp_c, pp_l, pp_r, pp_k, pp_k0, pp_j, pp_j0, isl]
    · exact hA.elim
  | cons fr fs =>
    obtain ⟨nx, en, fi, ti, a, q⟩ := fr
    rcases ww with ⟨e, _⟩ | ⟨pc, ls', rs, hse', hA⟩
    · cases e
    subst hse'
    obtain ⟨f1, f2, f3, f4, f5, f6, f7⟩ := f
    rw [List.length_cons] at f1 f2
    obtain ⟨hq5, t1, t9, hnx, hen, hfi⟩ := AT_q hA
    have tn : ¬ Int32.ofNat (fs.length + 1) ≤ 0 := by rw [show (0 : Int32) = Int32.ofNat 0 from rfl, i_ofle (by omega) (by omega)]; omega
    have t1' : Int32.ofNat (fs.length + 1) - 1 = Int32.ofNat fs.length := by rw [show (1 : Int32) = Int32.ofNat 1 from rfl, i_subof (by omega)]; rfl
    have hj : mIn (Int32.ofNat fs.length) 64 = true := i_in (by rw [i_of_i (by omega)]; omega) (by rw [i_of_i (by omega)]; omega)
    have en0 : (Int32.ofNat fs.length).toNatClampNeg = fs.length := i_of_n (by omega)
    have ne : (Int32.ofNat nx = Int32.ofNat en) = (nx = en) := i_ofeq (by omega) (by omega)
    have nj : ∀ c, 1 ≤ c → c ≤ 5 → ¬ v = v + c := fun c h1 _ => by omega
    by_cases hne : nx = en
    · subst hne
      obtain ⟨N, s2, hN, vr, ww2⟩ := at_end (K := vKK vs (Int32.ofNat who) lim) (S := S) hA
      have nt' : (Int32.ofNat ti - 1 = 0) = (ti = 1) := by
        rw [show (1 : Int32) = Int32.ofNat 1 from rfl, i_subof (by omega), show (0 : Int32) = Int32.ofNat 0 from rfl, i_ofeq (by omega) (by omega)]
        apply propext; omega
      have ti1 : Int32.ofNat ti - 1 = Int32.ofNat (ti - 1) := by rw [show (1 : Int32) = Int32.ofNat 1 from rfl, i_subof (by omega)]
      -- the state behind
      generalize hh1 : mSI (mSI h (v + 5) fs.length (Int32.ofNat ti - 1)) (v + 2) fs.length (Int32.ofNat fi) = h1
      have fv1 : Fr (WV v) h h1 := by rw [← hh1]; exact Fr_SI (Fr_SI ⟨rfl, fun _ _ _ => rfl⟩ (by unfold WV; simp)) (by unfold WV; simp)
      have v1 : ∀ j, mI h1 v j = mI h v j := fun j => by rw [← hh1, mI_SI_other (by omega), mI_SI_other (by omega)]
      have hs1 : wS h1 v who lim S := wS_KG (fun j _ => v1 j) (by rw [← hh1, mI_SI_other (by omega), mI_SI_other (by omega)]) hs
      have low : frR h1 v fs := frR_keep fs (fun c y h2 h3 h4 => by rw [← hh1, nI_SI, if_neg (by omega), nI_SI, if_neg (by omega)]) f7
      have e11 : mI h1 v 11 = 0 := (v1 11).trans h11
      have x1 := xT_Fr fv1 (WV_ok hv) m0
      by_cases c1 : ti = 1
      · rw [if_pos c1] at ww2
        have fv2 : Fr (WV v) h (mSI h1 v 19 (Int32.ofNat fs.length)) := Fr_SI fv1 (by unfold WV; simp)
        have p0 := phi_c (f := (nx, nx, fi, ti, a, q)) (fs := fs)
        have p1 := phi1_p (nx := nx) (en := nx) (fi := fi) (a := a) (q := q) t1
        obtain ⟨H, N2, s3, S3, ea, g1, g2, g3, g4, g5, g6, g7, g8, g9⟩ := ih ((300 - se) * 600 + 2 * phi fs + 1) (by omega) se fs S s2 (mSI h1 v 19 (Int32.ofNat fs.length)) (Nat.le_refl _) hse hS hl hr (fun y hy => hfq y (by simp [hy])) (xT_Fr fv2 (WV_ok hv) m0) (wS_KG (fun j hj => by rw [nI_SI, if_neg (by omega)]) (by rw [mI_SI_other (by omega)]) hs1) ⟨by rw [nI_SI, if_pos ⟨rfl, rfl⟩], by omega, frR_keep fs (fun c y h2 h3 h4 => by rw [mI_SI_other (by omega)]) low⟩ (by rw [nI_SI, if_neg (by omega)]; exact e11) ww2
        refine ⟨H, N + N2, s3, S3, ea, by omega, VRn_t vr g2, g3, ?_, g5, g6, ?_, Fr_trans fv2 g8, g9⟩
        · rw [← g4, x_213_97, ← hh1]
          have c1' : Int32.ofNat ti - 1 = 0 := by rw [nt']; exact c1
          have c1z := eq_true c1'
          simp (maxDischargeDepth := 60) only [hk, x_213_0, x_213_1, x_213_2, x_213_5, x_213_6, x_213_7, x_213_10, x_213_11, x_213_13, x_213_16, x_213_17, x_213_19, x_213_21, x_213_22, x_213_25, x_213_26, x_213_27, x_213_30, x_213_31, x_213_32, x_213_35, x_213_36, x_213_37, x_213_40, x_213_41, x_213_42, x_213_45, x_213_46, x_213_47, x_213_50, x_213_51, x_213_52, x_213_55, x_213_56, x_213_57, x_213_60, x_213_61, x_213_62, x_213_65, x_213_66, x_213_67, x_213_70, x_213_71, x_213_72, x_213_75, x_213_76, x_213_77, x_213_80, x_213_81, x_213_82, x_213_85, x_213_88, x_213_91, x_213_92, x_213_93, x_213_94, x_213_98, x_213_101, x_213_104, x_213_105, x_213_108, x_213_109, x_213_112, x_213_113, x_213_114, x_213_115, x_213_116, x_213_119, x_213_120, x_213_123, x_213_124, x_213_125, x_213_126, x_213_129, x_213_130, x_213_133, x_213_134, x_213_137, x_213_138, x_213_139, x_213_140, x_213_141, x_213_142, x_213_143, x_213_144, x_213_145, x_213_148, x_213_149, x_213_152, x_213_153, x_213_154, x_213_155, x_213_158, x_213_159, x_213_162, x_213_163, x_213_164, x_213_165, x_213_166, x_213_167, x_213_170, x_213_171, x_213_174, x_213_175, x_213_176, x_213_177, x_213_180, x_213_181, x_213_181i, x_213_182, x_213_185, x_213_186, x_213_187, x_213_190, x_213_193, x_213_194, x_213_197, x_213_198, x_213_201, x_213_204, x_213_205, x_213_208, x_213_211, x_213_214, x_213_215, x_213_216, x_213_219, x_213_222, x_213_223, x_213_223i, x_213_224, x_213_227, x_213_228, x_213_229, x_213_232, x_213_233, x_213_236, x_213_239, x_213_240, x_213_243, hv, hp, hk, wt_a hv hp, wt_b hv hp, wt_c hv hp, wt_d hv hp, wk_c hv, wk_d hv, wk_0 hv, wk_1 hv, f1, tn, t1', hj, en0, f3, f4, f5, f6, c1z, Option.bind_some, mAft_n, mAft_v, mAft_x, mS_n, mS_i, mS_r, mS_l, mS_d, ne_eq, not_false_eq_true, not_true_eq_false, true_or, or_true, and_true, true_and, if_true, if_false, ite_true, ite_false, reduceIte, Nat.reduceAdd, Nat.reduceLeDiff, Nat.reduceEqDiff, false_and, and_false, or_false, false_or, eq_self, reduceCtorEq, mi_316, mi_317, ml_317, mi_318, ml_318, mi_319, ml_319, mi_320, ml_320, mi_321, ml_321, mi_322, ml_322, mi_359, ml_359, mv_316_1, mv_316_4, mv_316_7, mv_316_8, mv_316_9, mv_316_10, mv_316_13, mv_316_14, mv_316_15, pi_0, pi_1, pl_1, pv_1, pi_2, pl_2, pv_2, pi_3, pl_3, pv_3, pi_4, pl_4, pv_4, pi_5, pl_5, pv_5, pi_6, pl_6, pv_10, pi_7, pl_7, pv_11, pi_8, pl_8, pv_12, pi_9, pl_9, pv_13, pi_10, pl_10, pv_14, pi_11, pl_11, pv_15, pv_20, wi_0, wi_1, wl_1, wv_14, wi_2, wl_2, wv_15, wi_3, wl_3, wv_16, wi_4, wl_4, wv_17, wi_5, wl_5, wv_18, wv_21, pt_P, pt_v, pt_w, pt_SI, pt_SL, kM_SI, kM_SL, lI_SL, lV_SL, lK_SL, lN_SL, lL_SL, lIs_SL, nI_SI, nV_SI, nK_SI, nN_SI, nL_SI, nIs_SI, pp_c, pp_l, pp_r, pp_k, pp_k0, pp_j, pp_j0, isl]
        · rw [g7, nI_SI, if_neg (by omega)]; exact v1 0
      · rw [if_neg c1] at ww2
        have p0 := phi_c (f := (nx, nx, fi, ti, a, q)) (fs := fs)
        have p2 := phi_c (f := (fi, nx, fi, ti - 1, a, q)) (fs := fs)
        have p1 := phi1_b (en := nx) (fi := fi) (a := a) (q := q) (a' := a) (q' := q) c1 t1
        have fn : frS h1 v ((fi, nx, fi, ti - 1, a, q) :: fs) := by
          refine ⟨(v1 19).trans f1, by rw [List.length_cons]; omega, ?_, ?_, ?_, ?_, low⟩
          · rw [← hh1, nI_SI, if_pos ⟨rfl, rfl⟩]
          · rw [← hh1, nI_SI, if_neg (by omega), nI_SI, if_neg (by omega)]; exact f4
          · rw [← hh1, nI_SI, if_neg (by omega), nI_SI, if_neg (by omega)]; exact f5
          · rw [← hh1, nI_SI, if_neg (by omega), nI_SI, if_pos ⟨rfl, rfl⟩]; exact ti1
        obtain ⟨H, N2, s3, S3, ea, g1, g2, g3, g4, g5, g6, g7, g8, g9⟩ := ih ((300 - se) * 600 + 2 * phi ((fi, nx, fi, ti - 1, a, q) :: fs) + 1) (by omega) se _ S s2 h1 (Nat.le_refl _) hse hS hl hr (fun y hy => by
          rcases List.mem_cons.mp hy with rfl | hy
          · exact hfq (nx, nx, fi, ti, a, q) (by simp)
          · exact hfq y (by simp [hy])) x1 hs1 fn e11 ww2
        refine ⟨H, N + N2, s3, S3, ea, by omega, VRn_t vr g2, g3, ?_, g5, g6, g7.trans (v1 0), Fr_trans fv1 g8, g9⟩
        rw [← g4, x_213_97, ← hh1]
        have c1z : ¬ Int32.ofNat ti - 1 = 0 := by rw [nt']; exact c1
        simp (maxDischargeDepth := 60) only [hk, x_213_0, x_213_1, x_213_2, x_213_5, x_213_6, x_213_7, x_213_10, x_213_11, x_213_13, x_213_16, x_213_17, x_213_19, x_213_21, x_213_22, x_213_25, x_213_26, x_213_27, x_213_30, x_213_31, x_213_32, x_213_35, x_213_36, x_213_37, x_213_40, x_213_41, x_213_42, x_213_45, x_213_46, x_213_47, x_213_50, x_213_51, x_213_52, x_213_55, x_213_56, x_213_57, x_213_60, x_213_61, x_213_62, x_213_65, x_213_66, x_213_67, x_213_70, x_213_71, x_213_72, x_213_75, x_213_76, x_213_77, x_213_80, x_213_81, x_213_82, x_213_85, x_213_88, x_213_91, x_213_92, x_213_93, x_213_94, x_213_98, x_213_101, x_213_104, x_213_105, x_213_108, x_213_109, x_213_112, x_213_113, x_213_114, x_213_115, x_213_116, x_213_119, x_213_120, x_213_123, x_213_124, x_213_125, x_213_126, x_213_129, x_213_130, x_213_133, x_213_134, x_213_137, x_213_138, x_213_139, x_213_140, x_213_141, x_213_142, x_213_143, x_213_144, x_213_145, x_213_148, x_213_149, x_213_152, x_213_153, x_213_154, x_213_155, x_213_158, x_213_159, x_213_162, x_213_163, x_213_164, x_213_165, x_213_166, x_213_167, x_213_170, x_213_171, x_213_174, x_213_175, x_213_176, x_213_177, x_213_180, x_213_181, x_213_181i, x_213_182, x_213_185, x_213_186, x_213_187, x_213_190, x_213_193, x_213_194, x_213_197, x_213_198, x_213_201, x_213_204, x_213_205, x_213_208, x_213_211, x_213_214, x_213_215, x_213_216, x_213_219, x_213_222, x_213_223, x_213_223i, x_213_224, x_213_227, x_213_228, x_213_229, x_213_232, x_213_233, x_213_236, x_213_239, x_213_240, x_213_243, hv, hp, hk, wt_a hv hp, wt_b hv hp, wt_c hv hp, wt_d hv hp, wk_c hv, wk_d hv, wk_0 hv, wk_1 hv, f1, tn, t1', hj, en0, f3, f4, f5, f6, c1z, Option.bind_some, mAft_n, mAft_v, mAft_x, mS_n, mS_i, mS_r, mS_l, mS_d, ne_eq, not_false_eq_true, not_true_eq_false, true_or, or_true, and_true, true_and, if_true, if_false, ite_true, ite_false, reduceIte, Nat.reduceAdd, Nat.reduceLeDiff, Nat.reduceEqDiff, false_and, and_false, or_false, false_or, eq_self, reduceCtorEq, mi_316, mi_317, ml_317, mi_318, ml_318, mi_319, ml_319, mi_320, ml_320, mi_321, ml_321, mi_322, ml_322, mi_359, ml_359, mv_316_1, mv_316_4, mv_316_7, mv_316_8, mv_316_9, mv_316_10, mv_316_13, mv_316_14, mv_316_15, pi_0, pi_1, pl_1, pv_1, pi_2, pl_2, pv_2, pi_3, pl_3, pv_3, pi_4, pl_4, pv_4, pi_5, pl_5, pv_5, pi_6, pl_6, pv_10, pi_7, pl_7, pv_11, pi_8, pl_8, pv_12, pi_9, pl_9, pv_13, pi_10, pl_10, pv_14, pi_11, pl_11, pv_15, pv_20, wi_0, wi_1, wl_1, wv_14, wi_2, wl_2, wv_15, wi_3, wl_3, wv_16, wi_4, wl_4, wv_17, wi_5, wl_5, wv_18, wv_21, pt_P, pt_v, pt_w, pt_SI, pt_SL, kM_SI, kM_SL, lI_SL, lV_SL, lK_SL, lN_SL, lL_SL, lIs_SL, nI_SI, nV_SI, nK_SI, nN_SI, nL_SI, nIs_SI, pp_c, pp_l, pp_r, pp_k, pp_k0, pp_j, pp_j0, isl]
    · obtain ⟨l, c1, e1, s1, s2, s3, s4, s5, s6, s7⟩ := at_next hA hne
      obtain ⟨rr, hc1⟩ := sen_1 s1 s2
      rw [hc1] at s4
      obtain ⟨o1', _, _, _⟩ := cAt_h s4
      have nne : ¬ Int32.ofNat nx = Int32.ofNat en := by rw [ne]; exact hne
      obtain ⟨sec, room, tir, he, wo, st, re, mi, se0, l0⟩ := S
      obtain ⟨m1, m2, m3, m4, m5, m6, m7, m8, m9, m10, m11, m12, m13, m14, m15⟩ := id hs
      dsimp only at hS hl hr
      subst hS
      have e300 : (Int32.ofNat se = 300) = (se = 300) := by rw [show (300 : Int32) = Int32.ofNat 300 from rfl, i_ofeq (by omega) (by omega)]
      have eov : ovr (vKK vs (Int32.ofNat who) lim) (sec, room, tir, he, wo, st, re, mi, Int32.ofNat se, l0) = (decide (lim ≤ sec) || decide (se = 300)) := by
        show (decide (lim ≤ sec) || decide (300 ≤ Int32.ofNat se)) = _
        congr 1
        rw [decide_eq_decide, show (300 : Int32) = Int32.ofNat 300 from rfl, i_ofle (by omega) (by omega)]
        omega
      have n10 : ¬ (1 : Int32) = 0 := by decide
      cases hov : ovr (vKK vs (Int32.ofNat who) lim) (sec, room, tir, he, wo, st, re, mi, Int32.ofNat se, l0)
      case true =>
        have vr := vm_1e (ls' := ls') (rs := rs) o1' hov
        have f1v : Fr (WV v) h (mSI h v 11 1) := Fr_SI ⟨rfl, fun _ _ _ => rfl⟩ (by unfold WV; simp)
        refine ⟨mSI h v 11 1, 1, _, (sec, room, tir, he, wo, st, re, mi, Int32.ofNat se, l0), true, by omega, vr, rfl, ?_, ?_, by rw [nI_SI, if_pos ⟨rfl, rfl⟩]; rfl, by rw [nI_SI, if_neg (by omega)], f1v, by show l0.length ≤ 1800; omega⟩
        · rw [eov, Bool.or_eq_true, decide_eq_true_iff, decide_eq_true_iff] at hov
          rw [x_213_97]
          by_cases c2 : lim ≤ sec
          · have c2' := eq_true c2
            simp (maxDischargeDepth := 60) only [hk, x_213_0, x_213_1, x_213_2, x_213_5, x_213_6, x_213_7, x_213_10, x_213_11, x_213_13, x_213_16, x_213_17, x_213_19, x_213_21, x_213_22, x_213_25, x_213_26, x_213_27, x_213_30, x_213_31, x_213_32, x_213_35, x_213_36, x_213_37, x_213_40, x_213_41, x_213_42, x_213_45, x_213_46, x_213_47, x_213_50, x_213_51, x_213_52, x_213_55, x_213_56, x_213_57, x_213_60, x_213_61, x_213_62, x_213_65, x_213_66, x_213_67, x_213_70, x_213_71, x_213_72, x_213_75, x_213_76, x_213_77, x_213_80, x_213_81, x_213_82, x_213_85, x_213_88, x_213_91, x_213_92, x_213_93, x_213_94, x_213_98, x_213_101, x_213_104, x_213_105, x_213_108, x_213_109, x_213_112, x_213_113, x_213_114, x_213_115, x_213_116, x_213_119, x_213_120, x_213_123, x_213_124, x_213_125, x_213_126, x_213_129, x_213_130, x_213_133, x_213_134, x_213_137, x_213_138, x_213_139, x_213_140, x_213_141, x_213_142, x_213_143, x_213_144, x_213_145, x_213_148, x_213_149, x_213_152, x_213_153, x_213_154, x_213_155, x_213_158, x_213_159, x_213_162, x_213_163, x_213_164, x_213_165, x_213_166, x_213_167, x_213_170, x_213_171, x_213_174, x_213_175, x_213_176, x_213_177, x_213_180, x_213_181, x_213_181i, x_213_182, x_213_185, x_213_186, x_213_187, x_213_190, x_213_193, x_213_194, x_213_197, x_213_198, x_213_201, x_213_204, x_213_205, x_213_208, x_213_211, x_213_214, x_213_215, x_213_216, x_213_219, x_213_222, x_213_223, x_213_223i, x_213_224, x_213_227, x_213_228, x_213_229, x_213_232, x_213_233, x_213_236, x_213_239, x_213_240, x_213_243, hv, hp, hk, wt_a hv hp, wt_b hv hp, wt_c hv hp, wt_d hv hp, wk_c hv, wk_d hv, wk_0 hv, wk_1 hv, f1, tn, t1', hj, en0, f3, f4, nne, m2, m3, m7, c2', Option.bind_some, mAft_n, mAft_v, mAft_x, mS_n, mS_i, mS_r, mS_l, mS_d, ne_eq, not_false_eq_true, not_true_eq_false, true_or, or_true, and_true, true_and, if_true, if_false, ite_true, ite_false, reduceIte, Nat.reduceAdd, Nat.reduceLeDiff, Nat.reduceEqDiff, false_and, and_false, or_false, false_or, eq_self, reduceCtorEq, mi_316, mi_317, ml_317, mi_318, ml_318, mi_319, ml_319, mi_320, ml_320, mi_321, ml_321, mi_322, ml_322, mi_359, ml_359, mv_316_1, mv_316_4, mv_316_7, mv_316_8, mv_316_9, mv_316_10, mv_316_13, mv_316_14, mv_316_15, pi_0, pi_1, pl_1, pv_1, pi_2, pl_2, pv_2, pi_3, pl_3, pv_3, pi_4, pl_4, pv_4, pi_5, pl_5, pv_5, pi_6, pl_6, pv_10, pi_7, pl_7, pv_11, pi_8, pl_8, pv_12, pi_9, pl_9, pv_13, pi_10, pl_10, pv_14, pi_11, pl_11, pv_15, pv_20, wi_0, wi_1, wl_1, wv_14, wi_2, wl_2, wv_15, wi_3, wl_3, wv_16, wi_4, wl_4, wv_17, wi_5, wl_5, wv_18, wv_21, pt_P, pt_v, pt_w, pt_SI, pt_SL, kM_SI, kM_SL, lI_SL, lV_SL, lK_SL, lN_SL, lL_SL, lIs_SL, nI_SI, nV_SI, nK_SI, nN_SI, nL_SI, nIs_SI, pp_c, pp_l, pp_r, pp_k, pp_k0, pp_j, pp_j0, isl]
          · have c3 := eq_true (hov.resolve_left c2)
            simp (maxDischargeDepth := 60) only [hk, x_213_0, x_213_1, x_213_2, x_213_5, x_213_6, x_213_7, x_213_10, x_213_11, x_213_13, x_213_16, x_213_17, x_213_19, x_213_21, x_213_22, x_213_25, x_213_26, x_213_27, x_213_30, x_213_31, x_213_32, x_213_35, x_213_36, x_213_37, x_213_40, x_213_41, x_213_42, x_213_45, x_213_46, x_213_47, x_213_50, x_213_51, x_213_52, x_213_55, x_213_56, x_213_57, x_213_60, x_213_61, x_213_62, x_213_65, x_213_66, x_213_67, x_213_70, x_213_71, x_213_72, x_213_75, x_213_76, x_213_77, x_213_80, x_213_81, x_213_82, x_213_85, x_213_88, x_213_91, x_213_92, x_213_93, x_213_94, x_213_98, x_213_101, x_213_104, x_213_105, x_213_108, x_213_109, x_213_112, x_213_113, x_213_114, x_213_115, x_213_116, x_213_119, x_213_120, x_213_123, x_213_124, x_213_125, x_213_126, x_213_129, x_213_130, x_213_133, x_213_134, x_213_137, x_213_138, x_213_139, x_213_140, x_213_141, x_213_142, x_213_143, x_213_144, x_213_145, x_213_148, x_213_149, x_213_152, x_213_153, x_213_154, x_213_155, x_213_158, x_213_159, x_213_162, x_213_163, x_213_164, x_213_165, x_213_166, x_213_167, x_213_170, x_213_171, x_213_174, x_213_175, x_213_176, x_213_177, x_213_180, x_213_181, x_213_181i, x_213_182, x_213_185, x_213_186, x_213_187, x_213_190, x_213_193, x_213_194, x_213_197, x_213_198, x_213_201, x_213_204, x_213_205, x_213_208, x_213_211, x_213_214, x_213_215, x_213_216, x_213_219, x_213_222, x_213_223, x_213_223i, x_213_224, x_213_227, x_213_228, x_213_229, x_213_232, x_213_233, x_213_236, x_213_239, x_213_240, x_213_243, hv, hp, hk, wt_a hv hp, wt_b hv hp, wt_c hv hp, wt_d hv hp, wk_c hv, wk_d hv, wk_0 hv, wk_1 hv, f1, tn, t1', hj, en0, f3, f4, nne, m2, m3, m7, m11, c2, e300, c3, Option.bind_some, mAft_n, mAft_v, mAft_x, mS_n, mS_i, mS_r, mS_l, mS_d, ne_eq, not_false_eq_true, not_true_eq_false, true_or, or_true, and_true, true_and, if_true, if_false, ite_true, ite_false, reduceIte, Nat.reduceAdd, Nat.reduceLeDiff, Nat.reduceEqDiff, false_and, and_false, or_false, false_or, eq_self, reduceCtorEq, mi_316, mi_317, ml_317, mi_318, ml_318, mi_319, ml_319, mi_320, ml_320, mi_321, ml_321, mi_322, ml_322, mi_359, ml_359, mv_316_1, mv_316_4, mv_316_7, mv_316_8, mv_316_9, mv_316_10, mv_316_13, mv_316_14, mv_316_15, pi_0, pi_1, pl_1, pv_1, pi_2, pl_2, pv_2, pi_3, pl_3, pv_3, pi_4, pl_4, pv_4, pi_5, pl_5, pv_5, pi_6, pl_6, pv_10, pi_7, pl_7, pv_11, pi_8, pl_8, pv_12, pi_9, pl_9, pv_13, pi_10, pl_10, pv_14, pi_11, pl_11, pv_15, pv_20, wi_0, wi_1, wl_1, wv_14, wi_2, wl_2, wv_15, wi_3, wl_3, wv_16, wi_4, wl_4, wv_17, wi_5, wl_5, wv_18, wv_21, pt_P, pt_v, pt_w, pt_SI, pt_SL, kM_SI, kM_SL, lI_SL, lV_SL, lK_SL, lN_SL, lL_SL, lIs_SL, nI_SI, nV_SI, nK_SI, nN_SI, nL_SI, nIs_SI, pp_c, pp_l, pp_r, pp_k, pp_k0, pp_j, pp_j0, isl]
        · have KG1 : ∀ j, ¬ j = 11 → mI (mSI h v 11 1) v j = mI h v j := fun j hj => by rw [nI_SI, if_neg (by omega)]
          exact ⟨(KG1 1 (by decide)).trans m1, (KG1 2 (by decide)).trans m2, (KG1 3 (by decide)).trans m3, (KG1 4 (by decide)).trans m4, (KG1 5 (by decide)).trans m5, (KG1 6 (by decide)).trans m6, (KG1 7 (by decide)).trans m7, (KG1 8 (by decide)).trans m8, (KG1 9 (by decide)).trans m9, (KG1 10 (by decide)).trans m10, (KG1 12 (by decide)).trans m11, (KG1 13 (by decide)).trans m12, m13, m14, fun j hj => by rw [mI_SI_other (by omega)]; exact m15 j hj⟩
      case false =>
        have hov' := hov
        rw [eov, Bool.or_eq_false_iff, decide_eq_false_iff_not, decide_eq_false_iff_not] at hov'
        obtain ⟨ov1, ov2⟩ := hov'
        generalize hh1 : mSI h v 12 (Int32.ofNat (se + 1)) = h1
        have fv1 : Fr (WV v) h h1 := by rw [← hh1]; exact Fr_SI ⟨rfl, fun _ _ _ => rfl⟩ (by unfold WV; simp)
        have v1 : ∀ j, ¬ j = 12 → mI h1 v j = mI h v j := fun j hj => by rw [← hh1, nI_SI, if_neg (by omega)]
        have v2 : ∀ c, 1 ≤ c → mI h1 (v + c) = mI h (v + c) := fun c hc => by rw [← hh1, mI_SI_other (by omega)]
        have hs1 : wS h1 v who lim (vSent (sec, room, tir, he, wo, st, re, mi, Int32.ofNat se, l0)) := by
          refine ⟨(v1 1 (by decide)).trans m1, (v1 2 (by decide)).trans m2, (v1 3 (by decide)).trans m3, (v1 4 (by decide)).trans m4, (v1 5 (by decide)).trans m5, (v1 6 (by decide)).trans m6, (v1 7 (by decide)).trans m7, (v1 8 (by decide)).trans m8, (v1 9 (by decide)).trans m9, (v1 10 (by decide)).trans m10, ?_, (v1 13 (by decide)).trans m12, m13, m14, fun j hj => by rw [v2 1 (by omega)]; exact m15 j hj⟩
          rw [← hh1, nI_SI, if_pos ⟨rfl, rfl⟩, i_succ]
        have fn : frS h1 v ((nx, en, fi, ti, a, q) :: fs) := ⟨(v1 19 (by decide)).trans f0.1, f0.2.1, frR_keep _ (fun c y h2 h3 h4 => by rw [v2 c (by omega)]) f0.2.2⟩
        have x1 := xT_Fr fv1 (WV_ok hv) m0
        obtain ⟨H, fs', S', N, s', b1, b2, b3, b4, b5, b6, b7, b8, b9, b10, b11, b12, b13, b14, b15⟩ := j_sen (D := D) x1 hs1 fn hE1 hE2 hE3 hT hr (by show l0.length + 6 ≤ 1920; omega) (hfq (nx, en, fi, ti, a, q) (by simp)) hA hne hov
        have b12' : S'.2.2.2.2.2.2.2.2.2.length ≤ l0.length + 6 := b12
        have b13' : S'.2.2.2.2.2.2.2.2.1 = Int32.ofNat (se + 1) := by rw [b13]; exact i_succ
        have hfq' : ∀ y, y ∈ fs' → y.2.2.2.2.2 ≤ nt := fun y hy => by
          rcases b15 y hy with z | z
          · exact Nat.le_trans z (hfq (nx, en, fi, ti, a, q) (by simp))
          · exact hfq y (by simp [z])
        obtain ⟨K, N2, s3, S3, ea, g1, g2, g3, g4, g5, g6, g7, g8, g9⟩ := ih ((300 - (se + 1)) * 600 + 2 * phi fs' + 1) (by omega) (se + 1) fs' S' s' H (Nat.le_refl _) (by omega) b13' (by omega) b11 hfq' b5 b6 b7 (by rw [b9]; exact (v1 11 (by decide)).trans h11) b3
        refine ⟨K, N + N2, s3, S3, ea, by omega, VRn_t b2 g2, g3, ?_, g5, g6, g7.trans (b8.trans (v1 0 (by decide))), Fr_trans fv1 (Fr_trans b10 g8), g9⟩
        have hkH := b5.1.1
        rw [← g4, x_213_97]
        rw [← hh1] at b4
        simp (maxDischargeDepth := 60) only [hk, x_213_0, x_213_1, x_213_2, x_213_5, x_213_6, x_213_7, x_213_10, x_213_11, x_213_13, x_213_16, x_213_17, x_213_19, x_213_21, x_213_22, x_213_25, x_213_26, x_213_27, x_213_30, x_213_31, x_213_32, x_213_35, x_213_36, x_213_37, x_213_40, x_213_41, x_213_42, x_213_45, x_213_46, x_213_47, x_213_50, x_213_51, x_213_52, x_213_55, x_213_56, x_213_57, x_213_60, x_213_61, x_213_62, x_213_65, x_213_66, x_213_67, x_213_70, x_213_71, x_213_72, x_213_75, x_213_76, x_213_77, x_213_80, x_213_81, x_213_82, x_213_85, x_213_88, x_213_91, x_213_92, x_213_93, x_213_94, x_213_98, x_213_101, x_213_104, x_213_105, x_213_108, x_213_109, x_213_112, x_213_113, x_213_114, x_213_115, x_213_116, x_213_119, x_213_120, x_213_123, x_213_124, x_213_125, x_213_126, x_213_129, x_213_130, x_213_133, x_213_134, x_213_137, x_213_138, x_213_139, x_213_140, x_213_141, x_213_142, x_213_143, x_213_144, x_213_145, x_213_148, x_213_149, x_213_152, x_213_153, x_213_154, x_213_155, x_213_158, x_213_159, x_213_162, x_213_163, x_213_164, x_213_165, x_213_166, x_213_167, x_213_170, x_213_171, x_213_174, x_213_175, x_213_176, x_213_177, x_213_180, x_213_181, x_213_181i, x_213_182, x_213_185, x_213_186, x_213_187, x_213_190, x_213_193, x_213_194, x_213_197, x_213_198, x_213_201, x_213_204, x_213_205, x_213_208, x_213_211, x_213_214, x_213_215, x_213_216, x_213_219, x_213_222, x_213_223, x_213_223i, x_213_224, x_213_227, x_213_228, x_213_229, x_213_232, x_213_233, x_213_236, x_213_239, x_213_240, x_213_243, hv, hp, hk, wt_a hv hp, wt_b hv hp, wt_c hv hp, wt_d hv hp, wk_c hv, wk_d hv, wk_0 hv, wk_1 hv, f1, tn, t1', hj, en0, f3, f4, nne, m2, m3, m11, ov1, e300, ov2, i_succ, b4, hkH, Option.bind_some, mAft_n, mAft_v, mAft_x, mS_n, mS_i, mS_r, mS_l, mS_d, ne_eq, not_false_eq_true, not_true_eq_false, true_or, or_true, and_true, true_and, if_true, if_false, ite_true, ite_false, reduceIte, Nat.reduceAdd, Nat.reduceLeDiff, Nat.reduceEqDiff, false_and, and_false, or_false, false_or, eq_self, reduceCtorEq, mi_316, mi_317, ml_317, mi_318, ml_318, mi_319, ml_319, mi_320, ml_320, mi_321, ml_321, mi_322, ml_322, mi_359, ml_359, mv_316_1, mv_316_4, mv_316_7, mv_316_8, mv_316_9, mv_316_10, mv_316_13, mv_316_14, mv_316_15, pi_0, pi_1, pl_1, pv_1, pi_2, pl_2, pv_2, pi_3, pl_3, pv_3, pi_4, pl_4, pv_4, pi_5, pl_5, pv_5, pi_6, pl_6, pv_10, pi_7, pl_7, pv_11, pi_8, pl_8, pv_12, pi_9, pl_9, pv_13, pi_10, pl_10, pv_14, pi_11, pl_11, pv_15, pv_20, wi_0, wi_1, wl_1, wv_14, wi_2, wl_2, wv_15, wi_3, wl_3, wv_16, wi_4, wl_4, wv_17, wi_5, wl_5, wv_18, wv_21, pt_P, pt_v, pt_w, pt_SI, pt_SL, kM_SI, kM_SL, lI_SL, lV_SL, lK_SL, lN_SL, lL_SL, lIs_SL, nI_SI, nV_SI, nK_SI, nN_SI, nL_SI, nIs_SI, pp_c, pp_l, pp_r, pp_k, pp_k0, pp_j, pp_j0, isl]
