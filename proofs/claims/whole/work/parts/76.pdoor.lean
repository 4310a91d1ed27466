/-! THE REFERENCE'S PARSER: A DOOR -/
def pDoor (k : Nat → Nat) : PA := evE (sq (tk k 1) (sq (nmk k 29 61) (sq (nmk k 29 62) (sq (nmk k 30 70) (tk k 37))))) (fun i => (2, i + 1, 0))
theorem FT_Cpy {p c a i b j n : Nat} {h H : mH} (f : FT p c h H) (hq : p ≤ b ∧ b ≤ p + 11) : FT p c h (mCpy H a i b j n) := by
  obtain ⟨a1, a2, a3, a4, a5, a6, a7⟩ := f
  refine ⟨fun x y h1 h2 => ⟨?_, (a1 x y h1 h2).2⟩, a2, a3, a4, a5, a6, a7⟩
  show (if x = b ∧ j ≤ y ∧ y < j + n then _ else mI H x y) = _
  rw [if_neg (by intro z; exact h2 (by rw [z.1]; exact hq))]
  exact (a1 x y h1 h2).1
theorem kM_Cpy {h : mH} {a i b j n : Nat} : kM (mCpy h a i b j n) = kM h := Eq.trans rfl rfl
theorem pS_adD {X : PX} {p i d j a n c : Nat} {s : RS} {h : mH} (m : pS h p X i d s) : pS (mSI (mCpy h (p + c) j (p + 9) a n) p 7 (Int32.ofNat (X.2.2.2.2.2.2.2.2.2.2 + 1))) p (adD X) i d s := by
  obtain ⟨k, ln, f, wd, rs, ps, ts, nr, np, nt, nd⟩ := X
  obtain ⟨hk, hp, hX, hi, w1, w2, w3, w4, w5, w6, n1, n2, n3, a1, a2, a3, a4, a5, a6, a7⟩ := m
  unfold adD
  dsimp only at *
  have L : mL (mSI (mCpy h (p + c) j (p + 9) a n) p 7 (Int32.ofNat (nd + 1))) = mL h := rfl
  have I : ∀ q k, ¬ (q = p ∧ k = 7) → ¬ (q = p + 9) → mI (mSI (mCpy h (p + c) j (p + 9) a n) p 7 (Int32.ofNat (nd + 1))) q k = mI h q k := by
    intro q k hq hq2
    show (if q = p ∧ k = 7 then _ else if q = p + 9 ∧ a ≤ k ∧ k < a + n then _ else mI h q k) = _
    rw [if_neg hq, if_neg (fun z => hq2 z.1)]
  refine ⟨by rw [kM_SI, kM_Cpy]; exact hk, hp, hX, hi, ?_, ?_, ?_, ?_, ?_, ?_, ?_, ?_, ?_, ?_, ?_, ?_, ?_, ?_, ?_, ?_⟩
  · intro j hj; rw [I _ _ (by omega) (by omega)]; exact w1 j hj
  · funext q; rw [I _ _ (by omega) (by omega), w2]
  · rw [L]; exact w3
  · rw [L]; exact w4
  · rw [L]; exact w5
  · rw [L]; exact w6
  · rw [I _ _ (by omega) (by omega), n1]
  · rw [I _ _ (by omega) (by omega), n2]
  · rw [I _ _ (by omega) (by omega), n3]
  · rw [I _ _ (by omega) (by omega), a1]
  · rw [I _ _ (by omega) (by omega), a2]
  · rw [I _ _ (by omega) (by omega), a3]
  · rw [I _ _ (by omega) (by omega), a4]
  · funext q; rw [I _ _ (by omega) (by omega), a5]
  · funext q; rw [I _ _ (by omega) (by omega), a6]
  · rw [nI_SI, if_pos ⟨rfl, rfl⟩]
theorem r_door {D p i b : Nat} {Q : TS} {h : mH} (m : tS h p i Q) (h0 : Q.1.1 i = 1) (hd : Q.1.2.2.2.2.2.2.2.2.2.2 ≤ 24) : RH p i Q h (mCall (D + 4) 109 [.ref p] h) (pDoor Q.1.1 i b) := by
  obtain ⟨X, s, td, tp, tt, wo, ki, ne⟩ := Q
  have z0 : (0 : Int32) = 0 ∨ (0 : Int32) = 1 := Or.inl rfl
  have z1 : (1 : Int32) = 0 ∨ (1 : Int32) = 1 := Or.inr rfl
  have n10 : ¬ (1 : Int32) = 0 := by decide
  have mt := m
  obtain ⟨m, t1, t2, t3⟩ := m
  dsimp only at m t1 t2 t3 h0 hd
  obtain ⟨k1, k2, k3, k4, k5, hk, hp⟩ := pS_k m
  obtain ⟨m1, f1⟩ := q_adv m (by omega)
  have hk1 := m1.1
  have n1 : mI h p 6 = Int32.ofNat X.2.2.2.2.2.2.2.1 := m.2.2.2.2.2.2.2.2.2.2.1
  have w4 := m1.2.2.2.2.2.2.2.1
  have cap := m1.2.2.1.2.2.2.2.2.1
  have tk0 : ∀ b, tk X.1 1 i b = (i + 1, some ([], [])) := fun b => by unfold tk; rw [if_pos h0]
  have old1 := q_old (D := D) (t := p + 6) (n := X.2.2.2.2.2.2.2.1) m1 (pi_6 hk1 hp) (by rw [pl_6 hk1 hp]; exact cap) (by rw [pl_6 hk1 hp]; decide) w4
  show RH p i _ h _ (pDoor X.1 i b)
  by_cases g1 : X.1 (i + 1) = 29
  case neg =>
    obtain ⟨H2, e2, e4, e5, e6, e7⟩ := old1.2 g1
    have nm1 : ∀ b, nmk X.1 29 61 (i + 1) b = (i + 1, none) := fun b => by unfold nmk; rw [if_neg g1]
    have eP : pDoor X.1 i b = (i + 1, none) := by
      unfold pDoor evE
      rw [sq_sn (tk0 b) (sq_n (nm1 _))]
    rw [eP]
    refine ⟨H2, ?_, e4, e5, e6, FT_mono (FT_Fr (Fr_trans f1 e7)) (by omega)⟩
    simp (maxDischargeDepth := 60) only [hk, x_109_0, x_109_1, x_109_1i, x_109_2, x_109_5, x_109_6, x_109_7, x_109_10, x_109_11, x_109_12, x_109_15, x_109_16, x_109_19, x_109_22, x_109_25, x_109_26, x_109_27, x_109_28, x_109_29, x_109_32, x_109_34, x_109_37, x_109_38, x_109_41, x_109_42, x_109_43, x_109_46, x_109_47, x_109_48, x_109_51, x_109_52, x_109_55, x_109_58, x_109_61, x_109_62, x_109_63, x_109_64, x_109_65, x_109_68, x_109_69, x_109_72, x_109_73, x_109_74, x_109_75, x_109_76, x_109_79, x_109_80, x_109_83, x_109_84, x_109_85, x_109_86, x_109_89, x_109_90, x_109_93, x_109_94, x_109_96, x_109_99, x_109_100, x_109_101, x_109_104, x_109_107, x_109_110, x_109_111, x_109_113, x_109_116, x_109_119, x_109_120, x_109_121, x_109_122, x_109_125, x_109_128, x_109_129, x_109_130, x_109_131, x_109_134, x_109_135, x_109_138, x_109_139, x_109_140, x_109_141, x_109_144, x_109_145, x_109_146, x_109_149, x_109_150, x_109_151, x_109_154, x_109_155, x_109_155i, x_109_156, x_109_159, x_109_160, x_109_161, x_109_164, x_109_165, c_109, hp, k4, i_succ, hk1, n1, e2, z0, Option.bind_some, mAft_n, mAft_v, mAft_x, mS_n, mS_i, mS_r, mS_l, mS_d, ne_eq, not_false_eq_true, not_true_eq_false, true_or, or_true, and_true, true_and, if_true, if_false, ite_true, ite_false, reduceIte, Nat.reduceAdd, Nat.reduceLeDiff, Nat.reduceEqDiff, false_and, and_false, or_false, false_or, eq_self, reduceCtorEq, mi_316, mi_317, ml_317, mi_318, ml_318, mi_319, ml_319, mi_320, ml_320, mi_321, ml_321, mi_322, ml_322, mi_359, ml_359, mv_316_1, mv_316_4, mv_316_7, mv_316_8, mv_316_9, mv_316_10, mv_316_13, mv_316_14, mv_316_15, pi_0, pi_1, pl_1, pv_1, pi_2, pl_2, pv_2, pi_3, pl_3, pv_3, pi_4, pl_4, pv_4, pi_5, pl_5, pv_5, pi_6, pl_6, pv_10, pi_7, pl_7, pv_11, pi_8, pl_8, pv_12, pi_9, pl_9, pv_13, pi_10, pl_10, pv_14, pi_11, pl_11, pv_15, pv_20, wi_0, wi_1, wl_1, wv_14, wi_2, wl_2, wv_15, wi_3, wl_3, wv_16, wi_4, wl_4, wv_17, wi_5, wl_5, wv_18, wv_21, pt_P, pt_v, pt_w, pt_SI, pt_SL, kM_SI, kM_SL, lI_SL, lV_SL, lK_SL, lN_SL, lL_SL, lIs_SL, nI_SI, nV_SI, nK_SI, nN_SI, nL_SI, nIs_SI, pp_c, pp_l, pp_r, pp_k, pp_k0, pp_j, pp_j0, isl]
  case pos =>
  have nm1 : ∀ b, nmk X.1 29 61 (i + 1) b = (i + 2, some ([], [(61, i + 1, 0)])) := fun b => by unfold nmk; rw [if_pos g1]
  obtain ⟨H2, e2, m2, f2⟩ := old1.1 g1
  have hk2 := m2.1
  have a7 : mI H2 p 7 = Int32.ofNat X.2.2.2.2.2.2.2.2.2.2 := m2.2.2.2.2.2.2.2.2.2.2.2.2.2.2.2.2.2.2.2
  obtain ⟨H3, e3, m3, f3⟩ := q_mean (D := D + 2) (b := decide (X.2.2.2.2.2.2.2.2.2.2 = 24)) (n := 4) m2
  have hk3 := m3.1
  have E1 : mCall (D + 4) 109 [.ref p] h = mExec (mCall (D + 3)) 109 46 [some (.ref p)] [] H3 := by
    have eq : (Int32.ofNat X.2.2.2.2.2.2.2.2.2.2 = 24) = (X.2.2.2.2.2.2.2.2.2.2 = 24) := ofn_d 24 (by omega) (by decide) rfl
    by_cases c : X.2.2.2.2.2.2.2.2.2.2 = 24
    · rw [decide_eq_true c] at e3
      have e3' : mCall (D + 3) 104 [.ref p, .int 1, .int 4] H2 = some (.inl none, H3) := e3
      have c' := eq_true c
      simp (maxDischargeDepth := 60) only [hk, x_109_0, x_109_1, x_109_1i, x_109_2, x_109_5, x_109_6, x_109_7, x_109_10, x_109_11, x_109_12, x_109_15, x_109_16, x_109_19, x_109_22, x_109_25, x_109_26, x_109_27, x_109_28, x_109_29, x_109_32, x_109_34, x_109_37, x_109_38, x_109_41, x_109_42, x_109_43, x_109_47, x_109_48, x_109_51, x_109_52, x_109_55, x_109_58, x_109_61, x_109_62, x_109_63, x_109_64, x_109_65, x_109_68, x_109_69, x_109_72, x_109_73, x_109_74, x_109_75, x_109_76, x_109_79, x_109_80, x_109_83, x_109_84, x_109_85, x_109_86, x_109_89, x_109_90, x_109_93, x_109_94, x_109_96, x_109_99, x_109_100, x_109_101, x_109_104, x_109_107, x_109_110, x_109_111, x_109_113, x_109_116, x_109_119, x_109_120, x_109_121, x_109_122, x_109_125, x_109_128, x_109_129, x_109_130, x_109_131, x_109_134, x_109_135, x_109_138, x_109_139, x_109_140, x_109_141, x_109_144, x_109_145, x_109_146, x_109_149, x_109_150, x_109_151, x_109_154, x_109_155, x_109_155i, x_109_156, x_109_159, x_109_160, x_109_161, x_109_164, x_109_165, c_109, hp, k4, i_succ, hk1, n1, e2, hk2, n10, a7, eq, c', e3', hk3, Option.bind_some, mAft_n, mAft_v, mAft_x, mS_n, mS_i, mS_r, mS_l, mS_d, ne_eq, not_false_eq_true, not_true_eq_false, true_or, or_true, and_true, true_and, if_true, if_false, ite_true, ite_false, reduceIte, Nat.reduceAdd, Nat.reduceLeDiff, Nat.reduceEqDiff, false_and, and_false, or_false, false_or, eq_self, reduceCtorEq, mi_316, mi_317, ml_317, mi_318, ml_318, mi_319, ml_319, mi_320, ml_320, mi_321, ml_321, mi_322, ml_322, mi_359, ml_359, mv_316_1, mv_316_4, mv_316_7, mv_316_8, mv_316_9, mv_316_10, mv_316_13, mv_316_14, mv_316_15, pi_0, pi_1, pl_1, pv_1, pi_2, pl_2, pv_2, pi_3, pl_3, pv_3, pi_4, pl_4, pv_4, pi_5, pl_5, pv_5, pi_6, pl_6, pv_10, pi_7, pl_7, pv_11, pi_8, pl_8, pv_12, pi_9, pl_9, pv_13, pi_10, pl_10, pv_14, pi_11, pl_11, pv_15, pv_20, wi_0, wi_1, wl_1, wv_14, wi_2, wl_2, wv_15, wi_3, wl_3, wv_16, wi_4, wl_4, wv_17, wi_5, wl_5, wv_18, wv_21, pt_P, pt_v, pt_w, pt_SI, pt_SL, kM_SI, kM_SL, lI_SL, lV_SL, lK_SL, lN_SL, lL_SL, lIs_SL, nI_SI, nV_SI, nK_SI, nN_SI, nL_SI, nIs_SI, pp_c, pp_l, pp_r, pp_k, pp_k0, pp_j, pp_j0, isl]
    · rw [decide_eq_false c] at e3
      have e3' : mCall (D + 3) 104 [.ref p, .int 0, .int 4] H2 = some (.inl none, H3) := e3
      simp (maxDischargeDepth := 60) only [hk, x_109_0, x_109_1, x_109_1i, x_109_2, x_109_5, x_109_6, x_109_7, x_109_10, x_109_11, x_109_12, x_109_15, x_109_16, x_109_19, x_109_22, x_109_25, x_109_26, x_109_27, x_109_28, x_109_29, x_109_32, x_109_34, x_109_37, x_109_38, x_109_41, x_109_42, x_109_43, x_109_47, x_109_48, x_109_51, x_109_52, x_109_55, x_109_58, x_109_61, x_109_62, x_109_63, x_109_64, x_109_65, x_109_68, x_109_69, x_109_72, x_109_73, x_109_74, x_109_75, x_109_76, x_109_79, x_109_80, x_109_83, x_109_84, x_109_85, x_109_86, x_109_89, x_109_90, x_109_93, x_109_94, x_109_96, x_109_99, x_109_100, x_109_101, x_109_104, x_109_107, x_109_110, x_109_111, x_109_113, x_109_116, x_109_119, x_109_120, x_109_121, x_109_122, x_109_125, x_109_128, x_109_129, x_109_130, x_109_131, x_109_134, x_109_135, x_109_138, x_109_139, x_109_140, x_109_141, x_109_144, x_109_145, x_109_146, x_109_149, x_109_150, x_109_151, x_109_154, x_109_155, x_109_155i, x_109_156, x_109_159, x_109_160, x_109_161, x_109_164, x_109_165, c_109, hp, k4, i_succ, hk1, n1, e2, hk2, n10, a7, eq, c, e3', hk3, Option.bind_some, mAft_n, mAft_v, mAft_x, mS_n, mS_i, mS_r, mS_l, mS_d, ne_eq, not_false_eq_true, not_true_eq_false, true_or, or_true, and_true, true_and, if_true, if_false, ite_true, ite_false, reduceIte, Nat.reduceAdd, Nat.reduceLeDiff, Nat.reduceEqDiff, false_and, and_false, or_false, false_or, eq_self, reduceCtorEq, mi_316, mi_317, ml_317, mi_318, ml_318, mi_319, ml_319, mi_320, ml_320, mi_321, ml_321, mi_322, ml_322, mi_359, ml_359, mv_316_1, mv_316_4, mv_316_7, mv_316_8, mv_316_9, mv_316_10, mv_316_13, mv_316_14, mv_316_15, pi_0, pi_1, pl_1, pv_1, pi_2, pl_2, pv_2, pi_3, pl_3, pv_3, pi_4, pl_4, pv_4, pi_5, pl_5, pv_5, pi_6, pl_6, pv_10, pi_7, pl_7, pv_11, pi_8, pl_8, pv_12, pi_9, pl_9, pv_13, pi_10, pl_10, pv_14, pi_11, pl_11, pv_15, pv_20, wi_0, wi_1, wl_1, wv_14, wi_2, wl_2, wv_15, wi_3, wl_3, wv_16, wi_4, wl_4, wv_17, wi_5, wl_5, wv_18, wv_21, pt_P, pt_v, pt_w, pt_SI, pt_SL, kM_SI, kM_SL, lI_SL, lV_SL, lK_SL, lN_SL, lL_SL, lIs_SL, nI_SI, nV_SI, nK_SI, nN_SI, nL_SI, nIs_SI, pp_c, pp_l, pp_r, pp_k, pp_k0, pp_j, pp_j0, isl]
  rw [E1]
  have F3 : Fr [p, p + 2, p + 4] h H3 := Fr_trans f1 (Fr_trans f2 f3)
  have n13 : mI H3 p 6 = Int32.ofNat X.2.2.2.2.2.2.2.1 := m3.2.2.2.2.2.2.2.2.2.2.1
  have w43 := m3.2.2.2.2.2.2.2.1
  have l43 := (pS_k m3).2.2.2.1
  have old2 := q_old (D := D) (t := p + 6) (n := X.2.2.2.2.2.2.2.1) m3 (pi_6 hk3 hp) (by rw [pl_6 hk3 hp]; exact cap) (by rw [pl_6 hk3 hp]; decide) w43
  by_cases g2 : X.1 (i + 1 + 1) = 29
  case neg =>
    obtain ⟨H4, e4, e41, e42, e43, e44⟩ := old2.2 g2
    have nm2 : ∀ b, nmk X.1 29 62 (i + 2) b = (i + 2, none) := fun b => by unfold nmk; rw [if_neg g2]
    have eP : pDoor X.1 i b = (i + 2, none) := by
      unfold pDoor evE
      rw [sq_sn (tk0 b) (sq_sn (nm1 _) (sq_n (nm2 _)))]
    rw [eP]
    refine ⟨H4, ?_, e41, e42, e43, FT_mono (FT_Fr (Fr_trans F3 e44)) (by omega)⟩
    rw [x_109_46]
    simp (maxDischargeDepth := 60) only [hk, x_109_0, x_109_1, x_109_1i, x_109_2, x_109_5, x_109_6, x_109_7, x_109_10, x_109_11, x_109_12, x_109_15, x_109_16, x_109_19, x_109_22, x_109_25, x_109_26, x_109_27, x_109_28, x_109_29, x_109_32, x_109_34, x_109_37, x_109_38, x_109_41, x_109_42, x_109_43, x_109_47, x_109_48, x_109_51, x_109_52, x_109_55, x_109_58, x_109_61, x_109_62, x_109_63, x_109_64, x_109_65, x_109_68, x_109_69, x_109_72, x_109_73, x_109_74, x_109_75, x_109_76, x_109_79, x_109_80, x_109_83, x_109_84, x_109_85, x_109_86, x_109_89, x_109_90, x_109_93, x_109_94, x_109_96, x_109_99, x_109_100, x_109_101, x_109_104, x_109_107, x_109_110, x_109_111, x_109_113, x_109_116, x_109_119, x_109_120, x_109_121, x_109_122, x_109_125, x_109_128, x_109_129, x_109_130, x_109_131, x_109_134, x_109_135, x_109_138, x_109_139, x_109_140, x_109_141, x_109_144, x_109_145, x_109_146, x_109_149, x_109_150, x_109_151, x_109_154, x_109_155, x_109_155i, x_109_156, x_109_159, x_109_160, x_109_161, x_109_164, x_109_165, hp, hk3, n13, e4, z0, Option.bind_some, mAft_n, mAft_v, mAft_x, mS_n, mS_i, mS_r, mS_l, mS_d, ne_eq, not_false_eq_true, not_true_eq_false, true_or, or_true, and_true, true_and, if_true, if_false, ite_true, ite_false, reduceIte, Nat.reduceAdd, Nat.reduceLeDiff, Nat.reduceEqDiff, false_and, and_false, or_false, false_or, eq_self, reduceCtorEq, mi_316, mi_317, ml_317, mi_318, ml_318, mi_319, ml_319, mi_320, ml_320, mi_321, ml_321, mi_322, ml_322, mi_359, ml_359, mv_316_1, mv_316_4, mv_316_7, mv_316_8, mv_316_9, mv_316_10, mv_316_13, mv_316_14, mv_316_15, pi_0, pi_1, pl_1, pv_1, pi_2, pl_2, pv_2, pi_3, pl_3, pv_3, pi_4, pl_4, pv_4, pi_5, pl_5, pv_5, pi_6, pl_6, pv_10, pi_7, pl_7, pv_11, pi_8, pl_8, pv_12, pi_9, pl_9, pv_13, pi_10, pl_10, pv_14, pi_11, pl_11, pv_15, pv_20, wi_0, wi_1, wl_1, wv_14, wi_2, wl_2, wv_15, wi_3, wl_3, wv_16, wi_4, wl_4, wv_17, wi_5, wl_5, wv_18, wv_21, pt_P, pt_v, pt_w, pt_SI, pt_SL, kM_SI, kM_SL, lI_SL, lV_SL, lK_SL, lN_SL, lL_SL, lIs_SL, nI_SI, nV_SI, nK_SI, nN_SI, nL_SI, nIs_SI, pp_c, pp_l, pp_r, pp_k, pp_k0, pp_j, pp_j0, isl]
  case pos =>
  have nm2 : ∀ b, nmk X.1 29 62 (i + 2) b = (i + 3, some ([], [(62, i + 2, 0)])) := fun b => by unfold nmk; rw [if_pos g2]
  obtain ⟨H4, e4, m4, f4⟩ := old2.1 g2
  have hk4 := m4.1
  have lt4 := (pS_k m4).2.2.1
  have eM2 : evTs (X, s, td, tp, tt, wo, ki, ne) [(61, i + 1, 0)] = (X, sMn X (sNm X s (i + 1) (fnL X.2.2.2.2.1 (X.2.2.2.1 (i + 1)) X.2.2.2.2.2.2.2.1 0)) (i + 1) (decide (X.2.2.2.2.2.2.2.2.2.2 = 24)) 4, td, tp, tt, wo, ki, ne) := rfl
  generalize hs3 : sMn X (sNm X s (i + 1) (fnL X.2.2.2.2.1 (X.2.2.2.1 (i + 1)) X.2.2.2.2.2.2.2.1 0)) (i + 1) (decide (X.2.2.2.2.2.2.2.2.2.2 = 24)) 4 = s3 at *
  have eM4 : evTs (X, s3, td, tp, tt, wo, ki, ne) [(62, i + 2, 0)] = (X, sMn X (sNm X s3 (i + 1 + 1) (fnL X.2.2.2.2.1 (X.2.2.2.1 (i + 1 + 1)) X.2.2.2.2.2.2.2.1 0)) (i + 1 + 1) (decide ((sNm X s3 (i + 1 + 1) (fnL X.2.2.2.2.1 (X.2.2.2.1 (i + 1 + 1)) X.2.2.2.2.2.2.2.1 0)).2.2.1 (i + 1 + 1) = (sNm X s3 (i + 1 + 1) (fnL X.2.2.2.2.1 (X.2.2.2.1 (i + 1 + 1)) X.2.2.2.2.2.2.2.1 0)).2.2.1 (i + 1))) 6, td, tp, tt, wo, ki, ne) := rfl
  generalize hs4 : sNm X s3 (i + 1 + 1) (fnL X.2.2.2.2.1 (X.2.2.2.1 (i + 1 + 1)) X.2.2.2.2.2.2.2.1 0) = s4 at *
  obtain ⟨H5, e5, m5, f5⟩ := q_mean (D := D + 2) (b := decide (s4.2.2.1 (i + 1 + 1) = s4.2.2.1 (i + 1))) (n := 6) m4
  have hk5 := m5.1
  have E2 : mExec (mCall (D + 3)) 109 46 [some (.ref p)] [] H3 = mExec (mCall (D + 3)) 109 99 [some (.ref p)] [] H5 := by
    have l44 := (pS_k m4).2.2.2.1
    have v4 : mI H4 (p + 2) = s4.2.2.1 := m4.2.2.2.2.2.2.2.2.2.2.2.2.2.2.2.2.2.1
    have q1 : Int32.ofNat (i + 1 + 1 + 1) - 1 = Int32.ofNat (i + 1 + 1) := by rw [show (1 : Int32) = Int32.ofNat 1 from rfl, i_subof (by omega)]; rfl
    have q2 : Int32.ofNat (i + 1 + 1 + 1) - 2 = Int32.ofNat (i + 1) := by rw [show (2 : Int32) = Int32.ofNat 2 from rfl, i_subof (by omega)]; rfl
    have hj1 : mIn (Int32.ofNat (i + 1)) 402 = true := i_in (by rw [i_of_i (by omega)]; omega) (by rw [i_of_i (by omega)]; omega)
    have en1 : (Int32.ofNat (i + 1)).toNatClampNeg = i + 1 := i_of_n (by omega)
    have hj2 : mIn (Int32.ofNat (i + 1 + 1)) 402 = true := i_in (by rw [i_of_i (by omega)]; omega) (by rw [i_of_i (by omega)]; omega)
    have en2 : (Int32.ofNat (i + 1 + 1)).toNatClampNeg = i + 1 + 1 := i_of_n (by omega)
    by_cases c : s4.2.2.1 (i + 1 + 1) = s4.2.2.1 (i + 1)
    · rw [decide_eq_true c] at e5
      have e5' : mCall (D + 3) 104 [.ref p, .int 1, .int 6] H4 = some (.inl none, H5) := e5
      have c' := eq_true c
      rw [x_109_46]
      simp (maxDischargeDepth := 60) only [hk, x_109_0, x_109_1, x_109_1i, x_109_2, x_109_5, x_109_6, x_109_7, x_109_10, x_109_11, x_109_12, x_109_15, x_109_16, x_109_19, x_109_22, x_109_25, x_109_26, x_109_27, x_109_28, x_109_29, x_109_32, x_109_34, x_109_37, x_109_38, x_109_41, x_109_42, x_109_43, x_109_47, x_109_48, x_109_51, x_109_52, x_109_55, x_109_58, x_109_61, x_109_62, x_109_63, x_109_64, x_109_65, x_109_68, x_109_69, x_109_72, x_109_73, x_109_74, x_109_75, x_109_76, x_109_79, x_109_80, x_109_83, x_109_84, x_109_85, x_109_86, x_109_89, x_109_90, x_109_93, x_109_94, x_109_96, x_109_100, x_109_101, x_109_104, x_109_107, x_109_110, x_109_111, x_109_113, x_109_116, x_109_119, x_109_120, x_109_121, x_109_122, x_109_125, x_109_128, x_109_129, x_109_130, x_109_131, x_109_134, x_109_135, x_109_138, x_109_139, x_109_140, x_109_141, x_109_144, x_109_145, x_109_146, x_109_149, x_109_150, x_109_151, x_109_154, x_109_155, x_109_155i, x_109_156, x_109_159, x_109_160, x_109_161, x_109_164, x_109_165, hp, hk3, n13, e4, n10, hk4, l44, v4, q1, q2, hj1, hj2, en1, en2, c', e5', hk5, Option.bind_some, mAft_n, mAft_v, mAft_x, mS_n, mS_i, mS_r, mS_l, mS_d, ne_eq, not_false_eq_true, not_true_eq_false, true_or, or_true, and_true, true_and, if_true, if_false, ite_true, ite_false, reduceIte, Nat.reduceAdd, Nat.reduceLeDiff, Nat.reduceEqDiff, false_and, and_false, or_false, false_or, eq_self, reduceCtorEq, mi_316, mi_317, ml_317, mi_318, ml_318, mi_319, ml_319, mi_320, ml_320, mi_321, ml_321, mi_322, ml_322, mi_359, ml_359, mv_316_1, mv_316_4, mv_316_7, mv_316_8, mv_316_9, mv_316_10, mv_316_13, mv_316_14, mv_316_15, pi_0, pi_1, pl_1, pv_1, pi_2, pl_2, pv_2, pi_3, pl_3, pv_3, pi_4, pl_4, pv_4, pi_5, pl_5, pv_5, pi_6, pl_6, pv_10, pi_7, pl_7, pv_11, pi_8, pl_8, pv_12, pi_9, pl_9, pv_13, pi_10, pl_10, pv_14, pi_11, pl_11, pv_15, pv_20, wi_0, wi_1, wl_1, wv_14, wi_2, wl_2, wv_15, wi_3, wl_3, wv_16, wi_4, wl_4, wv_17, wi_5, wl_5, wv_18, wv_21, pt_P, pt_v, pt_w, pt_SI, pt_SL, kM_SI, kM_SL, lI_SL, lV_SL, lK_SL, lN_SL, lL_SL, lIs_SL, nI_SI, nV_SI, nK_SI, nN_SI, nL_SI, nIs_SI, pp_c, pp_l, pp_r, pp_k, pp_k0, pp_j, pp_j0, isl]
    · rw [decide_eq_false c] at e5
      have e5' : mCall (D + 3) 104 [.ref p, .int 0, .int 6] H4 = some (.inl none, H5) := e5
      rw [x_109_46]
      simp (maxDischargeDepth := 60) only [hk, x_109_0, x_109_1, x_109_1i, x_109_2, x_109_5, x_109_6, x_109_7, x_109_10, x_109_11, x_109_12, x_109_15, x_109_16, x_109_19, x_109_22, x_109_25, x_109_26, x_109_27, x_109_28, x_109_29, x_109_32, x_109_34, x_109_37, x_109_38, x_109_41, x_109_42, x_109_43, x_109_47, x_109_48, x_109_51, x_109_52, x_109_55, x_109_58, x_109_61, x_109_62, x_109_63, x_109_64, x_109_65, x_109_68, x_109_69, x_109_72, x_109_73, x_109_74, x_109_75, x_109_76, x_109_79, x_109_80, x_109_83, x_109_84, x_109_85, x_109_86, x_109_89, x_109_90, x_109_93, x_109_94, x_109_96, x_109_100, x_109_101, x_109_104, x_109_107, x_109_110, x_109_111, x_109_113, x_109_116, x_109_119, x_109_120, x_109_121, x_109_122, x_109_125, x_109_128, x_109_129, x_109_130, x_109_131, x_109_134, x_109_135, x_109_138, x_109_139, x_109_140, x_109_141, x_109_144, x_109_145, x_109_146, x_109_149, x_109_150, x_109_151, x_109_154, x_109_155, x_109_155i, x_109_156, x_109_159, x_109_160, x_109_161, x_109_164, x_109_165, hp, hk3, n13, e4, n10, hk4, l44, v4, q1, q2, hj1, hj2, en1, en2, c, e5', hk5, Option.bind_some, mAft_n, mAft_v, mAft_x, mS_n, mS_i, mS_r, mS_l, mS_d, ne_eq, not_false_eq_true, not_true_eq_false, true_or, or_true, and_true, true_and, if_true, if_false, ite_true, ite_false, reduceIte, Nat.reduceAdd, Nat.reduceLeDiff, Nat.reduceEqDiff, false_and, and_false, or_false, false_or, eq_self, reduceCtorEq, mi_316, mi_317, ml_317, mi_318, ml_318, mi_319, ml_319, mi_320, ml_320, mi_321, ml_321, mi_322, ml_322, mi_359, ml_359, mv_316_1, mv_316_4, mv_316_7, mv_316_8, mv_316_9, mv_316_10, mv_316_13, mv_316_14, mv_316_15, pi_0, pi_1, pl_1, pv_1, pi_2, pl_2, pv_2, pi_3, pl_3, pv_3, pi_4, pl_4, pv_4, pi_5, pl_5, pv_5, pi_6, pl_6, pv_10, pi_7, pl_7, pv_11, pi_8, pl_8, pv_12, pi_9, pl_9, pv_13, pi_10, pl_10, pv_14, pi_11, pl_11, pv_15, pv_20, wi_0, wi_1, wl_1, wv_14, wi_2, wl_2, wv_15, wi_3, wl_3, wv_16, wi_4, wl_4, wv_17, wi_5, wl_5, wv_18, wv_21, pt_P, pt_v, pt_w, pt_SI, pt_SL, kM_SI, kM_SL, lI_SL, lV_SL, lK_SL, lN_SL, lL_SL, lIs_SL, nI_SI, nV_SI, nK_SI, nN_SI, nL_SI, nIs_SI, pp_c, pp_l, pp_r, pp_k, pp_k0, pp_j, pp_j0, isl]
  rw [E2]
  have F5 : Fr [p, p + 2, p + 4] h H5 := Fr_trans F3 (Fr_trans f4 f5)
  generalize hs5 : sMn X s4 (i + 1 + 1) (decide (s4.2.2.1 (i + 1 + 1) = s4.2.2.1 (i + 1))) 6 = s5 at *
  have num := q_num (D := D) (lo := 1) (hi := 200) m5
  by_cases g3 : X.1 (i + 1 + 1 + 1) = 30
  case neg =>
    obtain ⟨H6, e6, e61, e62, e63, e64⟩ := num.2 g3
    have nm3 : ∀ b, nmk X.1 30 70 (i + 3) b = (i + 3, none) := fun b => by unfold nmk; rw [if_neg g3]
    have eP : pDoor X.1 i b = (i + 3, none) := by
      unfold pDoor evE
      rw [sq_sn (tk0 b) (sq_sn (nm1 _) (sq_sn (nm2 _) (sq_n (nm3 _))))]
    rw [eP]
    refine ⟨H6, ?_, e61, e62, e63, FT_mono (FT_Fr (Fr_trans F5 e64)) (by omega)⟩
    rw [x_109_99]
    simp (maxDischargeDepth := 60) only [hk, x_109_0, x_109_1, x_109_1i, x_109_2, x_109_5, x_109_6, x_109_7, x_109_10, x_109_11, x_109_12, x_109_15, x_109_16, x_109_19, x_109_22, x_109_25, x_109_26, x_109_27, x_109_28, x_109_29, x_109_32, x_109_34, x_109_37, x_109_38, x_109_41, x_109_42, x_109_43, x_109_46, x_109_47, x_109_48, x_109_51, x_109_52, x_109_55, x_109_58, x_109_61, x_109_62, x_109_63, x_109_64, x_109_65, x_109_68, x_109_69, x_109_72, x_109_73, x_109_74, x_109_75, x_109_76, x_109_79, x_109_80, x_109_83, x_109_84, x_109_85, x_109_86, x_109_89, x_109_90, x_109_93, x_109_94, x_109_96, x_109_100, x_109_101, x_109_104, x_109_107, x_109_110, x_109_111, x_109_113, x_109_116, x_109_119, x_109_120, x_109_121, x_109_122, x_109_125, x_109_128, x_109_129, x_109_130, x_109_131, x_109_134, x_109_135, x_109_138, x_109_139, x_109_140, x_109_141, x_109_144, x_109_145, x_109_146, x_109_149, x_109_150, x_109_151, x_109_154, x_109_155, x_109_155i, x_109_156, x_109_159, x_109_160, x_109_161, x_109_164, x_109_165, hp, hk5, e6, z0, Option.bind_some, mAft_n, mAft_v, mAft_x, mS_n, mS_i, mS_r, mS_l, mS_d, ne_eq, not_false_eq_true, not_true_eq_false, true_or, or_true, and_true, true_and, if_true, if_false, ite_true, ite_false, reduceIte, Nat.reduceAdd, Nat.reduceLeDiff, Nat.reduceEqDiff, false_and, and_false, or_false, false_or, eq_self, reduceCtorEq, mi_316, mi_317, ml_317, mi_318, ml_318, mi_319, ml_319, mi_320, ml_320, mi_321, ml_321, mi_322, ml_322, mi_359, ml_359, mv_316_1, mv_316_4, mv_316_7, mv_316_8, mv_316_9, mv_316_10, mv_316_13, mv_316_14, mv_316_15, pi_0, pi_1, pl_1, pv_1, pi_2, pl_2, pv_2, pi_3, pl_3, pv_3, pi_4, pl_4, pv_4, pi_5, pl_5, pv_5, pi_6, pl_6, pv_10, pi_7, pl_7, pv_11, pi_8, pl_8, pv_12, pi_9, pl_9, pv_13, pi_10, pl_10, pv_14, pi_11, pl_11, pv_15, pv_20, wi_0, wi_1, wl_1, wv_14, wi_2, wl_2, wv_15, wi_3, wl_3, wv_16, wi_4, wl_4, wv_17, wi_5, wl_5, wv_18, wv_21, pt_P, pt_v, pt_w, pt_SI, pt_SL, kM_SI, kM_SL, lI_SL, lV_SL, lK_SL, lN_SL, lL_SL, lIs_SL, nI_SI, nV_SI, nK_SI, nN_SI, nL_SI, nIs_SI, pp_c, pp_l, pp_r, pp_k, pp_k0, pp_j, pp_j0, isl]
  case pos =>
  have nm3 : ∀ b, nmk X.1 30 70 (i + 3) b = (i + 4, some ([], [(70, i + 3, 0)])) := fun b => by unfold nmk; rw [if_pos g3]
  obtain ⟨H6, e6, m6, f6⟩ := num.1 g3
  have hk6 := m6.1
  have eM6 : evTs (X, s5, td, tp, tt, wo, ki, ne) [(70, i + 3, 0)] = (X, sMn X s5 (i + 1 + 1 + 1) (!inR (s5.2.2.1 (i + 1 + 1 + 1)) 1 200) 5, td, tp, tt, wo, ki, ne) := rfl
  generalize hs6 : sMn X s5 (i + 1 + 1 + 1) (!inR (s5.2.2.1 (i + 1 + 1 + 1)) 1 200) 5 = s6 at *
  have eat := q_eat (D := D + 1) m6 37 (by decide) (show (59 : Int32) = kap 37 by decide)
  by_cases g4 : X.1 (i + 1 + 1 + 1 + 1) = 37
  case neg =>
    obtain ⟨H7, e7, e71, e72, e73, e74⟩ := eat.2 g4
    have nm4 : ∀ b, tk X.1 37 (i + 4) b = (i + 4, none) := fun b => by unfold tk; rw [if_neg g4]
    have eP : pDoor X.1 i b = (i + 4, none) := by
      unfold pDoor evE
      rw [sq_sn (tk0 b) (sq_sn (nm1 _) (sq_sn (nm2 _) (sq_sn (nm3 _) (nm4 _))))]
    rw [eP]
    refine ⟨H7, ?_, e71, e72, e73, FT_mono (FT_Fr (Fr_trans F5 (Fr_trans f6 e74))) (by omega)⟩
    rw [x_109_99]
    simp (maxDischargeDepth := 60) only [hk, x_109_0, x_109_1, x_109_1i, x_109_2, x_109_5, x_109_6, x_109_7, x_109_10, x_109_11, x_109_12, x_109_15, x_109_16, x_109_19, x_109_22, x_109_25, x_109_26, x_109_27, x_109_28, x_109_29, x_109_32, x_109_34, x_109_37, x_109_38, x_109_41, x_109_42, x_109_43, x_109_46, x_109_47, x_109_48, x_109_51, x_109_52, x_109_55, x_109_58, x_109_61, x_109_62, x_109_63, x_109_64, x_109_65, x_109_68, x_109_69, x_109_72, x_109_73, x_109_74, x_109_75, x_109_76, x_109_79, x_109_80, x_109_83, x_109_84, x_109_85, x_109_86, x_109_89, x_109_90, x_109_93, x_109_94, x_109_96, x_109_100, x_109_101, x_109_104, x_109_107, x_109_110, x_109_111, x_109_113, x_109_116, x_109_119, x_109_120, x_109_121, x_109_122, x_109_125, x_109_128, x_109_129, x_109_130, x_109_131, x_109_134, x_109_135, x_109_138, x_109_139, x_109_140, x_109_141, x_109_144, x_109_145, x_109_146, x_109_149, x_109_150, x_109_151, x_109_154, x_109_155, x_109_155i, x_109_156, x_109_159, x_109_160, x_109_161, x_109_164, x_109_165, hp, hk5, e6, hk6, n10, e7, z0, Option.bind_some, mAft_n, mAft_v, mAft_x, mS_n, mS_i, mS_r, mS_l, mS_d, ne_eq, not_false_eq_true, not_true_eq_false, true_or, or_true, and_true, true_and, if_true, if_false, ite_true, ite_false, reduceIte, Nat.reduceAdd, Nat.reduceLeDiff, Nat.reduceEqDiff, false_and, and_false, or_false, false_or, eq_self, reduceCtorEq, mi_316, mi_317, ml_317, mi_318, ml_318, mi_319, ml_319, mi_320, ml_320, mi_321, ml_321, mi_322, ml_322, mi_359, ml_359, mv_316_1, mv_316_4, mv_316_7, mv_316_8, mv_316_9, mv_316_10, mv_316_13, mv_316_14, mv_316_15, pi_0, pi_1, pl_1, pv_1, pi_2, pl_2, pv_2, pi_3, pl_3, pv_3, pi_4, pl_4, pv_4, pi_5, pl_5, pv_5, pi_6, pl_6, pv_10, pi_7, pl_7, pv_11, pi_8, pl_8, pv_12, pi_9, pl_9, pv_13, pi_10, pl_10, pv_14, pi_11, pl_11, pv_15, pv_20, wi_0, wi_1, wl_1, wv_14, wi_2, wl_2, wv_15, wi_3, wl_3, wv_16, wi_4, wl_4, wv_17, wi_5, wl_5, wv_18, wv_21, pt_P, pt_v, pt_w, pt_SI, pt_SL, kM_SI, kM_SL, lI_SL, lV_SL, lK_SL, lN_SL, lL_SL, lIs_SL, nI_SI, nV_SI, nK_SI, nN_SI, nL_SI, nIs_SI, pp_c, pp_l, pp_r, pp_k, pp_k0, pp_j, pp_j0, isl]
  case pos =>
  have nm4 : ∀ b, tk X.1 37 (i + 4) b = (i + 5, some ([], [])) := fun b => by unfold tk; rw [if_pos g4]
  obtain ⟨H7, e7, m7, f7⟩ := eat.1 g4
  have hk7 := m7.1
  have F : Fr [p, p + 2, p + 4] h H7 := Fr_trans F5 (Fr_trans f6 f7)
  have mT := tS_pS mt m7 F
  have eP : pDoor X.1 i b = (i + 5, some ([], [(61, i + 1, 0), (62, i + 2, 0), (70, i + 3, 0), (2, i + 1, 0)])) := by
    unfold pDoor evE
    rw [sq_ss (tk0 b) (sq_ss (nm1 _) (sq_ss (nm2 _) (sq_ss (nm3 _) (nm4 _))))]
    rfl
  rw [eP]
  have eE : evTs (X, s, td, tp, tt, wo, ki, ne) [(61, i + 1, 0), (62, i + 2, 0), (70, i + 3, 0), (2, i + 1, 0)] = (if s6.1 = 0 then (adD X, s6, cpF td (3 * X.2.2.2.2.2.2.2.2.2.2) 3 (fun q => s6.2.2.1 (i + 1 + q)), tp, tt, wo, ki, ne) else (X, s6, td, tp, tt, wo, ki, ne)) := by
    rw [show [(61, i + 1, 0), (62, i + 2, 0), (70, i + 3, 0), ((2, i + 1, 0) : EVt)] = [(61, i + 1, 0)] ++ ([(62, i + 2, 0)] ++ ([(70, i + 3, 0)] ++ [(2, i + 1, 0)])) from rfl, evTs_app, eM2, evTs_app, eM4, evTs_app, eM6]
    rfl
  show ∃ H, _ ∧ tS H p (i + 5) (evTs (X, s, td, tp, tt, wo, ki, ne) [(61, i + 1, 0), (62, i + 2, 0), (70, i + 3, 0), (2, i + 1, 0)]) ∧ i < i + 5 ∧ FT p (i + 5 - i) h H
  rw [eE]
  have er : mI H7 p 18 = s6.1 := m7.2.2.2.2.2.2.2.2.2.2.2.2.2.2.2.1
  have a77 : mI H7 p 7 = Int32.ofNat X.2.2.2.2.2.2.2.2.2.2 := m7.2.2.2.2.2.2.2.2.2.2.2.2.2.2.2.2.2.2.2
  have l47 := (pS_k m7).2.2.2.1
  by_cases c : s6.1 = 0
  · rw [if_pos c]
    have er' : mI H7 p 18 = 0 := er.trans c
    have nd24 : X.2.2.2.2.2.2.2.2.2.2 < 24 := by
      rw [← hs6] at c
      have c5 := (sMn_1 (by decide) c).1
      rw [← hs5] at c5
      have c4 := (sMn_1 (by decide) c5).1
      rw [← hs4] at c4
      unfold sNm at c4
      have c3 : s3.1 = 0 := (sMn_1 (by decide) c4).1
      rw [← hs3] at c3
      have := of_decide_eq_false (sMn_1 (by decide) c3).2
      omega
    have q4 : Int32.ofNat (i + 1 + 1 + 1 + 1 + 1) - 4 = Int32.ofNat (i + 1) := by rw [show (4 : Int32) = Int32.ofNat 4 from rfl, i_subof (by omega)]; rfl
    have en1 : (Int32.ofNat (i + 1)).toNatClampNeg = i + 1 := i_of_n (by omega)
    have m3n : (3 : Int32) * Int32.ofNat X.2.2.2.2.2.2.2.2.2.2 = Int32.ofNat (3 * X.2.2.2.2.2.2.2.2.2.2) := by rw [show (3 : Int32) = Int32.ofNat 3 from rfl, i_mulof]
    have en3 : (Int32.ofNat (3 * X.2.2.2.2.2.2.2.2.2.2)).toNatClampNeg = 3 * X.2.2.2.2.2.2.2.2.2.2 := i_of_n (by omega)
    have p1 : ¬ Int32.ofNat (i + 1) < 0 := by rw [Int32.lt_iff_toInt_lt, i_of_i (by omega)]; show ¬ ((_ : Nat) : Int) < 0; omega
    have p2 : ¬ Int32.ofNat (3 * X.2.2.2.2.2.2.2.2.2.2) < 0 := by rw [Int32.lt_iff_toInt_lt, i_of_i (by omega)]; show ¬ ((_ : Nat) : Int) < 0; omega
    have p3 : ¬ (3 : Int32) < 0 := by decide
    have t3' : (3 : Int32).toNatClampNeg = 3 := by decide
    have a78 : mI (mCpy H7 (p + 2) (i + 1) (p + 9) (3 * X.2.2.2.2.2.2.2.2.2.2) 3) p 7 = Int32.ofNat X.2.2.2.2.2.2.2.2.2.2 := by
      show (if p = p + 9 ∧ _ then _ else mI H7 p 7) = _
      rw [if_neg (fun w => absurd w.1 (by omega))]
      exact a77
    have r1 : i + 1 + 3 ≤ 402 := by have := (pS_k m7).2.2.1; omega
    have r2 : 3 * X.2.2.2.2.2.2.2.2.2.2 + 3 ≤ 72 := by omega
    refine ⟨mSI (mCpy H7 (p + 2) (i + 1) (p + 9) (3 * X.2.2.2.2.2.2.2.2.2.2) 3) p 7 (Int32.ofNat (X.2.2.2.2.2.2.2.2.2.2 + 1)), ?_, ⟨pS_adD m7, ?_, ?_, ?_⟩, by omega, FT_mono (FT_SI (FT_Cpy (FT_Fr F) (by omega)) (by omega)) (by omega)⟩
    · rw [x_109_99]
      simp (maxDischargeDepth := 60) only [hk, x_109_0, x_109_1, x_109_1i, x_109_2, x_109_5, x_109_6, x_109_7, x_109_10, x_109_11, x_109_12, x_109_15, x_109_16, x_109_19, x_109_22, x_109_25, x_109_26, x_109_27, x_109_28, x_109_29, x_109_32, x_109_34, x_109_37, x_109_38, x_109_41, x_109_42, x_109_43, x_109_46, x_109_47, x_109_48, x_109_51, x_109_52, x_109_55, x_109_58, x_109_61, x_109_62, x_109_63, x_109_64, x_109_65, x_109_68, x_109_69, x_109_72, x_109_73, x_109_74, x_109_75, x_109_76, x_109_79, x_109_80, x_109_83, x_109_84, x_109_85, x_109_86, x_109_89, x_109_90, x_109_93, x_109_94, x_109_96, x_109_100, x_109_101, x_109_104, x_109_107, x_109_110, x_109_111, x_109_113, x_109_116, x_109_119, x_109_120, x_109_121, x_109_122, x_109_125, x_109_128, x_109_129, x_109_130, x_109_131, x_109_134, x_109_135, x_109_138, x_109_139, x_109_140, x_109_141, x_109_144, x_109_145, x_109_146, x_109_149, x_109_150, x_109_151, x_109_154, x_109_155, x_109_155i, x_109_156, x_109_159, x_109_160, x_109_161, x_109_164, x_109_165, hp, hk5, e6, hk6, n10, e7, hk7, er', l47, q4, a77, a78, m3n, en1, en3, p1, p2, p3, t3', r1, r2, i_succ, kM_Cpy, z1, Option.bind_some, mAft_n, mAft_v, mAft_x, mS_n, mS_i, mS_r, mS_l, mS_d, ne_eq, not_false_eq_true, not_true_eq_false, true_or, or_true, and_true, true_and, if_true, if_false, ite_true, ite_false, reduceIte, Nat.reduceAdd, Nat.reduceLeDiff, Nat.reduceEqDiff, false_and, and_false, or_false, false_or, eq_self, reduceCtorEq, mi_316, mi_317, ml_317, mi_318, ml_318, mi_319, ml_319, mi_320, ml_320, mi_321, ml_321, mi_322, ml_322, mi_359, ml_359, mv_316_1, mv_316_4, mv_316_7, mv_316_8, mv_316_9, mv_316_10, mv_316_13, mv_316_14, mv_316_15, pi_0, pi_1, pl_1, pv_1, pi_2, pl_2, pv_2, pi_3, pl_3, pv_3, pi_4, pl_4, pv_4, pi_5, pl_5, pv_5, pi_6, pl_6, pv_10, pi_7, pl_7, pv_11, pi_8, pl_8, pv_12, pi_9, pl_9, pv_13, pi_10, pl_10, pv_14, pi_11, pl_11, pv_15, pv_20, wi_0, wi_1, wl_1, wv_14, wi_2, wl_2, wv_15, wi_3, wl_3, wv_16, wi_4, wl_4, wv_17, wi_5, wl_5, wv_18, wv_21, pt_P, pt_v, pt_w, pt_SI, pt_SL, kM_SI, kM_SL, lI_SL, lV_SL, lK_SL, lN_SL, lL_SL, lIs_SL, nI_SI, nV_SI, nK_SI, nN_SI, nL_SI, nIs_SI, pp_c, pp_l, pp_r, pp_k, pp_k0, pp_j, pp_j0, isl]
    · funext q
      rw [nI_SI, if_neg (by omega)]
      show (if p + 9 = p + 9 ∧ 3 * X.2.2.2.2.2.2.2.2.2.2 ≤ q ∧ q < 3 * X.2.2.2.2.2.2.2.2.2.2 + 3 then mI H7 (p + 2) (i + 1 + (q - 3 * X.2.2.2.2.2.2.2.2.2.2)) else mI H7 (p + 9) q) = cpF td (3 * X.2.2.2.2.2.2.2.2.2.2) 3 (fun q => s6.2.2.1 (i + 1 + q)) q
      have v7 : mI H7 (p + 2) = s6.2.2.1 := m7.2.2.2.2.2.2.2.2.2.2.2.2.2.2.2.2.2.1
      rw [v7, mT.2.1]
      unfold cpF
      by_cases z : 3 * X.2.2.2.2.2.2.2.2.2.2 ≤ q ∧ q < 3 * X.2.2.2.2.2.2.2.2.2.2 + 3
      · rw [if_pos ⟨rfl, z⟩, if_pos z]
      · rw [if_neg (fun w => z w.2), if_neg z]
    · funext q
      rw [nI_SI, if_neg (by omega)]
      show (if p + 10 = p + 9 ∧ _ then _ else mI H7 (p + 10) q) = _
      rw [if_neg (fun w => absurd w.1 (by omega))]
      exact congrFun mT.2.2.1 q
    · funext q
      rw [nI_SI, if_neg (by omega)]
      show (if p + 11 = p + 9 ∧ _ then _ else mI H7 (p + 11) q) = _
      rw [if_neg (fun w => absurd w.1 (by omega))]
      exact congrFun mT.2.2.2 q
  · rw [if_neg c]
    have er' : ¬ mI H7 p 18 = 0 := by rw [er]; exact c
    refine ⟨H7, ?_, mT, by omega, FT_mono (FT_Fr F) (by omega)⟩
    rw [x_109_99]
    simp (maxDischargeDepth := 60) only [hk, x_109_0, x_109_1, x_109_1i, x_109_2, x_109_5, x_109_6, x_109_7, x_109_10, x_109_11, x_109_12, x_109_15, x_109_16, x_109_19, x_109_22, x_109_25, x_109_26, x_109_27, x_109_28, x_109_29, x_109_32, x_109_34, x_109_37, x_109_38, x_109_41, x_109_42, x_109_43, x_109_46, x_109_47, x_109_48, x_109_51, x_109_52, x_109_55, x_109_58, x_109_61, x_109_62, x_109_63, x_109_64, x_109_65, x_109_68, x_109_69, x_109_72, x_109_73, x_109_74, x_109_75, x_109_76, x_109_79, x_109_80, x_109_83, x_109_84, x_109_85, x_109_86, x_109_89, x_109_90, x_109_93, x_109_94, x_109_96, x_109_100, x_109_101, x_109_104, x_109_107, x_109_110, x_109_111, x_109_113, x_109_116, x_109_119, x_109_120, x_109_121, x_109_122, x_109_125, x_109_128, x_109_129, x_109_130, x_109_131, x_109_134, x_109_135, x_109_138, x_109_139, x_109_140, x_109_141, x_109_144, x_109_145, x_109_146, x_109_149, x_109_150, x_109_151, x_109_154, x_109_155, x_109_155i, x_109_156, x_109_159, x_109_160, x_109_161, x_109_164, x_109_165, hp, hk5, e6, hk6, n10, e7, hk7, er', z1, Option.bind_some, mAft_n, mAft_v, mAft_x, mS_n, mS_i, mS_r, mS_l, mS_d, ne_eq, not_false_eq_true, not_true_eq_false, true_or, or_true, and_true, true_and, if_true, if_false, ite_true, ite_false, reduceIte, Nat.reduceAdd, Nat.reduceLeDiff, Nat.reduceEqDiff, false_and, and_false, or_false, false_or, eq_self, reduceCtorEq, mi_316, mi_317, ml_317, mi_318, ml_318, mi_319, ml_319, mi_320, ml_320, mi_321, ml_321, mi_322, ml_322, mi_359, ml_359, mv_316_1, mv_316_4, mv_316_7, mv_316_8, mv_316_9, mv_316_10, mv_316_13, mv_316_14, mv_316_15, pi_0, pi_1, pl_1, pv_1, pi_2, pl_2, pv_2, pi_3, pl_3, pv_3, pi_4, pl_4, pv_4, pi_5, pl_5, pv_5, pi_6, pl_6, pv_10, pi_7, pl_7, pv_11, pi_8, pl_8, pv_12, pi_9, pl_9, pv_13, pi_10, pl_10, pv_14, pi_11, pl_11, pv_15, pv_20, wi_0, wi_1, wl_1, wv_14, wi_2, wl_2, wv_15, wi_3, wl_3, wv_16, wi_4, wl_4, wv_17, wi_5, wl_5, wv_18, wv_21, pt_P, pt_v, pt_w, pt_SI, pt_SL, kM_SI, kM_SL, lI_SL, lV_SL, lK_SL, lN_SL, lL_SL, lIs_SL, nI_SI, nV_SI, nK_SI, nN_SI, nL_SI, nIs_SI, pp_c, pp_l, pp_r, pp_k, pp_k0, pp_j, pp_j0, isl]
