/-! COMPOSING, AS A CALL -/
def vsP (vs : List (Int32 × Int32 × Int32)) : Prop := ∀ x, x ∈ vs → ∃ pc, 1 ≤ pc ∧ pc ≤ 1000 ∧ x.1 = Int32.ofNat pc
theorem cLines_len {rn pn : List (List Int32)} {ps : List PT} {n : Nat} (h : ∀ q, q < ps.length → (nmF rn.flatten (lg (ps.map (·.1)) (Int32.ofNat q)) 10 0).length ≤ 10 ∧ (nmF pn.flatten (Int32.ofNat q) 10 0).length ≤ 10) : ∀ l : List Int32, l.length ≤ n → (∀ x, x ∈ l → ∃ q, q < ps.length ∧ x = Int32.ofNat q) → (cLines rn.flatten pn.flatten ps l).length ≤ 33 * n
  | [], _, _ => by rw [cLines]; exact Nat.zero_le _
  | x :: l, hl, hx => by
    have g4 : sGo.length = 4 := rfl
    have g7 : sPl.length = 7 := rfl
    have g2 : sEn.length = 2 := rfl
    rw [List.length_cons] at hl
    have i := cLines_len (n := n - 1) h l (by omega) (fun y hy => hx y (List.mem_cons_of_mem _ hy))
    obtain ⟨q, hq, rfl⟩ := hx x (List.mem_cons_self)
    obtain ⟨a, b⟩ := h q hq
    rw [cLines, List.length_append]
    unfold cLine
    simp only [List.length_append]
    omega
theorem cTk_len {K : VK} {E : EV} {wN : Nat → Nat} : ∀ (n : Nat) (S : CS), (cTk K E n S).1.length ≤ n ∧ ∀ x, x ∈ (cTk K E n S).1 → ∃ q, q < E.2.2.1.length ∧ x = Int32.ofNat q
  | 0, S => ⟨Nat.le_refl _, fun x hx => by cases hx⟩
  | n + 1, S => by
    rw [cTk]
    by_cases c : cChoose K E S < 0
    · rw [if_pos c]; exact ⟨Nat.zero_le _, fun x hx => by cases hx⟩
    · rw [if_neg c]
      obtain ⟨a, b⟩ := cTk_len (wN := wN) n (cTake K E (cChoose K E S) S).2
      dsimp only
      refine ⟨Nat.succ_le_succ a, fun x hx => ?_⟩
      rcases List.mem_cons.mp hx with rfl | hx
      · rcases cChL_x (K := K) (E := E) (S := S) (wN := wN) E.2.2.1.length 0 (-1) (-1) (Nat.zero_add _) (Or.inl rfl) (by decide) with z | ⟨q, z1, z2, z3⟩
        · exact absurd (show cChoose K E S < 0 by rw [show cChoose K E S = -1 from z]; decide) c
        · exact ⟨q, z1, z2⟩
      · exact b x hx
theorem m_compose {D : Nat} {v room sec time : Int32} {wN : Nat → Nat} {h : mH} {E : EV} {rn pn tn : List (List Int32)} {B : List Int32} {ep : Int32} {vs : List (Int32 × Int32 × Int32)} {hv : Bool} {S : VS} {ea : Bool} {P : List Int32} (m : mG h (E, rn, pn, tn, B, ep, vs, hv, S, ea, P)) (hpb : psB E.2.2.1 wN) (hvb : vsB vs) (hvp : vsP vs) (hw1 : w10 rn) (hw2 : w10 pn) (hrl : ∀ p, p < E.2.2.1.length → ∃ q, q < rn.length ∧ lg (E.2.2.1.map (·.1)) (Int32.ofNat p) = Int32.ofNat q) : MR h (match fRc vs.length rn.length v room sec time with | some _ => (E, rn, pn, tn, B, ep, vs, hv, S, ea, P) | none => (E, rn, pn, tn, B, ep, vs, hv, S, ea, cPap E rn pn vs v room sec (sec + time))) (mCall (D + 6) 247 [.ref 316, .int v, .int room, .int sec, .int time] h) mmI (match fRc vs.length rn.length v room sec time with | some e => .inr e | none => .inl (cT E vs v room sec (sec + time)).2.2.2.2.2) := by
  have m0 := m
  obtain ⟨hk, hp, mc, h12, vi, vo, tp, hb, hep, pp, vt, md, pa, r1, r2, r3, r4, ww, g1⟩ := mG_p m
  have nm := m0.2.2.2.1
  have e1 := m_refC (d := D + 2) (v := v) (room := room) (sec := sec) (x := time) m0
  rcases fRc_c (v := v) (room := room) (sec := sec) (x := time) (show vs.length ≤ 100000 by have := vi.2.1; omega) (show rn.length ≤ 100000 by omega) with ⟨e, h1, h2, _⟩ | ⟨h1, ⟨hsec, htime⟩, q1, q3, h3, rfl, h5, rfl⟩
  · rw [h1] at e1 ⊢
    refine MR_thr m0 ?_
    simp (maxDischargeDepth := 60) only [hk, x_247_0, x_247_1, x_247_2, x_247_3, x_247_4, x_247_5, x_247_7, x_247_10, x_247_13, x_247_14, x_247_17, x_247_20, x_247_21, x_247_22, x_247_23, x_247_24, x_247_27, x_247_28, x_247_30, x_247_33, x_247_34, x_247_35, x_247_36, x_247_39, x_247_40, x_247_42, x_247_43, x_247_45, x_247_46, x_247_48, x_247_49, x_247_51, x_247_52, x_247_54, x_247_56, x_247_57, x_247_60, x_247_63, x_247_66, x_247_67, x_247_68, x_247_70, x_247_72, x_247_73, x_247_75, x_247_76, x_247_79, x_247_82, x_247_85, x_247_86, x_247_89, x_247_92, x_247_93, x_247_95, x_247_96, x_247_97, x_247_98, x_247_99, x_247_102, x_247_103, x_247_104, x_247_107, x_247_108, x_247_110, x_247_111, x_247_112, x_247_113, x_247_114, x_247_115, x_247_118, x_247_119, x_247_121, x_247_122, x_247_123, x_247_124, x_247_125, x_247_126, x_247_127, x_247_129, x_247_131, x_247_133, x_247_136, x_247_139, x_247_141, x_247_143, x_247_145, x_247_147, x_247_150, x_247_153, x_247_155, x_247_156, x_247_159, x_247_162, x_247_163, x_247_164, x_247_166, x_247_168, x_247_169, x_247_171, x_247_172, x_247_175, x_247_176, x_247_179, x_247_181, x_247_182, x_247_185, x_247_188, x_247_189, x_247_191, x_247_192, x_247_193, x_247_194, x_247_195, x_247_196, x_247_198, x_247_199, x_247_201, x_247_204, x_247_205, x_247_206, x_247_209, x_247_212, x_247_213, x_247_216, x_247_219, x_247_220, x_247_222, x_247_223, x_247_224, x_247_225, x_247_228, x_247_229, x_247_231, x_247_234, x_247_235, x_247_236, x_247_239, x_247_242, x_247_244, x_247_245, x_247_248, x_247_249, x_247_251, x_247_254, x_247_257, x_247_258, x_247_260, x_247_263, x_247_265, c_247, e1, h2, Option.bind_some, mAft_n, mAft_v, mAft_x, mS_n, mS_i, mS_r, mS_l, mS_d, ne_eq, not_false_eq_true, not_true_eq_false, true_or, or_true, and_true, true_and, if_true, if_false, ite_true, ite_false, reduceIte, Nat.reduceAdd, Nat.reduceLeDiff, Nat.reduceEqDiff, false_and, and_false, or_false, false_or, eq_self, reduceCtorEq, mi_316, mi_317, ml_317, mi_318, ml_318, mi_319, ml_319, mi_320, ml_320, mi_321, ml_321, mi_322, ml_322, mi_359, ml_359, mv_316_1, mv_316_4, mv_316_7, mv_316_8, mv_316_9, mv_316_10, mv_316_13, mv_316_14, mv_316_15, pi_0, pi_1, pl_1, pv_1, pi_2, pl_2, pv_2, pi_3, pl_3, pv_3, pi_4, pl_4, pv_4, pi_5, pl_5, pv_5, pi_6, pl_6, pv_10, pi_7, pl_7, pv_11, pi_8, pl_8, pv_12, pi_9, pl_9, pv_13, pi_10, pl_10, pv_14, pi_11, pl_11, pv_15, pv_20, wi_0, wi_1, wl_1, wv_14, wi_2, wl_2, wv_15, wi_3, wl_3, wv_16, wi_4, wl_4, wv_17, wi_5, wl_5, wv_18, wv_21, pt_P, pt_v, pt_w, pt_SI, pt_SL, kM_SI, kM_SL, lI_SL, lV_SL, lK_SL, lN_SL, lL_SL, lIs_SL, nI_SI, nV_SI, nK_SI, nN_SI, nL_SI, nIs_SI, pp_c, pp_l, pp_r, pp_k, pp_k0, pp_j, pp_j0, isl]
    rfl
  · rw [h1] at e1 ⊢
    show MR h (E, rn, pn, tn, B, ep, vs, hv, S, ea, cPap E rn pn vs (Int32.ofNat q1) (Int32.ofNat q3) sec (sec + time)) _ mmI (.inl (cT E vs (Int32.ofNat q1) (Int32.ofNat q3) sec (sec + time)).2.2.2.2.2)
    have e1' : mCall (D + 5) 242 [.ref 316, .int (Int32.ofNat q1), .int (Int32.ofNat q3), .int sec, .int time] h = some (.inl (some (.int 0)), h) := e1
    have z0 : (0 : Int32) ≤ 0 := by decide
    have l16 := pa.2.1
    have l8 := vi.2.1
    obtain ⟨sN, rfl, hsN⟩ : ∃ s : Nat, sec = Int32.ofNat s ∧ s ≤ 90000 := by
      obtain ⟨b1, b2⟩ := inR_p hsec
      have a1 : (0 : Int32).toInt = 0 := by decide
      have a2 : (90000 : Int32).toInt = 90000 := by decide
      rw [i_lt] at b1 b2
      exact ⟨sec.toInt.toNat, Int32.toInt_inj.mp (by rw [i_of_i (by omega)]; omega), by omega⟩
    obtain ⟨tN, rfl, htN⟩ : ∃ s : Nat, time = Int32.ofNat s ∧ s ≤ 20000 := by
      obtain ⟨b1, b2⟩ := inR_p htime
      have a1 : (1 : Int32).toInt = 1 := by decide
      have a2 : (20000 : Int32).toInt = 20000 := by decide
      rw [i_lt] at b1 b2
      exact ⟨time.toInt.toNat, Int32.toInt_inj.mp (by rw [i_of_i (by omega)]; omega), by omega⟩
    obtain ⟨pc, hpc1, hpc9, hpc⟩ : ∃ pc, 1 ≤ pc ∧ pc ≤ 1000 ∧ lg (vs.map (·.1)) (Int32.ofNat q1) = Int32.ofNat pc := by
      rw [lg_of (by omega), List.getD_eq_getElem?_getD, List.getElem?_map, List.getElem?_eq_getElem h3]
      exact hvp _ (List.getElem_mem h3)
    have hst := vsB_l hvb h3 (by omega)
    generalize hG0 : mSI (mSI h 316 0 0) 316 5 0 = G0
    have fG0 : Fr [316] h G0 := by rw [← hG0]; exact Fr_SI (Fr_SI ⟨rfl, fun _ _ _ => rfl⟩ (by simp)) (by simp)
    have jG0 : ∀ j, ¬ j = 0 → ¬ j = 5 → mI G0 316 j = mI h 316 j := fun j a b => by rw [← hG0, nI_SI, if_neg (by omega), nI_SI, if_neg (by omega)]
    have j00 : mI G0 316 0 = 0 := by rw [← hG0, nI_SI, if_neg (by omega), nI_SI, if_pos ⟨rfl, rfl⟩]
    have pG0 : ppR G0 [] := ⟨by rw [← hG0, nI_SI, if_pos ⟨rfl, rfl⟩]; rfl, Nat.zero_le _, fun k hk => by cases hk⟩
    have hkG := kM_Fr' fG0 hk
    have hd12 : sHd.length = 12 := rfl
    obtain ⟨H1, a1, a2, a3⟩ := m_write (d := D) hkG st_128 pG0 (by rw [hd12]; decide)
    have k1 := kM_Fr' a3.1 hkG
    obtain ⟨H2, b1, b2, b3⟩ := m_begin (d := D + 4) (room := Int32.ofNat q3) (sec := Int32.ofNat sN) k1
    have k2 := kM_Fr' b3 k1
    have F2 : Fr [316, 318, 359] h H2 := Fr_trans (Fr_trans (Fr_mono fG0 (by simp)) (Fr_mono a3.1 (by simp))) (Fr_mono b3 (by simp))
    have J2 : ∀ j, ¬ j = 0 → ¬ j = 5 → mI H2 316 j = mI h 316 j := fun j x y => (Fr_I b3 (by decide)).trans ((a3.2 j y).trans (jG0 j x y))
    have I2 : ∀ a, a ∉ [316, 318, 359] → mI H2 a = mI h a := fun a ha => by funext j; exact Fr_I F2 ha
    have P2 : ppR H2 sHd := kPp a2 (Fr_I b3 (by decide)) (by funext y; exact Fr_I b3 (by decide))
    have vi2 : mVi H2 vs := kVi vi (J2 6 (by decide) (by decide)) (I2 319 (by decide))
    have M2 : mG H2 (E, rn, pn, tn, B, ep, vs, hv, S, ea, sHd) := mG_W m0 F2 (by decide) (kCl mc (I2 320 (by decide)) (I2 321 (by decide))) h12 vi2 vo (kTp tp (J2 2 (by decide) (by decide)) (I2 317 (by decide))) hb ((J2 3 (by decide) (by decide)).trans hep) P2 (kVt vt (fun j _ => by rw [I2 347 (by decide)]) (I2 348 (by decide)))
    have w2 := M2.2.1
    have n2 := M2.2.2.2.1
    have elim : Int32.ofNat sN + Int32.ofNat tN = Int32.ofNat (sN + tN) := i_addof
    obtain ⟨H3, c1, c2, c3, c4⟩ := comp_l (d := D) (room := Int32.ofNat q3) h3 hpb elim (by omega) hpc hpc1 hpc9 hst r2 hw1 hw2 n2.2.2 hrl E.2.2.1.length 0 (Int32.ofNat sN, Int32.ofNat q3, 0, 0, 0) sHd sN H2 none none none none (Nat.zero_add _) (hdN_0 (by omega)) rfl (by omega) ⟨q3, by omega, rfl⟩ hst (by rw [hd12]; omega) w2 n2.1 n2.2.1 b2 P2
    have F : Fr [316, 318, 322, 359] h H3 := Fr_trans (Fr_mono F2 (by simp)) c3
    have J : ∀ j, ¬ j = 0 → ¬ j = 5 → mI H3 316 j = mI h 316 j := fun j x y => (c4 j y).trans (J2 j x y)
    have I : ∀ a, a ∉ [316, 318, 322, 359] → mI H3 a = mI h a := fun a ha => by funext j; exact Fr_I F ha
    have j0 : mI H3 316 0 = 0 := (c4 0 (by decide)).trans ((Fr_I b3 (by decide)).trans ((a3.2 0 (by decide)).trans j00))
    have hft : sFt.length = 2 := rfl
    have hlen : (cLines rn.flatten pn.flatten E.2.2.1 (cT E vs (Int32.ofNat q1) (Int32.ofNat q3) (Int32.ofNat sN) (Int32.ofNat sN + Int32.ofNat tN)).1).length ≤ 33 * 16 := by
      obtain ⟨x1, x2⟩ := cTk_len (wN := wN) (K := vKK vs (Int32.ofNat q1) (Int32.ofNat sN + Int32.ofNat tN)) (E := E) E.2.2.1.length (Int32.ofNat sN, Int32.ofNat q3, 0, 0, 0)
      refine cLines_len (fun q hq => ?_) _ (Nat.le_trans x1 l16) x2
      obtain ⟨rq, hr1, hr2⟩ := hrl q hq
      obtain ⟨l1, _, y2, y3, _⟩ := nm_write hw1 hr1 (by omega) (n2.1 rq hr1)
      obtain ⟨l2, _, z2, z3, _⟩ := nm_write (q := q) hw2 (by rw [n2.2.2]; exact hq) (by rw [n2.2.2]; omega) (n2.2.1 q (by rw [n2.2.2]; exact hq))
      rw [hr2, y3, z3]
      exact ⟨y2, z2⟩
    have eP : cPap E rn pn vs (Int32.ofNat q1) (Int32.ofNat q3) (Int32.ofNat sN) (Int32.ofNat sN + Int32.ofNat tN) = sHd ++ (cLines rn.flatten pn.flatten E.2.2.1 (cT E vs (Int32.ofNat q1) (Int32.ofNat q3) (Int32.ofNat sN) (Int32.ofNat sN + Int32.ofNat tN)).1 ++ sFt) := by
      unfold cPap
      rw [laN_ok _ _ (by simp only [List.length_append, List.length_nil, hd12, hft]; omega), List.nil_append, List.append_assoc]
    rw [eP]
    refine ⟨H3, ?_, j0, mG_W m0 F (by decide) (kCl mc (I 320 (by decide)) (I 321 (by decide))) h12 (kVi vi (J 6 (by decide) (by decide)) (I 319 (by decide))) vo (kTp tp (J 2 (by decide) (by decide)) (I 317 (by decide))) hb ((J 3 (by decide) (by decide)).trans hep) c2 (kVt vt (fun j _ => by rw [I 347 (by decide)]) (I 348 (by decide))), FM_c (FMc_Fr FMc_r F (by decide)) (by omega)⟩
    have c1' := c1
    rw [x_247_45] at c1'
    simp (maxDischargeDepth := 60) only [hk, x_247_0, x_247_1, x_247_2, x_247_3, x_247_4, x_247_5, x_247_7, x_247_10, x_247_13, x_247_14, x_247_17, x_247_20, x_247_21, x_247_22, x_247_23, x_247_24, x_247_27, x_247_28, x_247_30, x_247_33, x_247_34, x_247_35, x_247_36, x_247_39, x_247_40, x_247_42, x_247_43, x_247_46, x_247_48, x_247_49, x_247_51, x_247_52, x_247_54, x_247_56, x_247_57, x_247_60, x_247_63, x_247_66, x_247_67, x_247_68, x_247_70, x_247_72, x_247_73, x_247_75, x_247_76, x_247_79, x_247_82, x_247_85, x_247_86, x_247_89, x_247_92, x_247_93, x_247_95, x_247_96, x_247_97, x_247_98, x_247_99, x_247_102, x_247_103, x_247_104, x_247_107, x_247_108, x_247_110, x_247_111, x_247_112, x_247_113, x_247_114, x_247_115, x_247_118, x_247_119, x_247_121, x_247_122, x_247_123, x_247_124, x_247_125, x_247_126, x_247_127, x_247_129, x_247_131, x_247_133, x_247_136, x_247_139, x_247_141, x_247_143, x_247_145, x_247_147, x_247_150, x_247_153, x_247_155, x_247_156, x_247_159, x_247_162, x_247_163, x_247_164, x_247_166, x_247_168, x_247_169, x_247_171, x_247_172, x_247_175, x_247_176, x_247_179, x_247_181, x_247_182, x_247_185, x_247_188, x_247_189, x_247_191, x_247_192, x_247_193, x_247_194, x_247_195, x_247_196, x_247_198, x_247_199, x_247_201, x_247_204, x_247_205, x_247_206, x_247_209, x_247_212, x_247_213, x_247_216, x_247_219, x_247_220, x_247_222, x_247_223, x_247_224, x_247_225, x_247_228, x_247_229, x_247_231, x_247_234, x_247_235, x_247_236, x_247_239, x_247_242, x_247_244, x_247_245, x_247_248, x_247_249, x_247_251, x_247_254, x_247_257, x_247_258, x_247_260, x_247_263, x_247_265, c_247, hp, e1', z0, hG0, hkG, a1, k1, b1, k2, Option.bind_some, mAft_n, mAft_v, mAft_x, mS_n, mS_i, mS_r, mS_l, mS_d, ne_eq, not_false_eq_true, not_true_eq_false, true_or, or_true, and_true, true_and, if_true, if_false, ite_true, ite_false, reduceIte, Nat.reduceAdd, Nat.reduceLeDiff, Nat.reduceEqDiff, false_and, and_false, or_false, false_or, eq_self, reduceCtorEq, mi_316, mi_317, ml_317, mi_318, ml_318, mi_319, ml_319, mi_320, ml_320, mi_321, ml_321, mi_322, ml_322, mi_359, ml_359, mv_316_1, mv_316_4, mv_316_7, mv_316_8, mv_316_9, mv_316_10, mv_316_13, mv_316_14, mv_316_15, pi_0, pi_1, pl_1, pv_1, pi_2, pl_2, pv_2, pi_3, pl_3, pv_3, pi_4, pl_4, pv_4, pi_5, pl_5, pv_5, pi_6, pl_6, pv_10, pi_7, pl_7, pv_11, pi_8, pl_8, pv_12, pi_9, pl_9, pv_13, pi_10, pl_10, pv_14, pi_11, pl_11, pv_15, pv_20, wi_0, wi_1, wl_1, wv_14, wi_2, wl_2, wv_15, wi_3, wl_3, wv_16, wi_4, wl_4, wv_17, wi_5, wl_5, wv_18, wv_21, pt_P, pt_v, pt_w, pt_SI, pt_SL, kM_SI, kM_SL, lI_SL, lV_SL, lK_SL, lN_SL, lL_SL, lIs_SL, nI_SI, nV_SI, nK_SI, nN_SI, nL_SI, nIs_SI, pp_c, pp_l, pp_r, pp_k, pp_k0, pp_j, pp_j0, isl]
    refine Eq.trans ?_ c1
    rfl
