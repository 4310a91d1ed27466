/-! THE REFERENCE'S TOKENS: ALL -/
def skR (h : mH) (p : Nat) (B : List Int32) (T : List TK) : Prop := mI h p 0 = Int32.ofNat T.length ∧ T.length ≤ 402 ∧ ∀ j, j < T.length → mI h (p + 1) j = kap (T.getD j (0, 0, 0, 0)).1 ∧ mI h (p + 2) j = (T.getD j (0, 0, 0, 0)).2.2.2 ∧ mI h (p + 3) j = Int32.ofNat (T.getD j (0, 0, 0, 0)).2.1 ∧ mL h (p + 5) j = wdT B (T.getD j (0, 0, 0, 0))
theorem FT_out2 {p c q k : Nat} {x : Int32} {h H : mH} (f : FT p c h H) (hq : p ≤ q ∧ q ≤ p + 11) : FT p c h (mSI H q k x) := FT_SI f hq
theorem FT_tp {p c : Nat} {h H : mH} {B : List Int32} (hp : isP p) (f : FT p c h H) (hB : tpR h B) : tpR H B := by
  obtain ⟨h1, h2, h3⟩ := hB
  have n : ∀ a, a ≤ 322 → a < 361 ∧ ¬ (p ≤ a ∧ a ≤ p + 11) := by intro a ha; rcases hp with rfl | rfl <;> omega
  have a := fun q j (hq : q ≤ 322) => (f.1 q j (n q hq).1 (n q hq).2).1
  exact ⟨by rw [a 316 2 (by omega)]; exact h1, h2, fun k hk => by rw [a 317 k (by omega)]; exact h3 k hk⟩
theorem skR_add {h : mH} {p : Nat} {B : List Int32} {T : List TK} {q : TK} {kd nu f : Int32} {w : Int64} (hk : kM h) (hp : isP p) (m : skR h p B T) (hl : T.length < 402) (e1 : kd = kap q.1) (e2 : nu = q.2.2.2) (e3 : f = Int32.ofNat q.2.1) (e4 : w = wdT B q) :
    kM (adTk h p T.length kd nu w f) ∧ skR (adTk h p T.length kd nu w f) p B (T ++ [q]) ∧ FT p 0 h (adTk h p T.length kd nu w f) ∧ ∀ k, ¬ k = 0 → mI (adTk h p T.length kd nu w f) p k = mI h p k := by
  obtain ⟨h1, h2, h3⟩ := m
  refine ⟨?_, ⟨?_, ?_, ?_⟩, ?_, ?_⟩
  · unfold adTk
    rw [kM_SI, kM_SI, kM_SL, kM_SI, kM_SI]; exact hk
  · unfold adTk
    rw [nI_SI, if_pos ⟨rfl, rfl⟩, List.length_append]; rfl
  · rw [List.length_append]; exact hl
  · intro j hj
    rw [List.length_append, List.length_cons, List.length_nil] at hj
    have I : ∀ a k, mI (adTk h p T.length kd nu w f) a k = if a = p ∧ k = 0 then Int32.ofNat (T.length + 1) else if a = p + 3 ∧ k = T.length then f else if a = p + 2 ∧ k = T.length then nu else if a = p + 1 ∧ k = T.length then kd else mI h a k := by
      intro a k
      unfold adTk
      rw [nI_SI, nI_SI, lI_SL, nI_SI, nI_SI]
    have L : ∀ k, mL (adTk h p T.length kd nu w f) (p + 5) k = if k = T.length then w else mL h (p + 5) k := by
      intro k
      show (if p + 5 = p + 5 ∧ k = T.length then w else mL h (p + 5) k) = _
      by_cases c : k = T.length <;> simp [c]
    have v1 : mI (adTk h p T.length kd nu w f) (p + 1) j = if j = T.length then kd else mI h (p + 1) j := by
      rw [I, if_neg (by omega), if_neg (by omega), if_neg (by omega)]
      by_cases c : j = T.length
      · rw [if_pos ⟨rfl, c⟩, if_pos c]
      · rw [if_neg (fun z => c z.2), if_neg c]
    have v2 : mI (adTk h p T.length kd nu w f) (p + 2) j = if j = T.length then nu else mI h (p + 2) j := by
      rw [I, if_neg (by omega), if_neg (by omega)]
      by_cases c : j = T.length
      · rw [if_pos ⟨rfl, c⟩, if_pos c]
      · rw [if_neg (fun z => c z.2), if_neg (by omega), if_neg c]
    have v3 : mI (adTk h p T.length kd nu w f) (p + 3) j = if j = T.length then f else mI h (p + 3) j := by
      rw [I, if_neg (by omega)]
      by_cases c : j = T.length
      · rw [if_pos ⟨rfl, c⟩, if_pos c]
      · rw [if_neg (fun z => c z.2), if_neg (by omega), if_neg (by omega), if_neg c]
    rw [v1, v2, v3, L]
    by_cases c : j = T.length
    · have : (T ++ [q]).getD j (0, 0, 0, 0) = q := by rw [c, List.getD_eq_getElem?_getD, List.getElem?_append_right (Nat.le_refl _), Nat.sub_self]; rfl
      rw [if_pos c, if_pos c, if_pos c, if_pos c, this]
      exact ⟨e1, e2, e3, e4⟩
    · have hj2 : j < T.length := by omega
      have : (T ++ [q]).getD j (0, 0, 0, 0) = T.getD j (0, 0, 0, 0) := by rw [List.getD_eq_getElem?_getD, List.getElem?_append_left hj2, List.getD_eq_getElem?_getD]
      rw [if_neg c, if_neg c, if_neg c, if_neg c, this]
      exact h3 j hj2
  · unfold adTk
    exact FT_SI (FT_SI (FT_SL (FT_SI (FT_SI FT_refl (by omega)) (by omega)) (by omega)) (by omega)) (by omega)
  · intro k hk0
    unfold adTk
    rw [nI_SI, if_neg (fun z => hk0 z.2), nI_SI, if_neg (by omega), lI_SL, nI_SI, if_neg (by omega), nI_SI, if_neg (by omega)]
theorem s_spl {d p : Nat} {B : List Int32} (hp : isP p) (hb : bytes B) : ∀ (n i : Nat) (T : List TK) (h : mH) (l2 l3 l4 : Option Value), B.length + 1 ≤ i + n → i ≤ B.length → T.length ≤ 400 → kM h → tpR h B → skR h p B T →
    ∃ H, mExec (mCall (d + 5)) 100 7 [some (.ref p), some (.int (Int32.ofNat i)), l2, l3, l4, none] [] h = some (.inl none, H) ∧ kM H ∧ skR H p B (T ++ spl B n i T.length) ∧ FT p 0 h H ∧ ∀ k, ¬ k = 0 → mI H p k = mI h p k := by
  intro n
  induction n with
  | zero => intro i T h l2 l3 l4 e hi; omega
  | succ n ih =>
    intro i T h l2 l3 l4 e hi hT hk hB hS
    have hl := hB.2.1
    have hj := rn_le (p := isBl) (B := B) (B.length - i) i
    have e1 := s_bl (d := d + 4) hk hp hB (B.length - i) i l2 l3 l4 none (by omega)
    rw [spl, e1]
    generalize rn isBl B (B.length - i) i = j at hj ⊢
    have e2 := s_byte (d := d + 4) (k := j) hk hp hB (by omega)
    have hn := hS.1
    have ad := fun (kd nu f : Int32) (w : Int64) => s_add (d := d + 4) (kd := kd) (nu := nu) (w := w) (f := f) hk hp hn (show T.length < 402 by omega)
    have b1 : (-1 : Int32) = -1 := rfl
    by_cases c2 : B.length ≤ j
    · rw [if_pos c2]
      have ej : j = B.length := by omega
      obtain ⟨a1, a2, a3, a5⟩ := skR_add (q := (48, B.length, 0, 0)) (kd := 202) (nu := 0) (f := Int32.ofNat j) (w := 0) hk hp hS (by omega) rfl rfl (by rw [ej]) rfl
      rw [bA_ge c2] at e2
      refine ⟨_, ?_, a1, a2, a3, a5⟩
      rw [x_100_33]
      simp (maxDischargeDepth := 60) only [hk, x_100_0, x_100_1, x_100_2, x_100_5, x_100_6, x_100_8, x_100_9, x_100_12, x_100_14, x_100_17, x_100_18, x_100_19, x_100_22, x_100_24, x_100_27, x_100_30, x_100_34, x_100_35, x_100_36, x_100_37, x_100_40, x_100_41, x_100_42, x_100_43, x_100_46, x_100_47, x_100_50, x_100_53, x_100_56, x_100_57, x_100_58, x_100_59, x_100_62, x_100_65, x_100_68, x_100_71, x_100_72, x_100_73, x_100_74, x_100_77, x_100_78, x_100_79, x_100_82, x_100_85, x_100_86, x_100_88, x_100_89, x_100_90, x_100_93, x_100_96, x_100_99, x_100_100, x_100_101, x_100_104, x_100_107, x_100_110, x_100_111, x_100_112, x_100_113, x_100_115, x_100_118, x_100_121, x_100_123, x_100_124, x_100_125, x_100_126, x_100_129, x_100_132, x_100_133, x_100_134, x_100_137, x_100_138, x_100_140, x_100_143, x_100_146, x_100_147, x_100_148, x_100_149, x_100_151, x_100_154, x_100_155, x_100_156, x_100_159, x_100_160, x_100_162, x_100_165, x_100_166, x_100_168, x_100_169, x_100_172, x_100_175, x_100_176, x_100_179, x_100_182, x_100_183, x_100_185, x_100_186, x_100_187, x_100_190, x_100_193, x_100_196, x_100_197, x_100_198, x_100_199, x_100_201, x_100_204, x_100_206, x_100_208, x_100_209, x_100_210, x_100_211, x_100_214, x_100_215, x_100_217, x_100_218, x_100_221, x_100_222, x_100_224, x_100_227, x_100_230, x_100_231, x_100_232, x_100_233, x_100_235, x_100_238, x_100_239, x_100_240, x_100_243, x_100_244, x_100_247, x_100_249, x_100_250, x_100_251, x_100_254, x_100_257, x_100_258, x_100_260, x_100_263, x_100_264, x_100_266, x_100_269, x_100_270, x_100_271, x_100_272, x_100_273, x_100_276, x_100_278, x_100_281, x_100_282, x_100_283, x_100_285, x_100_288, x_100_291, x_100_294, x_100_297, x_100_298, x_100_299, x_100_300, x_100_303, x_100_306, x_100_309, x_100_311, x_100_312, x_100_315, x_100_318, x_100_319, x_100_320, x_100_321, x_100_322, x_100_323, x_100_326, x_100_329, x_100_332, x_100_333, x_100_334, x_100_335, x_100_336, x_100_339, x_100_340, x_100_343, x_100_344, x_100_345, x_100_346, x_100_349, x_100_350, hp, e2, b1, ad, Option.bind_some, mAft_n, mAft_v, mAft_x, mS_n, mS_i, mS_r, mS_l, mS_d, ne_eq, not_false_eq_true, not_true_eq_false, true_or, or_true, and_true, true_and, if_true, if_false, ite_true, ite_false, reduceIte, Nat.reduceAdd, Nat.reduceLeDiff, Nat.reduceEqDiff, false_and, and_false, or_false, false_or, eq_self, reduceCtorEq, mi_316, mi_317, ml_317, mi_318, ml_318, mi_319, ml_319, mi_320, ml_320, mi_321, ml_321, mi_322, ml_322, mi_359, ml_359, mv_316_1, mv_316_4, mv_316_7, mv_316_8, mv_316_9, mv_316_10, mv_316_13, mv_316_14, mv_316_15, pi_0, pi_1, pl_1, pv_1, pi_2, pl_2, pv_2, pi_3, pl_3, pv_3, pi_4, pl_4, pv_4, pi_5, pl_5, pv_5, pi_6, pl_6, pv_10, pi_7, pl_7, pv_11, pi_8, pl_8, pv_12, pi_9, pl_9, pv_13, pi_10, pl_10, pv_14, pi_11, pl_11, pv_15, pv_20, wi_0, wi_1, wl_1, wv_14, wi_2, wl_2, wv_15, wi_3, wl_3, wv_16, wi_4, wl_4, wv_17, wi_5, wl_5, wv_18, wv_21, pt_P, pt_v, pt_w, pt_SI, pt_SL, kM_SI, kM_SL, lI_SL, lV_SL, lK_SL, lN_SL, lL_SL, lIs_SL, nI_SI, nV_SI, nK_SI, nN_SI, nL_SI, nIs_SI, pp_c, pp_l, pp_r, pp_k, pp_k0, pp_j, pp_j0, isl]
    · rw [if_neg c2]
      have hj2 : j < B.length := by omega
      have he := tkEnd_le (B := B) (i := j) hj2
      dsimp only
      by_cases c4 : T.length < 400
      · rw [if_pos c4]
        obtain ⟨l4', o⟩ := s_one (d := d) (j := j) (n := T.length) (l2 := l2) (l3 := l3) (l4 := l4) hk hp hB hb hj2 hn c4 (kdA B j (tkEnd B j - j)) rfl
        rw [o]
        generalize kdA B j (tkEnd B j - j) = kd
        by_cases c5 : kd = 49
        · rw [if_pos c5, if_pos c5]
          have e30 : tkN B kd j (tkEnd B j - j) = 0 := by unfold tkN; rw [if_neg (by omega)]
          obtain ⟨a1, a2, a3, a5⟩ := skR_add (q := (kd, j, tkEnd B j - j, tkN B kd j (tkEnd B j - j))) (kd := 203) (nu := 0) (f := Int32.ofNat j) (w := 0) hk hp hS (by omega) (by rw [c5]; rfl) e30.symm rfl (by unfold wdT; rw [if_neg (by show ¬ kd ≤ 29; omega)])
          exact ⟨_, rfl, a1, a2, a3, a5⟩
        · rw [if_neg c5, if_neg c5]
          obtain ⟨a1, a2, a3, a5⟩ := skR_add (q := (kd, j, tkEnd B j - j, tkN B kd j (tkEnd B j - j))) (kd := kap kd) (nu := tkN B kd j (tkEnd B j - j)) (f := Int32.ofNat j) (w := wdT B (kd, j, tkEnd B j - j, 0)) hk hp hS (by omega) rfl rfl rfl rfl
          obtain ⟨H, b1, b2, b3, b4, b5⟩ := ih (tkEnd B j) (T ++ [(kd, j, tkEnd B j - j, tkN B kd j (tkEnd B j - j))]) _ (some (.int (Int32.ofNat j))) (some (.int (B.getD j 0))) l4' (by omega) (by omega) (by rw [List.length_append, List.length_cons, List.length_nil]; omega) a1 (FT_tp hp a3 hB) a2
          refine ⟨H, b1, b2, ?_, FT_mono (FT_trans a3 b4) (by omega), fun k hk => (b5 k hk).trans (a5 k hk)⟩
          rw [List.length_append, List.append_assoc] at b3
          exact b3
      · rw [if_neg c4]
        have e400 : T.length = 400 := by omega
        have nb : ¬ B.getD j 0 = -1 := by
          have := bA_1 (B := B) (k := j) hb
          rw [bA_lt hj2] at this
          rw [this]; omega
        obtain ⟨a1, a2, a3, a5⟩ := skR_add (q := (49, j, tkEnd B j - j, tkN B 49 j (tkEnd B j - j))) (kd := 203) (nu := 0) (f := Int32.ofNat j) (w := 0) hk hp hS (by omega) rfl rfl rfl rfl
        rw [bA_lt hj2] at e2
        have n4 := eq_true (show Int32.ofNat T.length = 400 by rw [e400]; rfl)
        rw [if_pos rfl]
        refine ⟨_, ?_, a1, a2, a3, a5⟩
        rw [x_100_33]
        simp (maxDischargeDepth := 60) only [hk, x_100_0, x_100_1, x_100_2, x_100_5, x_100_6, x_100_8, x_100_9, x_100_12, x_100_14, x_100_17, x_100_18, x_100_19, x_100_22, x_100_24, x_100_27, x_100_30, x_100_34, x_100_35, x_100_36, x_100_37, x_100_40, x_100_41, x_100_42, x_100_43, x_100_46, x_100_47, x_100_50, x_100_53, x_100_56, x_100_57, x_100_58, x_100_59, x_100_62, x_100_65, x_100_68, x_100_71, x_100_72, x_100_73, x_100_74, x_100_77, x_100_78, x_100_79, x_100_82, x_100_85, x_100_86, x_100_88, x_100_89, x_100_90, x_100_93, x_100_96, x_100_99, x_100_100, x_100_101, x_100_104, x_100_107, x_100_110, x_100_111, x_100_112, x_100_113, x_100_115, x_100_118, x_100_121, x_100_123, x_100_124, x_100_125, x_100_126, x_100_129, x_100_132, x_100_133, x_100_134, x_100_137, x_100_138, x_100_140, x_100_143, x_100_146, x_100_147, x_100_148, x_100_149, x_100_151, x_100_154, x_100_155, x_100_156, x_100_159, x_100_160, x_100_162, x_100_165, x_100_166, x_100_168, x_100_169, x_100_172, x_100_175, x_100_176, x_100_179, x_100_182, x_100_183, x_100_185, x_100_186, x_100_187, x_100_190, x_100_193, x_100_196, x_100_197, x_100_198, x_100_199, x_100_201, x_100_204, x_100_206, x_100_208, x_100_209, x_100_210, x_100_211, x_100_214, x_100_215, x_100_217, x_100_218, x_100_221, x_100_222, x_100_224, x_100_227, x_100_230, x_100_231, x_100_232, x_100_233, x_100_235, x_100_238, x_100_239, x_100_240, x_100_243, x_100_244, x_100_247, x_100_249, x_100_250, x_100_251, x_100_254, x_100_257, x_100_258, x_100_260, x_100_263, x_100_264, x_100_266, x_100_269, x_100_270, x_100_271, x_100_272, x_100_273, x_100_276, x_100_278, x_100_281, x_100_282, x_100_283, x_100_285, x_100_288, x_100_291, x_100_294, x_100_297, x_100_298, x_100_299, x_100_300, x_100_303, x_100_306, x_100_309, x_100_311, x_100_312, x_100_315, x_100_318, x_100_319, x_100_320, x_100_321, x_100_322, x_100_323, x_100_326, x_100_329, x_100_332, x_100_333, x_100_334, x_100_335, x_100_336, x_100_339, x_100_340, x_100_343, x_100_344, x_100_345, x_100_346, x_100_349, x_100_350, hp, e2, nb, hn, n4, ad, Option.bind_some, mAft_n, mAft_v, mAft_x, mS_n, mS_i, mS_r, mS_l, mS_d, ne_eq, not_false_eq_true, not_true_eq_false, true_or, or_true, and_true, true_and, if_true, if_false, ite_true, ite_false, reduceIte, Nat.reduceAdd, Nat.reduceLeDiff, Nat.reduceEqDiff, false_and, and_false, or_false, false_or, eq_self, reduceCtorEq, mi_316, mi_317, ml_317, mi_318, ml_318, mi_319, ml_319, mi_320, ml_320, mi_321, ml_321, mi_322, ml_322, mi_359, ml_359, mv_316_1, mv_316_4, mv_316_7, mv_316_8, mv_316_9, mv_316_10, mv_316_13, mv_316_14, mv_316_15, pi_0, pi_1, pl_1, pv_1, pi_2, pl_2, pv_2, pi_3, pl_3, pv_3, pi_4, pl_4, pv_4, pi_5, pl_5, pv_5, pi_6, pl_6, pv_10, pi_7, pl_7, pv_11, pi_8, pl_8, pv_12, pi_9, pl_9, pv_13, pi_10, pl_10, pv_14, pi_11, pl_11, pv_15, pv_20, wi_0, wi_1, wl_1, wv_14, wi_2, wl_2, wv_15, wi_3, wl_3, wv_16, wi_4, wl_4, wv_17, wi_5, wl_5, wv_18, wv_21, pt_P, pt_v, pt_w, pt_SI, pt_SL, kM_SI, kM_SL, lI_SL, lV_SL, lK_SL, lN_SL, lL_SL, lIs_SL, nI_SI, nV_SI, nK_SI, nN_SI, nL_SI, nIs_SI, pp_c, pp_l, pp_r, pp_k, pp_k0, pp_j, pp_j0, isl]
theorem s_split {d p : Nat} {B : List Int32} {h : mH} (hk : kM h) (hp : isP p) (hB : tpR h B) (hb : bytes B) : ∃ H, mCall (d + 6) 100 [.ref p] h = some (.inl none, H) ∧ kM H ∧ skR H p B (tT B) ∧ FT p 0 h H ∧ ∀ k, ¬ k = 0 → mI H p k = mI h p k := by
  have hk1 : kM (mSI h p 0 0) := by rw [kM_SI]; exact hk
  have f1 : FT p 0 h (mSI h p 0 0) := FT_SI FT_refl (by omega)
  have s0 : skR (mSI h p 0 0) p B [] := ⟨by rw [nI_SI, if_pos ⟨rfl, rfl⟩]; rfl, by simp, fun j hj => by cases hj⟩
  obtain ⟨H, a1, a2, a3, a4, a5⟩ := s_spl (d := d) hp hb (B.length + 1) 0 [] (mSI h p 0 0) none none none (by omega) (by omega) (by simp) hk1 (FT_tp hp f1 hB) s0
  refine ⟨H, ?_, a2, a3, FT_mono (FT_trans f1 a4) (by omega), fun k hk => (a5 k hk).trans (by rw [nI_SI, if_neg (fun z => hk z.2)])⟩
  have a1' : mExec (mCall (d + 5)) 100 7 [some (.ref p), some (.int 0), none, none, none, none] [] (mSI h p 0 0) = some (.inl none, H) := a1
  rw [← a1']
  simp (maxDischargeDepth := 60) only [hk, x_100_0, x_100_1, x_100_2, x_100_5, x_100_6, x_100_8, x_100_9, x_100_12, x_100_14, x_100_17, x_100_18, x_100_19, x_100_22, x_100_24, x_100_27, x_100_30, x_100_33, x_100_34, x_100_35, x_100_36, x_100_37, x_100_40, x_100_41, x_100_42, x_100_43, x_100_46, x_100_47, x_100_50, x_100_53, x_100_56, x_100_57, x_100_58, x_100_59, x_100_62, x_100_65, x_100_68, x_100_71, x_100_72, x_100_73, x_100_74, x_100_77, x_100_78, x_100_79, x_100_82, x_100_85, x_100_86, x_100_88, x_100_89, x_100_90, x_100_93, x_100_96, x_100_99, x_100_100, x_100_101, x_100_104, x_100_107, x_100_110, x_100_111, x_100_112, x_100_113, x_100_115, x_100_118, x_100_121, x_100_123, x_100_124, x_100_125, x_100_126, x_100_129, x_100_132, x_100_133, x_100_134, x_100_137, x_100_138, x_100_140, x_100_143, x_100_146, x_100_147, x_100_148, x_100_149, x_100_151, x_100_154, x_100_155, x_100_156, x_100_159, x_100_160, x_100_162, x_100_165, x_100_166, x_100_168, x_100_169, x_100_172, x_100_175, x_100_176, x_100_179, x_100_182, x_100_183, x_100_185, x_100_186, x_100_187, x_100_190, x_100_193, x_100_196, x_100_197, x_100_198, x_100_199, x_100_201, x_100_204, x_100_206, x_100_208, x_100_209, x_100_210, x_100_211, x_100_214, x_100_215, x_100_217, x_100_218, x_100_221, x_100_222, x_100_224, x_100_227, x_100_230, x_100_231, x_100_232, x_100_233, x_100_235, x_100_238, x_100_239, x_100_240, x_100_243, x_100_244, x_100_247, x_100_249, x_100_250, x_100_251, x_100_254, x_100_257, x_100_258, x_100_260, x_100_263, x_100_264, x_100_266, x_100_269, x_100_270, x_100_271, x_100_272, x_100_273, x_100_276, x_100_278, x_100_281, x_100_282, x_100_283, x_100_285, x_100_288, x_100_291, x_100_294, x_100_297, x_100_298, x_100_299, x_100_300, x_100_303, x_100_306, x_100_309, x_100_311, x_100_312, x_100_315, x_100_318, x_100_319, x_100_320, x_100_321, x_100_322, x_100_323, x_100_326, x_100_329, x_100_332, x_100_333, x_100_334, x_100_335, x_100_336, x_100_339, x_100_340, x_100_343, x_100_344, x_100_345, x_100_346, x_100_349, x_100_350, c_100, hp, Option.bind_some, mAft_n, mAft_v, mAft_x, mS_n, mS_i, mS_r, mS_l, mS_d, ne_eq, not_false_eq_true, not_true_eq_false, true_or, or_true, and_true, true_and, if_true, if_false, ite_true, ite_false, reduceIte, Nat.reduceAdd, Nat.reduceLeDiff, Nat.reduceEqDiff, false_and, and_false, or_false, false_or, eq_self, reduceCtorEq, mi_316, mi_317, ml_317, mi_318, ml_318, mi_319, ml_319, mi_320, ml_320, mi_321, ml_321, mi_322, ml_322, mi_359, ml_359, mv_316_1, mv_316_4, mv_316_7, mv_316_8, mv_316_9, mv_316_10, mv_316_13, mv_316_14, mv_316_15, pi_0, pi_1, pl_1, pv_1, pi_2, pl_2, pv_2, pi_3, pl_3, pv_3, pi_4, pl_4, pv_4, pi_5, pl_5, pv_5, pi_6, pl_6, pv_10, pi_7, pl_7, pv_11, pi_8, pl_8, pv_12, pi_9, pl_9, pv_13, pi_10, pl_10, pv_14, pi_11, pl_11, pv_15, pv_20, wi_0, wi_1, wl_1, wv_14, wi_2, wl_2, wv_15, wi_3, wl_3, wv_16, wi_4, wl_4, wv_17, wi_5, wl_5, wv_18, wv_21, pt_P, pt_v, pt_w, pt_SI, pt_SL, kM_SI, kM_SL, lI_SL, lV_SL, lK_SL, lN_SL, lL_SL, lIs_SL, nI_SI, nV_SI, nK_SI, nN_SI, nL_SI, nIs_SI, pp_c, pp_l, pp_r, pp_k, pp_k0, pp_j, pp_j0, isl]
