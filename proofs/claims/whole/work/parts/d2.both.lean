/-! THE LAW'S CASES: A CALL OF EACH SIDE -/
theorem OUT_F {h H : mH} (o : OUT h) (f : FC h H) : OUT H := OUT_C o (by rw [f.2.2.1]) (Nat.le_of_eq f.2.2.2.1.symm)
/-- what the wrapper leaves in the row -/
def wG (F : Int32 → Int64) : Int32 ⊕ Nat → mH → mH
  | .inl v, H => mSL H 360 0 (F v)
  | .inr _, H => H
theorem wH_G : wH = wG (fun v => v.toInt64) := by funext r H; cases r <;> rfl
theorem wB_G : wB = wG (fun v => if v = 0 then 0 else 1) := by funext r H; cases r <;> rfl
theorem FW_G {F : Int32 → Int64} {h H : mH} {r : Int32 ⊕ Nat} (f : FC h H) : FW h (wG F r H) := by
  obtain ⟨f1, f2, f3, f4, f5, f6, f7⟩ := f
  cases r with
  | inl v =>
    refine ⟨f1, fun a ha => ?_, f3, f4, f5, f6, f7⟩
    funext j
    rw [← f2]
    show (if a = 360 ∧ j = 0 then _ else mL H a j) = _
    rw [if_neg (by omega)]
  | inr e => exact ⟨f1, fun a _ => congrFun f2 a, f3, f4, f5, f6, f7⟩
theorem gR_G {F : Int32 → Int64} {h : mH} {σ : CG} {r : Int32 ⊕ Nat} (m : gR h σ) : gR (wG F r h) σ := by
  refine gR_C m ?_
  cases r with
  | inl v => exact ⟨fun a _ _ => ⟨rfl, rfl, rfl⟩, Nat.le_refl _⟩
  | inr e => exact ⟨fun a _ _ => ⟨rfl, rfl, rfl⟩, Nat.le_refl _⟩
theorem mG_kM {h : mH} {σ : MGT} (m : mG h σ) : kM h := by
  obtain ⟨E, rn, pn, tn, B, ep, vs, hv, S, ea, P⟩ := σ
  exact m.2.1.1
theorem gR_kS {h : mH} {σ : CG} (m : gR h σ) : kS h := by
  obtain ⟨t, E, rn, pn, tn, B, ep, vs, hv, K, S, ea, P⟩ := σ
  exact m.1
theorem BOTH {F : Int32 → Int64} {h H H2 : mH} {σ : CG} {r : Int32 ⊕ Nat} {mm : Nat → Int32} (hmm : ∀ e, ¬ mm e = 0) (o : OUT h) (f : FC h H) (g : gR H σ) (m2 : mI H2 316 0 = cdm mm r) (m4 : FM (wG F r H) H2) (k2 : kM H2) : gR H2 σ ∧ OUT H2 ∧ CNT h H2 ∧ (∀ D, mCall (D + 1) 22 [.ref 316] H2 = some (.inl (some (.int (cdm mm r))), H2)) ∧ (cdm mm r = 0 → mL H2 360 0 = F (vl r)) := by
  have fw : FW h (wG F r H) := FW_G f
  refine ⟨FM_g m4 (gR_G g), ?_, CNT_2 fw m4, fun D => by rw [← m2]; exact m_thrown k2, fun z => ?_⟩
  · exact OUT_C o (by rw [(m4.1 360 (Or.inr rfl)).2.2.2, fw.2.2.1]) (by have := m4.2.1; have := fw.2.2.2.1; omega)
  · cases r with
    | inl v =>
      rw [(m4.1 360 (Or.inr rfl)).2.1]
      show (if 360 = 360 ∧ 0 = 0 then F v else mL H 360 0) = _
      rw [if_pos ⟨rfl, rfl⟩]
      rfl
    | inr e => exact absurd z (hmm e)
/-- a class's call that leaves all as it is -/
theorem xU_F {h : mH} {r : Int32 ⊕ Nat} : FC h (xU h r) := by
  cases r with
  | inl v => exact FC_refl
  | inr e => exact FC_use
theorem xU_g {h : mH} {σ : CG} {r : Int32 ⊕ Nat} (m : gR h σ) : gR (xU h r) σ := by
  refine gR_C m ?_
  cases r with
  | inl v => exact ⟨fun a _ _ => ⟨rfl, rfl, rfl⟩, Nat.le_refl _⟩
  | inr e => exact ⟨fun a _ _ => ⟨rfl, rfl, rfl⟩, Nat.le_refl _⟩
/-! closings: four a room -/
def sR (cl : List CL) : Nat → Nat
  | 0 => 0
  | n + 1 => sR cl n + (clR cl n).length
theorem clR_cons {x : CL} {cl : List CL} {q : Nat} : (clR (x :: cl) q).length = (clR cl q).length + (if x.1 = Int32.ofNat q then 1 else 0) := by
  unfold clR
  rw [List.filter_cons]
  by_cases c : x.1 = Int32.ofNat q
  · rw [if_pos (decide_eq_true c), if_pos c, List.length_cons]
  · rw [if_neg (by rw [decide_eq_false c]; decide), if_neg c]; rfl
theorem sR_cons {x : CL} {cl : List CL} {q : Nat} (hx : x.1 = Int32.ofNat q) (hq : q < 12) : ∀ n, n ≤ 12 → sR (x :: cl) n = sR cl n + (if q < n then 1 else 0)
  | 0, _ => by rw [if_neg (Nat.not_lt_zero _)]; rfl
  | n + 1, hn => by
    have en : (Int32.ofNat q = Int32.ofNat n) = (q = n) := i_ofeq (by omega) (by omega)
    rw [sR, sR, sR_cons hx hq n (by omega), clR_cons, hx]
    by_cases c : q = n
    · have c1 : Int32.ofNat q = Int32.ofNat n := by rw [c]
      rw [if_neg (show ¬ q < n by omega), if_pos c1, if_pos (show q < n + 1 by omega)]; omega
    · have c1 : ¬ Int32.ofNat q = Int32.ofNat n := by rw [en]; exact c
      rw [if_neg c1]
      by_cases d : q < n
      · rw [if_pos d, if_pos (show q < n + 1 by omega)]; omega
      · rw [if_neg d, if_neg (show ¬ q < n + 1 by omega)]
        omega
theorem sR_len : ∀ {cl : List CL}, cl12 cl → sR cl 12 = cl.length
  | [], _ => by decide
  | x :: cl, h => by
    obtain ⟨q, q1, q2⟩ := h x (List.mem_cons_self ..)
    rw [sR_cons q2 q1 12 (Nat.le_refl _), if_pos q1, sR_len (fun y hy => h y (List.mem_cons_of_mem _ hy)), List.length_cons]
theorem sR_le {cl : List CL} (h : ∀ r, r < 12 → (clR cl r).length ≤ 4) : ∀ n, n ≤ 12 → sR cl n ≤ 4 * n
  | 0, _ => Nat.le_refl _
  | n + 1, hn => by
    have := sR_le h n (by omega)
    have := h n (by omega)
    rw [sR]; omega
theorem sR_lt {cl : List CL} {q : Nat} (h : ∀ r, r < 12 → (clR cl r).length ≤ 4) (hq : (clR cl q).length < 4) : ∀ n, n ≤ 12 → q < n → sR cl n < 4 * n
  | 0, _, hn => absurd hn (Nat.not_lt_zero _)
  | n + 1, hn, hqn => by
    rw [sR]
    by_cases c : q = n
    · subst c
      have := sR_le h q (by omega)
      omega
    · have := sR_lt h hq n (by omega) (by omega)
      have := h n (by omega)
      omega
theorem cl_48 {h : mH} {cl : List CL} {r : Int32} {n : Nat} (mc : mClo h cl) (h12 : cl12 cl) (hn : n ≤ 12) (hr : ¬ (r < 0 ∨ Int32.ofNat n ≤ r)) : 4 ≤ cCnt cl r ∨ cl.length < 48 := by
  obtain ⟨q, q1, q2⟩ := nOut_n (by omega) hr
  by_cases c : 4 ≤ cCnt cl r
  · exact Or.inl c
  · right
    have e : cCnt cl r = (clR cl q).length := by
      unfold cCnt clR
      rw [List.countP_eq_length_filter, q2]
    rw [← sR_len h12]
    exact sR_lt (q := q) (fun r hr => (mc r hr).1) (by omega) 12 (Nat.le_refl _) (by omega)
theorem f_close2 {d : Nat} {h : mH} {r a b : Int32} {t : Nat} {E : EV} {rn pn tn : List (List Int32)} {B : List Int32} {ep : Int32} {vs : List (Int32 × Int32 × Int32)} {hv : Bool} {K : VK} {S : VS} {ea : Bool} {P : List Int32} (m : gR h (t, E, rn, pn, tn, B, ep, vs, hv, K, S, ea, P)) {h' : mH} (mc : mClo h' E.1) (h12 : cl12 E.1) : ∃ H, mCall (d + 4) 144 [.ref 200, .int r, .int a, .int b] h = some (rv (fClo E.1 rn.length r a b), H) ∧ gR H (t, (fClS E.1 rn.length r a b, E.2), rn, pn, tn, B, ep, vs, hv, K, S, ea, P) ∧ FC h H := by
  by_cases c : r < 0 ∨ Int32.ofNat rn.length ≤ r
  · have m0 := m
    obtain ⟨hk, hE, hq, hn, hB, he, v1, v2, v3, hP, hV⟩ := m
    have e2 := f_room (d := d) (x := r) m0
    unfold fClo fClS
    rw [if_pos c] at e2
    rw [if_pos c, if_pos c]
    refine ⟨mUse h 1 6, ?_, gR_use m0, FC_use⟩
    simp (maxDischargeDepth := 60) only [hk, x_144_0, x_144_1, x_144_2, x_144_5, x_144_6, x_144_9, x_144_10, x_144_11, x_144_14, x_144_15, x_144_17, x_144_20, x_144_30, x_144_31, x_144_34, x_144_35, x_144_38, x_144_39, x_144_42, x_144_52, x_144_53, x_144_56, x_144_57, x_144_58, x_144_59, x_144_62, x_144_63, x_144_66, x_144_67, x_144_70, c_144, e2, rv_r, Option.bind_some, mAft_n, mAft_v, mAft_x, mS_n, mS_i, mS_r, mS_l, mS_d, ne_eq, not_false_eq_true, not_true_eq_false, true_or, or_true, and_true, true_and, if_true, if_false, ite_true, ite_false, reduceIte, Nat.reduceAdd, Nat.reduceLeDiff, Nat.reduceEqDiff, false_and, and_false, or_false, false_or, eq_self, reduceCtorEq, kw_201, kw_204, kw_206, kw_208, kw_210, kw_212, kw_214, kw_217, kw_219, kw_222, kw_225, kw_227, kw_229, kw_231, kw_234, kw_236, kw_238, kw_240, kw_242, kw_244, kw_246, kw_248, kw_250, kw_252, kw_254, kw_256, kw_258, kw_260, kw_262, kw_264, kw_266, kw_270, kw_274, kw_277, kw_279, kw_281, kw_285, kw_288, kw_290, kw_292, kw_294, kw_296, kw_298, kw_300, kw_302, kw_304, kw_306, kw_308, kw_310, kw_312, kw_314, kn_201, kn_204, kn_206, kn_208, kn_210, kn_212, kn_214, kn_217, kn_219, kn_222, kn_225, kn_227, kn_229, kn_231, kn_234, kn_236, kn_238, kn_240, kn_242, kn_244, kn_246, kn_248, kn_250, kn_252, kn_254, kn_256, kn_258, kn_260, kn_262, kn_264, kn_266, kn_270, kn_274, kn_277, kn_279, kn_281, kn_285, kn_288, kn_290, kn_292, kn_294, kn_296, kn_298, kn_300, kn_302, kn_304, kn_306, kn_308, kn_310, kn_312, kn_314, kf_200, kf_203, kf_216, kf_221, kf_224, kf_233, kf_268, kf_269, kf_272, kf_273, kf_276, kf_283, kf_284, kf_287, ki_200, ki_203, ki_216, ki_221, ki_224, ki_233, ki_268, ki_269, ki_272, ki_273, ki_276, ki_283, ki_284, ki_287, kv_200_0, kv_200_1, kv_200_2, kv_200_3, kv_200_4, kv_200_5, kv_200_6, kv_200_7, kv_200_8, kv_200_9, kv_200_10, kv_200_11, kv_203_0, kv_203_1, kv_203_2, kv_203_3, kv_203_4, kv_203_5, kv_216_0, kv_216_1, kv_216_2, kv_221_0, kv_221_1, kv_221_3, kv_224_0, kv_224_1, kv_224_2, kv_224_3, kv_233_0, kv_233_1, kv_233_2, kv_233_3, kv_233_4, kv_233_5, kv_233_6, kv_233_7, kv_233_8, kv_233_9, kv_233_10, kv_233_11, kv_233_12, kv_233_13, kv_268_0, kv_268_1, kv_268_2, kv_272_0, kv_272_1, kv_272_2, kv_276_0, kv_276_1, kv_276_2, kv_276_3, kv_283_0, kv_283_1, kv_283_2, kv_287_0, kv_287_1, kv_287_2, kv_287_3, kv_287_4, kv_287_5, kv_287_6, kv_287_7, kv_287_8, kv_287_9, kv_287_10, kv_287_11, kv_287_12, kv_287_13, kS_A, kS_S, kS_C, kS_SI, mI_A, mI_S, mI_C, nI_SI, mV_A, mV_S, mV_C, nV_SI, mK_A, mK_S, mK_C, nK_SI, mN_A, mN_S, mN_C, nN_SI, mL_A, mL_S, mL_C, nL_SI, tx_A, tx_S, tx_C, tx_SI, tx_v, tx_w, mIs_A, mIs_S, mIs_C, nIs_SI, kS_row, kS_r4, r_size, r_get, r_set, r_add, r_cut, rL_A, rL_S, rL_C, rL_An, rL_Sn, rL_Cn, rL_SI, rN_A, rN_S, rN_C, rN_SI]
  · exact f_close m (cl_48 mc h12 (gR_t m).2.2.2.2.2.1 c)
