/-! THE REFERENCE'S BEST, AS A CALL -/
/-- what every visitor has -/
def vsB (vs : List (Int32 × Int32 × Int32)) : Prop := ∀ x, x ∈ vs → ¬ x.2.1 < 0
theorem vsB_l {vs : List (Int32 × Int32 × Int32)} {q : Nat} (h : vsB vs) (hq : q < vs.length) (hl : vs.length ≤ 1000) : ¬ lg (vs.map (·.2.1)) (Int32.ofNat q) < 0 := by
  rw [lg_of (by omega), List.getD_eq_getElem?_getD, List.getElem?_map, List.getElem?_eq_getElem hq]
  exact h _ (List.getElem_mem hq)
theorem m_refC {d : Nat} {v room sec x : Int32} {h : mH} {E : EV} {rn pn tn : List (List Int32)} {B : List Int32} {ep : Int32} {vs : List (Int32 × Int32 × Int32)} {hv : Bool} {S : VS} {ea : Bool} {P : List Int32} (m : mG h (E, rn, pn, tn, B, ep, vs, hv, S, ea, P)) : mCall (d + 3) 242 [.ref 316, .int v, .int room, .int sec, .int x] h = some (.inl (some (.int (rqc (fRc vs.length rn.length v room sec x)))), h) := by
  obtain ⟨hk, hp, mc, h12, ⟨v1, v2, v3⟩, vo, tp, hb, hep, pp, vt, md, pa, r1, r2, r3, r4, ww, g1⟩ := mG_p m
  have e1 := m_isVis (d := d) (x := v) (n := vs.length) hk v1
  have e2 := m_isRoom (d := d) (x := room) (n := rn.length) hk r1
  unfold fRc
  rcases ixP (p := v) (n := vs.length) (by omega) with ⟨h1, q, hq, rfl, h2⟩ | ⟨h1, h2⟩
  case inr =>
    rw [if_pos h2]
    rw [h1] at e1
    simp (maxDischargeDepth := 60) only [hk, x_242_0, x_242_1, x_242_2, x_242_5, x_242_8, x_242_9, x_242_10, x_242_13, x_242_16, x_242_17, x_242_18, x_242_19, x_242_20, x_242_22, x_242_25, x_242_28, x_242_30, x_242_31, x_242_34, x_242_37, x_242_40, x_242_41, x_242_44, x_242_45, c_242, hp, e1, bz_0, Option.bind_some, mAft_n, mAft_v, mAft_x, mS_n, mS_i, mS_r, mS_l, mS_d, ne_eq, not_false_eq_true, not_true_eq_false, true_or, or_true, and_true, true_and, if_true, if_false, ite_true, ite_false, reduceIte, Nat.reduceAdd, Nat.reduceLeDiff, Nat.reduceEqDiff, false_and, and_false, or_false, false_or, eq_self, reduceCtorEq, mi_316, mi_317, ml_317, mi_318, ml_318, mi_319, ml_319, mi_320, ml_320, mi_321, ml_321, mi_322, ml_322, mi_359, ml_359, mv_316_1, mv_316_4, mv_316_7, mv_316_8, mv_316_9, mv_316_10, mv_316_13, mv_316_14, mv_316_15, pi_0, pi_1, pl_1, pv_1, pi_2, pl_2, pv_2, pi_3, pl_3, pv_3, pi_4, pl_4, pv_4, pi_5, pl_5, pv_5, pi_6, pl_6, pv_10, pi_7, pl_7, pv_11, pi_8, pl_8, pv_12, pi_9, pl_9, pv_13, pi_10, pl_10, pv_14, pi_11, pl_11, pv_15, pv_20, wi_0, wi_1, wl_1, wv_14, wi_2, wl_2, wv_15, wi_3, wl_3, wv_16, wi_4, wl_4, wv_17, wi_5, wl_5, wv_18, wv_21, pt_P, pt_v, pt_w, pt_SI, pt_SL, kM_SI, kM_SL, lI_SL, lV_SL, lK_SL, lN_SL, lL_SL, lIs_SL, nI_SI, nV_SI, nK_SI, nN_SI, nL_SI, nIs_SI, pp_c, pp_l, pp_r, pp_k, pp_k0, pp_j, pp_j0, isl]
    rfl
  rw [if_neg h2]
  rw [h1] at e1
  rcases ixP (p := room) (n := rn.length) (by omega) with ⟨h5, q3, hq3, rfl, h6⟩ | ⟨h5, h6⟩
  case inr =>
    rw [if_pos h6]
    rw [h5] at e2
    simp (maxDischargeDepth := 60) only [hk, x_242_0, x_242_1, x_242_2, x_242_5, x_242_8, x_242_9, x_242_10, x_242_13, x_242_16, x_242_17, x_242_18, x_242_19, x_242_20, x_242_22, x_242_25, x_242_28, x_242_30, x_242_31, x_242_34, x_242_37, x_242_40, x_242_41, x_242_44, x_242_45, c_242, hp, e1, e2, bz_0, Bool.true_eq_false, Option.bind_some, mAft_n, mAft_v, mAft_x, mS_n, mS_i, mS_r, mS_l, mS_d, ne_eq, not_false_eq_true, not_true_eq_false, true_or, or_true, and_true, true_and, if_true, if_false, ite_true, ite_false, reduceIte, Nat.reduceAdd, Nat.reduceLeDiff, Nat.reduceEqDiff, false_and, and_false, or_false, false_or, eq_self, reduceCtorEq, mi_316, mi_317, ml_317, mi_318, ml_318, mi_319, ml_319, mi_320, ml_320, mi_321, ml_321, mi_322, ml_322, mi_359, ml_359, mv_316_1, mv_316_4, mv_316_7, mv_316_8, mv_316_9, mv_316_10, mv_316_13, mv_316_14, mv_316_15, pi_0, pi_1, pl_1, pv_1, pi_2, pl_2, pv_2, pi_3, pl_3, pv_3, pi_4, pl_4, pv_4, pi_5, pl_5, pv_5, pi_6, pl_6, pv_10, pi_7, pl_7, pv_11, pi_8, pl_8, pv_12, pi_9, pl_9, pv_13, pi_10, pl_10, pv_14, pi_11, pl_11, pv_15, pv_20, wi_0, wi_1, wl_1, wv_14, wi_2, wl_2, wv_15, wi_3, wl_3, wv_16, wi_4, wl_4, wv_17, wi_5, wl_5, wv_18, wv_21, pt_P, pt_v, pt_w, pt_SI, pt_SL, kM_SI, kM_SL, lI_SL, lV_SL, lK_SL, lN_SL, lL_SL, lIs_SL, nI_SI, nV_SI, nK_SI, nN_SI, nL_SI, nIs_SI, pp_c, pp_l, pp_r, pp_k, pp_k0, pp_j, pp_j0, isl]
    rfl
  rw [if_neg h6]
  rw [h5] at e2
  cases hs : inR sec 0 90000
  · rw [if_neg (by decide)]
    simp (maxDischargeDepth := 60) only [hk, x_242_0, x_242_1, x_242_2, x_242_5, x_242_8, x_242_9, x_242_10, x_242_13, x_242_16, x_242_17, x_242_18, x_242_19, x_242_20, x_242_22, x_242_25, x_242_28, x_242_30, x_242_31, x_242_34, x_242_37, x_242_40, x_242_41, x_242_44, x_242_45, c_242, hp, e1, e2, bz_0, Bool.true_eq_false, m_isIn, hs, Option.bind_some, mAft_n, mAft_v, mAft_x, mS_n, mS_i, mS_r, mS_l, mS_d, ne_eq, not_false_eq_true, not_true_eq_false, true_or, or_true, and_true, true_and, if_true, if_false, ite_true, ite_false, reduceIte, Nat.reduceAdd, Nat.reduceLeDiff, Nat.reduceEqDiff, false_and, and_false, or_false, false_or, eq_self, reduceCtorEq, mi_316, mi_317, ml_317, mi_318, ml_318, mi_319, ml_319, mi_320, ml_320, mi_321, ml_321, mi_322, ml_322, mi_359, ml_359, mv_316_1, mv_316_4, mv_316_7, mv_316_8, mv_316_9, mv_316_10, mv_316_13, mv_316_14, mv_316_15, pi_0, pi_1, pl_1, pv_1, pi_2, pl_2, pv_2, pi_3, pl_3, pv_3, pi_4, pl_4, pv_4, pi_5, pl_5, pv_5, pi_6, pl_6, pv_10, pi_7, pl_7, pv_11, pi_8, pl_8, pv_12, pi_9, pl_9, pv_13, pi_10, pl_10, pv_14, pi_11, pl_11, pv_15, pv_20, wi_0, wi_1, wl_1, wv_14, wi_2, wl_2, wv_15, wi_3, wl_3, wv_16, wi_4, wl_4, wv_17, wi_5, wl_5, wv_18, wv_21, pt_P, pt_v, pt_w, pt_SI, pt_SL, kM_SI, kM_SL, lI_SL, lV_SL, lK_SL, lN_SL, lL_SL, lIs_SL, nI_SI, nV_SI, nK_SI, nN_SI, nL_SI, nIs_SI, pp_c, pp_l, pp_r, pp_k, pp_k0, pp_j, pp_j0, isl]
    rfl
  rw [if_pos rfl]
  cases hx : inR x 1 20000
  · rw [if_neg (by decide)]
    simp (maxDischargeDepth := 60) only [hk, x_242_0, x_242_1, x_242_2, x_242_5, x_242_8, x_242_9, x_242_10, x_242_13, x_242_16, x_242_17, x_242_18, x_242_19, x_242_20, x_242_22, x_242_25, x_242_28, x_242_30, x_242_31, x_242_34, x_242_37, x_242_40, x_242_41, x_242_44, x_242_45, c_242, hp, e1, e2, bz_0, Bool.true_eq_false, m_isIn, hs, hx, Option.bind_some, mAft_n, mAft_v, mAft_x, mS_n, mS_i, mS_r, mS_l, mS_d, ne_eq, not_false_eq_true, not_true_eq_false, true_or, or_true, and_true, true_and, if_true, if_false, ite_true, ite_false, reduceIte, Nat.reduceAdd, Nat.reduceLeDiff, Nat.reduceEqDiff, false_and, and_false, or_false, false_or, eq_self, reduceCtorEq, mi_316, mi_317, ml_317, mi_318, ml_318, mi_319, ml_319, mi_320, ml_320, mi_321, ml_321, mi_322, ml_322, mi_359, ml_359, mv_316_1, mv_316_4, mv_316_7, mv_316_8, mv_316_9, mv_316_10, mv_316_13, mv_316_14, mv_316_15, pi_0, pi_1, pl_1, pv_1, pi_2, pl_2, pv_2, pi_3, pl_3, pv_3, pi_4, pl_4, pv_4, pi_5, pl_5, pv_5, pi_6, pl_6, pv_10, pi_7, pl_7, pv_11, pi_8, pl_8, pv_12, pi_9, pl_9, pv_13, pi_10, pl_10, pv_14, pi_11, pl_11, pv_15, pv_20, wi_0, wi_1, wl_1, wv_14, wi_2, wl_2, wv_15, wi_3, wl_3, wv_16, wi_4, wl_4, wv_17, wi_5, wl_5, wv_18, wv_21, pt_P, pt_v, pt_w, pt_SI, pt_SL, kM_SI, kM_SL, lI_SL, lV_SL, lK_SL, lN_SL, lL_SL, lIs_SL, nI_SI, nV_SI, nK_SI, nN_SI, nL_SI, nIs_SI, pp_c, pp_l, pp_r, pp_k, pp_k0, pp_j, pp_j0, isl]
    rfl
  · rw [if_pos rfl]
    simp (maxDischargeDepth := 60) only [hk, x_242_0, x_242_1, x_242_2, x_242_5, x_242_8, x_242_9, x_242_10, x_242_13, x_242_16, x_242_17, x_242_18, x_242_19, x_242_20, x_242_22, x_242_25, x_242_28, x_242_30, x_242_31, x_242_34, x_242_37, x_242_40, x_242_41, x_242_44, x_242_45, c_242, hp, e1, e2, bz_0, Bool.true_eq_false, m_isIn, hs, hx, Option.bind_some, mAft_n, mAft_v, mAft_x, mS_n, mS_i, mS_r, mS_l, mS_d, ne_eq, not_false_eq_true, not_true_eq_false, true_or, or_true, and_true, true_and, if_true, if_false, ite_true, ite_false, reduceIte, Nat.reduceAdd, Nat.reduceLeDiff, Nat.reduceEqDiff, false_and, and_false, or_false, false_or, eq_self, reduceCtorEq, mi_316, mi_317, ml_317, mi_318, ml_318, mi_319, ml_319, mi_320, ml_320, mi_321, ml_321, mi_322, ml_322, mi_359, ml_359, mv_316_1, mv_316_4, mv_316_7, mv_316_8, mv_316_9, mv_316_10, mv_316_13, mv_316_14, mv_316_15, pi_0, pi_1, pl_1, pv_1, pi_2, pl_2, pv_2, pi_3, pl_3, pv_3, pi_4, pl_4, pv_4, pi_5, pl_5, pv_5, pi_6, pl_6, pv_10, pi_7, pl_7, pv_11, pi_8, pl_8, pv_12, pi_9, pl_9, pv_13, pi_10, pl_10, pv_14, pi_11, pl_11, pv_15, pv_20, wi_0, wi_1, wl_1, wv_14, wi_2, wl_2, wv_15, wi_3, wl_3, wv_16, wi_4, wl_4, wv_17, wi_5, wl_5, wv_18, wv_21, pt_P, pt_v, pt_w, pt_SI, pt_SL, kM_SI, kM_SL, lI_SL, lV_SL, lK_SL, lN_SL, lL_SL, lIs_SL, nI_SI, nV_SI, nK_SI, nN_SI, nL_SI, nIs_SI, pp_c, pp_l, pp_r, pp_k, pp_k0, pp_j, pp_j0, isl]
    rfl
theorem fRc_c {nv nr : Nat} {v room sec x : Int32} (h1 : nv ≤ 100000) (h3 : nr ≤ 100000) : (∃ e, fRc nv nr v room sec x = some e ∧ ¬ rqc (some e) ≤ 0 ∧ (e = 1 ∨ e = 2)) ∨ (fRc nv nr v room sec x = none ∧ (inR sec 0 90000 = true ∧ inR x 1 20000 = true) ∧ ∃ q1 q3, q1 < nv ∧ v = Int32.ofNat q1 ∧ q3 < nr ∧ room = Int32.ofNat q3) := by
  unfold fRc
  rcases ixP (p := v) (n := nv) h1 with ⟨_, q, hq, e1, a1⟩ | ⟨_, a1⟩
  case inr => rw [if_pos a1]; exact Or.inl ⟨2, rfl, by decide, Or.inr rfl⟩
  rw [if_neg a1]
  rcases ixP (p := room) (n := nr) h3 with ⟨_, q3, hq3, e3, a3⟩ | ⟨_, a3⟩
  case inr => rw [if_pos a3]; exact Or.inl ⟨2, rfl, by decide, Or.inr rfl⟩
  rw [if_neg a3]
  by_cases c : inR sec 0 90000 = true
  · rw [if_pos c]
    by_cases c2 : inR x 1 20000 = true
    · rw [if_pos c2]; exact Or.inr ⟨rfl, ⟨c, c2⟩, q, q3, hq, e1, hq3, e3⟩
    · rw [if_neg c2]; exact Or.inl ⟨1, rfl, by decide, Or.inl rfl⟩
  · rw [if_neg c]; exact Or.inl ⟨1, rfl, by decide, Or.inl rfl⟩
theorem m_begin {d : Nat} {room sec : Int32} {h : mH} (hk : kM h) : ∃ H, mCall (d + 1) 244 [.ref 316, .int room, .int sec] h = some (.inl none, H) ∧ rowR H 0 (sec, room, 0, 0, 0) ∧ Fr [359] h H := by
  refine ⟨mSI (mSI (mSI (mSI h 359 0 room) 359 1 sec) 359 2 0) 359 3 0, ?_, ⟨?_, ?_, ?_, ?_⟩, Fr_SI (Fr_SI (Fr_SI (Fr_SI ⟨rfl, fun _ _ _ => rfl⟩ (by simp)) (by simp)) (by simp)) (by simp)⟩
  · have i0 : mIn 0 72 = true := by decide
    have i1 : mIn 1 72 = true := by decide
    have i2 : mIn 2 72 = true := by decide
    have i3 : mIn 3 72 = true := by decide
    have c0 : (0 : Int32).toNatClampNeg = 0 := by decide
    have c1 : (1 : Int32).toNatClampNeg = 1 := by decide
    have c2 : (2 : Int32).toNatClampNeg = 2 := by decide
    have c3 : (3 : Int32).toNatClampNeg = 3 := by decide
    simp (maxDischargeDepth := 60) only [hk, x_244_0, x_244_1, x_244_4, x_244_5, x_244_6, x_244_7, x_244_8, x_244_11, x_244_12, x_244_13, x_244_14, x_244_15, x_244_18, x_244_19, x_244_20, x_244_21, x_244_22, x_244_25, x_244_26, x_244_27, x_244_28, c_244, i0, i1, i2, i3, c0, c1, c2, c3, Option.bind_some, mAft_n, mAft_v, mAft_x, mS_n, mS_i, mS_r, mS_l, mS_d, ne_eq, not_false_eq_true, not_true_eq_false, true_or, or_true, and_true, true_and, if_true, if_false, ite_true, ite_false, reduceIte, Nat.reduceAdd, Nat.reduceLeDiff, Nat.reduceEqDiff, false_and, and_false, or_false, false_or, eq_self, reduceCtorEq, mi_316, mi_317, ml_317, mi_318, ml_318, mi_319, ml_319, mi_320, ml_320, mi_321, ml_321, mi_322, ml_322, mi_359, ml_359, mv_316_1, mv_316_4, mv_316_7, mv_316_8, mv_316_9, mv_316_10, mv_316_13, mv_316_14, mv_316_15, pi_0, pi_1, pl_1, pv_1, pi_2, pl_2, pv_2, pi_3, pl_3, pv_3, pi_4, pl_4, pv_4, pi_5, pl_5, pv_5, pi_6, pl_6, pv_10, pi_7, pl_7, pv_11, pi_8, pl_8, pv_12, pi_9, pl_9, pv_13, pi_10, pl_10, pv_14, pi_11, pl_11, pv_15, pv_20, wi_0, wi_1, wl_1, wv_14, wi_2, wl_2, wv_15, wi_3, wl_3, wv_16, wi_4, wl_4, wv_17, wi_5, wl_5, wv_18, wv_21, pt_P, pt_v, pt_w, pt_SI, pt_SL, kM_SI, kM_SL, lI_SL, lV_SL, lK_SL, lN_SL, lL_SL, lIs_SL, nI_SI, nV_SI, nK_SI, nN_SI, nL_SI, nIs_SI, pp_c, pp_l, pp_r, pp_k, pp_k0, pp_j, pp_j0, isl]
  all_goals simp [nI_SI]
theorem hdN_0 {n : Nat} (hn : n ≤ 32) : hdN 0 n = 0 := by
  unfold hdN
  rw [List.countP_eq_zero]
  intro p hp
  rw [List.mem_range] at hp
  rw [bt_zero (by omega)]
  decide
theorem mG_row {H : mH} {h : mH} {E : EV} {rn pn tn : List (List Int32)} {B : List Int32} {ep : Int32} {vs : List (Int32 × Int32 × Int32)} {hv : Bool} {S : VS} {ea : Bool} {P : List Int32} (m : mG h (E, rn, pn, tn, B, ep, vs, hv, S, ea, P)) (f : Fr [322, 359] h H) : mG H (E, rn, pn, tn, B, ep, vs, hv, S, ea, P) := by
  obtain ⟨hk, hp, mc, h12, vi, vo, tp, hb, hep, pp, vt, md, pa, r1, r2, r3, r4, ww, g1⟩ := mG_p m
  have I : ∀ a, a ∉ [322, 359] → mI H a = mI h a := fun a ha => by funext j; exact Fr_I f ha
  have e : ∀ j, mI H 316 j = mI h 316 j := fun j => Fr_I f (by decide)
  exact mG_W m f (by decide) (kCl mc (I 320 (by decide)) (I 321 (by decide))) h12 (kVi vi (e 6) (I 319 (by decide))) vo (kTp tp (e 2) (I 317 (by decide))) hb ((e 3).trans hep) (kPp pp (e 5) (I 318 (by decide))) (kVt vt (fun j _ => by rw [I 347 (by decide)]) (I 348 (by decide)))
theorem m_best {D : Nat} {v room sec time : Int32} {wN : Nat → Nat} {h : mH} {E : EV} {rn pn tn : List (List Int32)} {B : List Int32} {ep : Int32} {vs : List (Int32 × Int32 × Int32)} {hv : Bool} {S : VS} {ea : Bool} {P : List Int32} (m : mG h (E, rn, pn, tn, B, ep, vs, hv, S, ea, P)) (hpb : psB E.2.2.1 wN) (hvb : vsB vs) : MR h (E, rn, pn, tn, B, ep, vs, hv, S, ea, P) (mCall (D + 11) 256 [.ref 316, .int v, .int room, .int sec, .int time] h) mmI (match fRc vs.length rn.length v room sec time with | some e => .inr e | none => if 6 < E.2.2.1.length then .inr 0 else .inl (cSrch (vKK vs v (sec + time)) E 6 (sec, room, 0, 0, 0))) := by
  have m0 := m
  obtain ⟨hk, hp, mc, h12, vi, vo, tp, hb, hep, pp, vt, md, pa, r1, r2, r3, r4, ww, g1⟩ := mG_p m
  have e1 := m_refC (d := D + 7) (v := v) (room := room) (sec := sec) (x := time) m0
  rcases fRc_c (v := v) (room := room) (sec := sec) (x := time) (show vs.length ≤ 100000 by have := vi.2.1; omega) (show rn.length ≤ 100000 by omega) with ⟨e, h1, h2, _⟩ | ⟨h1, _, q1, q3, h3, rfl, h5, rfl⟩
  · rw [h1] at e1 ⊢
    refine MR_thr m0 ?_
    simp (maxDischargeDepth := 60) only [hk, x_256_0, x_256_1, x_256_2, x_256_3, x_256_4, x_256_5, x_256_7, x_256_10, x_256_13, x_256_14, x_256_17, x_256_20, x_256_21, x_256_22, x_256_23, x_256_26, x_256_29, x_256_31, x_256_34, x_256_35, x_256_36, x_256_39, x_256_40, x_256_41, x_256_42, x_256_43, x_256_46, x_256_47, x_256_48, x_256_49, x_256_50, x_256_52, x_256_53, x_256_56, c_256, e1, h2, Option.bind_some, mAft_n, mAft_v, mAft_x, mS_n, mS_i, mS_r, mS_l, mS_d, ne_eq, not_false_eq_true, not_true_eq_false, true_or, or_true, and_true, true_and, if_true, if_false, ite_true, ite_false, reduceIte, Nat.reduceAdd, Nat.reduceLeDiff, Nat.reduceEqDiff, false_and, and_false, or_false, false_or, eq_self, reduceCtorEq, mi_316, mi_317, ml_317, mi_318, ml_318, mi_319, ml_319, mi_320, ml_320, mi_321, ml_321, mi_322, ml_322, mi_359, ml_359, mv_316_1, mv_316_4, mv_316_7, mv_316_8, mv_316_9, mv_316_10, mv_316_13, mv_316_14, mv_316_15, pi_0, pi_1, pl_1, pv_1, pi_2, pl_2, pv_2, pi_3, pl_3, pv_3, pi_4, pl_4, pv_4, pi_5, pl_5, pv_5, pi_6, pl_6, pv_10, pi_7, pl_7, pv_11, pi_8, pl_8, pv_12, pi_9, pl_9, pv_13, pi_10, pl_10, pv_14, pi_11, pl_11, pv_15, pv_20, wi_0, wi_1, wl_1, wv_14, wi_2, wl_2, wv_15, wi_3, wl_3, wv_16, wi_4, wl_4, wv_17, wi_5, wl_5, wv_18, wv_21, pt_P, pt_v, pt_w, pt_SI, pt_SL, kM_SI, kM_SL, lI_SL, lV_SL, lK_SL, lN_SL, lL_SL, lIs_SL, nI_SI, nV_SI, nK_SI, nN_SI, nL_SI, nIs_SI, pp_c, pp_l, pp_r, pp_k, pp_k0, pp_j, pp_j0, isl]
    rfl
  · rw [h1] at e1 ⊢
    have e1' : mCall (D + 10) 242 [.ref 316, .int (Int32.ofNat q1), .int (Int32.ofNat q3), .int sec, .int time] h = some (.inl (some (.int 0)), h) := e1
    have z0 : (0 : Int32) ≤ 0 := by decide
    have pn := pa.1
    have l16 := pa.2.1
    have e6 : (Int32.ofNat E.2.2.1.length ≤ 6) = (E.2.2.1.length ≤ 6) := by rw [show (6 : Int32) = Int32.ofNat 6 from rfl, i_ofle (by omega) (by omega)]
    show MR h _ _ mmI (if 6 < E.2.2.1.length then .inr 0 else .inl (cSrch (vKK vs (Int32.ofNat q1) (sec + time)) E 6 (sec, Int32.ofNat q3, 0, 0, 0)))
    by_cases c6 : 6 < E.2.2.1.length
    · rw [if_pos c6]
      refine MR_thr m0 ?_
      have c6' : ¬ E.2.2.1.length ≤ 6 := by omega
      simp (maxDischargeDepth := 60) only [hk, x_256_0, x_256_1, x_256_2, x_256_3, x_256_4, x_256_5, x_256_7, x_256_10, x_256_13, x_256_14, x_256_17, x_256_20, x_256_21, x_256_22, x_256_23, x_256_26, x_256_29, x_256_31, x_256_34, x_256_35, x_256_36, x_256_39, x_256_40, x_256_41, x_256_42, x_256_43, x_256_46, x_256_47, x_256_48, x_256_49, x_256_50, x_256_52, x_256_53, x_256_56, c_256, hp, e1', z0, pn, e6, c6', m_no, SI_SI, Option.bind_some, mAft_n, mAft_v, mAft_x, mS_n, mS_i, mS_r, mS_l, mS_d, ne_eq, not_false_eq_true, not_true_eq_false, true_or, or_true, and_true, true_and, if_true, if_false, ite_true, ite_false, reduceIte, Nat.reduceAdd, Nat.reduceLeDiff, Nat.reduceEqDiff, false_and, and_false, or_false, false_or, eq_self, reduceCtorEq, mi_316, mi_317, ml_317, mi_318, ml_318, mi_319, ml_319, mi_320, ml_320, mi_321, ml_321, mi_322, ml_322, mi_359, ml_359, mv_316_1, mv_316_4, mv_316_7, mv_316_8, mv_316_9, mv_316_10, mv_316_13, mv_316_14, mv_316_15, pi_0, pi_1, pl_1, pv_1, pi_2, pl_2, pv_2, pi_3, pl_3, pv_3, pi_4, pl_4, pv_4, pi_5, pl_5, pv_5, pi_6, pl_6, pv_10, pi_7, pl_7, pv_11, pi_8, pl_8, pv_12, pi_9, pl_9, pv_13, pi_10, pl_10, pv_14, pi_11, pl_11, pv_15, pv_20, wi_0, wi_1, wl_1, wv_14, wi_2, wl_2, wv_15, wi_3, wl_3, wv_16, wi_4, wl_4, wv_17, wi_5, wl_5, wv_18, wv_21, pt_P, pt_v, pt_w, pt_SI, pt_SL, kM_SI, kM_SL, lI_SL, lV_SL, lK_SL, lN_SL, lL_SL, lIs_SL, nI_SI, nV_SI, nK_SI, nN_SI, nL_SI, nIs_SI, pp_c, pp_l, pp_r, pp_k, pp_k0, pp_j, pp_j0, isl]
      rfl
    · rw [if_neg c6]
      have c6' := eq_true (show E.2.2.1.length ≤ 6 by omega)
      have mG1 := mG_eq (EQM_thr (x := 0) EQM_r) m0
      have hk1 := mG1.2.1.1
      have hst := vsB_l hvb h3 (by have := vi.2.1; omega)
      obtain ⟨H1, b1, b2, b3⟩ := m_begin (d := D + 9) (room := Int32.ofNat q3) (sec := sec) hk1
      have w1 := wCx_Fr b3 (by simp) mG1.2.1
      have hk2 := w1.1
      obtain ⟨H2, u1, u2, u3⟩ := m_bestFrom (D := D) (lim := sec + time) h3 hpb (by omega) hst 6 0 (sec, Int32.ofNat q3, 0, 0, 0) H1 (by omega) (hdN_0 (by omega)) w1 ⟨q3, by omega, rfl⟩ hst b2
      have F : Fr [322, 359] (mSI h 316 0 0) H2 := Fr_trans (Fr_mono b3 (by simp)) u2
      have cs := cSrch_N (K := vKK vs (Int32.ofNat q1) (sec + time)) hpb hst 6 (sec, Int32.ofNat q3, 0, 0, 0) 0 (by omega) rfl (by omega) hst
      rw [cs, Nat.zero_add]
      refine ⟨H2, ?_, by rw [Fr_I F (by decide), nI_SI, if_pos ⟨rfl, rfl⟩]; rfl, mG_row mG1 F, FM_c (FMc_Fr (FMc_SI (FMc_r (h := h)) (a := 316) (k := 0) (x := 0) (by omega)) F (by decide)) (by omega)⟩
      have hk3 := kM_Fr' u2 hk2
      have u1' : mCall (D + 10) 255 [.ref 316, .int (Int32.ofNat q1), .int 0, .int (sec + time)] H1 = some (.inl (some (.int (Int32.ofNat (bFN (vKK vs (Int32.ofNat q1) (sec + time)) E wN 6 (sec, Int32.ofNat q3, 0, 0, 0))))), H2) := u1
      simp (maxDischargeDepth := 60) only [hk, x_256_0, x_256_1, x_256_2, x_256_3, x_256_4, x_256_5, x_256_7, x_256_10, x_256_13, x_256_14, x_256_17, x_256_20, x_256_21, x_256_22, x_256_23, x_256_26, x_256_29, x_256_31, x_256_34, x_256_35, x_256_36, x_256_39, x_256_40, x_256_41, x_256_42, x_256_43, x_256_46, x_256_47, x_256_48, x_256_49, x_256_50, x_256_52, x_256_53, x_256_56, c_256, hp, e1', z0, pn, e6, c6', b1, hk2, u1', hk3, Option.bind_some, mAft_n, mAft_v, mAft_x, mS_n, mS_i, mS_r, mS_l, mS_d, ne_eq, not_false_eq_true, not_true_eq_false, true_or, or_true, and_true, true_and, if_true, if_false, ite_true, ite_false, reduceIte, Nat.reduceAdd, Nat.reduceLeDiff, Nat.reduceEqDiff, false_and, and_false, or_false, false_or, eq_self, reduceCtorEq, mi_316, mi_317, ml_317, mi_318, ml_318, mi_319, ml_319, mi_320, ml_320, mi_321, ml_321, mi_322, ml_322, mi_359, ml_359, mv_316_1, mv_316_4, mv_316_7, mv_316_8, mv_316_9, mv_316_10, mv_316_13, mv_316_14, mv_316_15, pi_0, pi_1, pl_1, pv_1, pi_2, pl_2, pv_2, pi_3, pl_3, pv_3, pi_4, pl_4, pv_4, pi_5, pl_5, pv_5, pi_6, pl_6, pv_10, pi_7, pl_7, pv_11, pi_8, pl_8, pv_12, pi_9, pl_9, pv_13, pi_10, pl_10, pv_14, pi_11, pl_11, pv_15, pv_20, wi_0, wi_1, wl_1, wv_14, wi_2, wl_2, wv_15, wi_3, wl_3, wv_16, wi_4, wl_4, wv_17, wi_5, wl_5, wv_18, wv_21, pt_P, pt_v, pt_w, pt_SI, pt_SL, kM_SI, kM_SL, lI_SL, lV_SL, lK_SL, lN_SL, lL_SL, lIs_SL, nI_SI, nV_SI, nK_SI, nN_SI, nL_SI, nIs_SI, pp_c, pp_l, pp_r, pp_k, pp_k0, pp_j, pp_j0, isl]
      rfl
