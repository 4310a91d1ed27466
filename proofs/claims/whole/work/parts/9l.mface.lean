/-! THE REFERENCE'S STATE: CHANGES -/
def ppR (h : mH) (P : List Int32) : Prop := mI h 316 5 = Int32.ofNat P.length ∧ P.length ≤ 1000 ∧ ∀ k, k < P.length → mI h 318 k = P.getD k 0
def vtR (h : mH) (hv : Bool) (S : VS) (ea : Bool) : Prop := mI h 347 0 = bz hv ∧ (if hv = true then (∃ who lim, wS h 347 who lim S) ∧ mI h 347 11 = bz ea ∧ S.2.2.2.2.2.2.2.2.2.length ≤ 1800 else mI h 347 13 = 0 ∧ mI h 347 6 = 0)
theorem kVi {h H : mH} {vs : List (Int32 × Int32 × Int32)} (m : mVi h vs) (e : mI H 316 6 = mI h 316 6) (e2 : mI H 319 = mI h 319) : mVi H vs := by
  obtain ⟨a, b, c⟩ := m
  exact ⟨e.trans a, b, fun k hk => by rw [e2]; exact c k hk⟩
theorem kTp {h H : mH} {B : List Int32} (m : tpR h B) (e : mI H 316 2 = mI h 316 2) (e2 : mI H 317 = mI h 317) : tpR H B := by
  obtain ⟨a, b, c⟩ := m
  exact ⟨e.trans a, b, fun k hk => by rw [e2]; exact c k hk⟩
theorem kPp {h H : mH} {P : List Int32} (m : ppR h P) (e : mI H 316 5 = mI h 316 5) (e2 : mI H 318 = mI h 318) : ppR H P := by
  obtain ⟨a, b, c⟩ := m
  exact ⟨e.trans a, b, fun k hk => by rw [e2]; exact c k hk⟩
theorem kCl {h H : mH} {cl : List CL} (m : mClo h cl) (e : mI H 320 = mI h 320) (e2 : mI H 321 = mI h 321) : mClo H cl := by
  intro r hr
  obtain ⟨a, b, c⟩ := m r hr
  exact ⟨a, by rw [e]; exact b, fun k hk => by rw [e2]; exact c k hk⟩
theorem kVt {h H : mH} {hv : Bool} {S : VS} {ea : Bool} (m : vtR h hv S ea) (e : ∀ j, j ≤ 13 → mI H 347 j = mI h 347 j) (e2 : mI H 348 = mI h 348) : vtR H hv S ea := by
  obtain ⟨a, b⟩ := m
  refine ⟨(e 0 (by omega)).trans a, ?_⟩
  by_cases c : hv = true
  · rw [if_pos c] at b ⊢
    obtain ⟨⟨who, lim, w1⟩, w2, w3⟩ := b
    exact ⟨⟨who, lim, wS_KG e e2 w1⟩, (e 11 (by omega)).trans w2, w3⟩
  · rw [if_neg c] at b ⊢
    exact ⟨(e 13 (by omega)).trans b.1, (e 6 (by omega)).trans b.2⟩
theorem mG_W {W : List Nat} {H : mH} {cl' : List CL} {vs' : List (Int32 × Int32 × Int32)} {B' : List Int32} {ep' : Int32} {hv' : Bool} {S' : VS} {ea' : Bool} {P' : List Int32} {h : mH} {E : EV} {rn pn tn : List (List Int32)} {B : List Int32} {ep : Int32} {vs : List (Int32 × Int32 × Int32)} {hv : Bool} {S : VS} {ea : Bool} {P : List Int32} (m : mG h (E, rn, pn, tn, B, ep, vs, hv, S, ea, P)) (f : Fr W h H) (hW : ∀ a, a ∈ W → a ≤ 322 ∨ 347 ≤ a) (c : mClo H cl') (c12 : cl12 cl') (v : mVi H vs') (vo : vsOK vs') (t : tpR H B') (tb : bytes B') (e : mI H 316 3 = ep') (p : ppR H P') (vt : vtR H hv' S' ea') :
    mG H ((cl', E.2), rn, pn, tn, B', ep', vs', hv', S', ea', P') := by
  obtain ⟨g1, ⟨hk, d, mc, h12, pa, vi, vo0⟩, ⟨r1, r2, r3, r4⟩, ⟨n1, n2, n3⟩, ⟨⟨t1, t2, t3⟩, hb⟩, hep, ⟨q1, q2, q3⟩, ⟨k, n, V, L, T, ⟨a1, a2, a3, a4⟩, b1, c1⟩, v1, v2⟩ := m
  have hkH := kM_Fr' f hk
  have ept := pt_Fr f
  have hp := pt_P hk
  have nW : ∀ i, i ≤ 11 → pt h + i ∉ W := fun i hi z => by have := hW _ z; rcases hp with e | e <;> rw [e] at this <;> omega
  have Ip : ∀ i j, i ≤ 11 → mI H (pt h + i) j = mI h (pt h + i) j := fun i j hi => Fr_I f (nW i hi)
  have Ip0 : ∀ j, mI H (pt h) j = mI h (pt h) j := fun j => Fr_I f (nW 0 (by omega))
  have eL : mL H = mL h := congrArg (fun q => q.1) f.1
  refine ⟨by rw [Fr_N f]; exact g1, ⟨hkH, ?_, c, c12, ?_, v, vo⟩, ?_, ?_, ⟨t, tb⟩, e, p, ⟨k, n, V, L, T, ⟨a1, ?_, a3, a4⟩, ?_, c1⟩, vt⟩
  · obtain ⟨d1, d2, d3, d4⟩ := d
    rw [ept]
    exact ⟨(Ip0 7).trans d1, d2, d3, fun k hk => ⟨(Ip 9 _ (by omega)).trans (d4 k hk).1, (Ip 9 _ (by omega)).trans (d4 k hk).2.1, (Ip 9 _ (by omega)).trans (d4 k hk).2.2⟩⟩
  · obtain ⟨d1, d2, d3⟩ := pa
    rw [ept]
    refine ⟨(Ip0 8).trans d1, d2, fun p hp => ?_⟩
    obtain ⟨x0, x1, x2, x3, x4⟩ := d3 p hp
    exact ⟨(Ip 10 _ (by omega)).trans x0, (Ip 10 _ (by omega)).trans x1, (Ip 10 _ (by omega)).trans x2, (Ip 10 _ (by omega)).trans x3, (Ip 10 _ (by omega)).trans x4⟩
  · rw [ept]; exact ⟨(Ip0 6).trans r1, r2, (Ip0 9).trans r3, r4⟩
  · rw [ept, eL]; exact ⟨n1, n2, n3⟩
  · rw [ept]; exact fun i hi => ⟨(Ip 1 _ (by omega)).trans (a2 i hi).1, (Ip 2 _ (by omega)).trans (a2 i hi).2.1, (Ip 4 _ (by omega)).trans (a2 i hi).2.2⟩
  · rw [ept]; exact fun q hq => (Ip 11 _ (by omega)).trans (b1 q hq)
theorem mG_p {h : mH} {E : EV} {rn pn tn : List (List Int32)} {B : List Int32} {ep : Int32} {vs : List (Int32 × Int32 × Int32)} {hv : Bool} {S : VS} {ea : Bool} {P : List Int32} (m : mG h (E, rn, pn, tn, B, ep, vs, hv, S, ea, P)) : kM h ∧ isP (pt h) ∧ mClo h E.1 ∧ cl12 E.1 ∧ mVi h vs ∧ vsOK vs ∧ tpR h B ∧ bytes B ∧ mI h 316 3 = ep ∧ ppR h P ∧ vtR h hv S ea ∧ mDo h (pt h) E.2.1 ∧ mPa h (pt h) E.2.2.1 ∧ mI h (pt h) 6 = Int32.ofNat rn.length ∧ rn.length ≤ 12 ∧ mI h (pt h) 9 = Int32.ofNat tn.length ∧ E.2.2.2.2.2.length = tn.length ∧ wCx h E.1 E.2.1 E.2.2.1 vs ∧ 361 ≤ mN h := by
  obtain ⟨g1, w, ⟨r1, r2, r3, r4⟩, _, ⟨t, hb⟩, hep, pp, _, v1, v2⟩ := m
  have w0 := w
  obtain ⟨hk, d, mc, h12, pa, vi, vo⟩ := w
  exact ⟨hk, pt_P hk, mc, h12, vi, vo, t, hb, hep, pp, ⟨v1, v2⟩, d, pa, r1, r2, r3, r4, w0, g1⟩
theorem MR_thr {h : mH} {σ : MGT} {t : Option mO} {mm : Nat → Int32} {r : Int32 ⊕ Nat} (m : mG h σ) (e : t = some (.inl (some (.int (vl r))), mSI h 316 0 (cdm mm r))) : MR h σ t mm r :=
  ⟨_, e, by rw [nI_SI, if_pos ⟨rfl, rfl⟩], mG_eq (EQM_thr EQM_r) m, FM_c (FMc_SI FMc_r (by omega)) (by omega)⟩
def mmI : Nat → Int32 := fun e => if e = 2 then 1 else if e = 1 then 2 else 3
theorem m_trim {d : Nat} {n : Int32} {h : mH} {E : EV} {rn pn tn : List (List Int32)} {B : List Int32} {ep : Int32} {vs : List (Int32 × Int32 × Int32)} {hv : Bool} {S : VS} {ea : Bool} {P : List Int32} (m : mG h (E, rn, pn, tn, B, ep, vs, hv, S, ea, P)) : MR h (E, rn, pn, tn, if inR n 0 (Int32.ofNat B.length) = true then lc B n else B, ep, vs, hv, S, ea, P) (mCall (d + 2) 28 [.ref 316, .int n] h) (fun _ => 1) (if inR n 0 (Int32.ofNat B.length) = true then .inl n else .inr 1) := by
  have m0 := m
  obtain ⟨hk, hp, mc, h12, vi, vo, tp, hb, hep, pp, vt, md, pa, r1, r2, r3, r4, w, g1⟩ := mG_p m
  have t1 := tp.1
  by_cases c : inR n 0 (Int32.ofNat B.length) = true
  · rw [if_pos c, if_pos c]
    obtain ⟨b1, b2⟩ := inR_p c
    have hn : ∃ q, q ≤ B.length ∧ n = Int32.ofNat q := by
      have e0 : ¬ n < 0 := b1
      have l2 := tp.2.1
      rw [i_lt, i_of_i (by omega)] at b2
      rw [i_lt, i_z] at e0
      refine ⟨n.toInt.toNat, by omega, ?_⟩
      have := i_to (x := n) (by rw [i_lt, i_z]; omega)
      rw [i_cl] at this; exact this.symm
    obtain ⟨q, hq, rfl⟩ := hn
    have l2 := tp.2.1
    have elc : lc B (Int32.ofNat q) = B.take q := by unfold lc; rw [if_neg b1, i_of_n (by omega)]
    have f : Fr [316] h (mSI (mSI h 316 0 0) 316 2 (Int32.ofNat q)) := Fr_SI (Fr_SI ⟨rfl, fun _ _ _ => rfl⟩ (by simp)) (by simp)
    have I : ∀ a, ¬ a = 316 → mI (mSI (mSI h 316 0 0) 316 2 (Int32.ofNat q)) a = mI h a := fun a ha => by rw [mI_SI_other ha, mI_SI_other ha]
    have J : ∀ j, ¬ j = 0 → ¬ j = 2 → mI (mSI (mSI h 316 0 0) 316 2 (Int32.ofNat q)) 316 j = mI h 316 j := fun j h0 h2 => by rw [nI_SI, if_neg (by omega), nI_SI, if_neg (by omega)]
    refine ⟨mSI (mSI h 316 0 0) 316 2 (Int32.ofNat q), ?_, by rw [nI_SI, if_neg (by omega), nI_SI, if_pos ⟨rfl, rfl⟩]; rfl, ?_, FM_c (FMc_Fr FMc_r f (by simp)) (by omega)⟩
    · simp (maxDischargeDepth := 60) only [hk, x_28_0, x_28_1, x_28_2, x_28_5, x_28_6, x_28_7, x_28_8, x_28_11, x_28_14, x_28_17, x_28_18, x_28_19, x_28_22, x_28_23, x_28_24, x_28_25, x_28_28, x_28_29, c_28, t1, m_isIn, c, bz_0, Bool.true_eq_false, Option.bind_some, mAft_n, mAft_v, mAft_x, mS_n, mS_i, mS_r, mS_l, mS_d, ne_eq, not_false_eq_true, not_true_eq_false, true_or, or_true, and_true, true_and, if_true, if_false, ite_true, ite_false, reduceIte, Nat.reduceAdd, Nat.reduceLeDiff, Nat.reduceEqDiff, false_and, and_false, or_false, false_or, eq_self, reduceCtorEq, mi_316, mi_317, ml_317, mi_318, ml_318, mi_319, ml_319, mi_320, ml_320, mi_321, ml_321, mi_322, ml_322, mi_359, ml_359, mv_316_1, mv_316_4, mv_316_7, mv_316_8, mv_316_9, mv_316_10, mv_316_13, mv_316_14, mv_316_15, pi_0, pi_1, pl_1, pv_1, pi_2, pl_2, pv_2, pi_3, pl_3, pv_3, pi_4, pl_4, pv_4, pi_5, pl_5, pv_5, pi_6, pl_6, pv_10, pi_7, pl_7, pv_11, pi_8, pl_8, pv_12, pi_9, pl_9, pv_13, pi_10, pl_10, pv_14, pi_11, pl_11, pv_15, pv_20, wi_0, wi_1, wl_1, wv_14, wi_2, wl_2, wv_15, wi_3, wl_3, wv_16, wi_4, wl_4, wv_17, wi_5, wl_5, wv_18, wv_21, pt_P, pt_v, pt_w, pt_SI, pt_SL, kM_SI, kM_SL, lI_SL, lV_SL, lK_SL, lN_SL, lL_SL, lIs_SL, nI_SI, nV_SI, nK_SI, nN_SI, nL_SI, nIs_SI, pp_c, pp_l, pp_r, pp_k, pp_k0, pp_j, pp_j0, isl]
      rfl
    · refine mG_W m0 f (by simp) (kCl mc (I 320 (by decide)) (I 321 (by decide))) h12 (kVi vi (J 6 (by decide) (by decide)) (I 319 (by decide))) vo ?_ ?_ ((J 3 (by decide) (by decide)).trans hep) (kPp pp (J 5 (by decide) (by decide)) (I 318 (by decide))) (kVt vt (fun j _ => by rw [I 347 (by decide)]) (I 348 (by decide)))
      · rw [elc]
        refine ⟨by rw [nI_SI, if_pos ⟨rfl, rfl⟩, List.length_take, Nat.min_eq_left hq], by rw [List.length_take]; omega, fun k hk => ?_⟩
        rw [List.length_take, Nat.min_eq_left hq] at hk
        rw [I 317 (by decide), tp.2.2 k (by omega), List.getD_eq_getElem?_getD, List.getD_eq_getElem?_getD, List.getElem?_take_of_lt hk]
      · rw [elc]
        intro x hx
        exact hb x (List.mem_of_mem_take hx)
  · rw [if_neg c, if_neg c]
    refine MR_thr m0 ?_
    have c' : inR n 0 (Int32.ofNat B.length) = false := (Bool.not_eq_true _).mp c
    simp (maxDischargeDepth := 60) only [hk, x_28_0, x_28_1, x_28_2, x_28_5, x_28_6, x_28_7, x_28_8, x_28_11, x_28_14, x_28_17, x_28_18, x_28_19, x_28_22, x_28_23, x_28_24, x_28_25, x_28_28, x_28_29, c_28, t1, m_isIn, c', bz_0, m_no, SI_SI, Option.bind_some, mAft_n, mAft_v, mAft_x, mS_n, mS_i, mS_r, mS_l, mS_d, ne_eq, not_false_eq_true, not_true_eq_false, true_or, or_true, and_true, true_and, if_true, if_false, ite_true, ite_false, reduceIte, Nat.reduceAdd, Nat.reduceLeDiff, Nat.reduceEqDiff, false_and, and_false, or_false, false_or, eq_self, reduceCtorEq, mi_316, mi_317, ml_317, mi_318, ml_318, mi_319, ml_319, mi_320, ml_320, mi_321, ml_321, mi_322, ml_322, mi_359, ml_359, mv_316_1, mv_316_4, mv_316_7, mv_316_8, mv_316_9, mv_316_10, mv_316_13, mv_316_14, mv_316_15, pi_0, pi_1, pl_1, pv_1, pi_2, pl_2, pv_2, pi_3, pl_3, pv_3, pi_4, pl_4, pv_4, pi_5, pl_5, pv_5, pi_6, pl_6, pv_10, pi_7, pl_7, pv_11, pi_8, pl_8, pv_12, pi_9, pl_9, pv_13, pi_10, pl_10, pv_14, pi_11, pl_11, pv_15, pv_20, wi_0, wi_1, wl_1, wv_14, wi_2, wl_2, wv_15, wi_3, wl_3, wv_16, wi_4, wl_4, wv_17, wi_5, wl_5, wv_18, wv_21, pt_P, pt_v, pt_w, pt_SI, pt_SL, kM_SI, kM_SL, lI_SL, lV_SL, lK_SL, lN_SL, lL_SL, lIs_SL, nI_SI, nV_SI, nK_SI, nN_SI, nL_SI, nIs_SI, pp_c, pp_l, pp_r, pp_k, pp_k0, pp_j, pp_j0, isl]
    rfl
theorem m_errorAt {d : Nat} {h : mH} {E : EV} {rn pn tn : List (List Int32)} {B : List Int32} {ep : Int32} {vs : List (Int32 × Int32 × Int32)} {hv : Bool} {S : VS} {ea : Bool} {P : List Int32} (m : mG h (E, rn, pn, tn, B, ep, vs, hv, S, ea, P)) : MR h (E, rn, pn, tn, B, ep, vs, hv, S, ea, P) (mCall (d + 1) 127 [.ref 316] h) (fun _ => 1) (.inl ep) := by
  have m0 := m
  obtain ⟨hk, hp, mc, h12, vi, vo, tp, hb, hep, pp, vt, md, pa, r1, r2, r3, r4, w, g1⟩ := mG_p m
  refine MR_thr m0 ?_
  simp (maxDischargeDepth := 60) only [hk, x_127_0, x_127_1, x_127_2, x_127_5, x_127_6, x_127_9, c_127, hep, Option.bind_some, mAft_n, mAft_v, mAft_x, mS_n, mS_i, mS_r, mS_l, mS_d, ne_eq, not_false_eq_true, not_true_eq_false, true_or, or_true, and_true, true_and, if_true, if_false, ite_true, ite_false, reduceIte, Nat.reduceAdd, Nat.reduceLeDiff, Nat.reduceEqDiff, false_and, and_false, or_false, false_or, eq_self, reduceCtorEq, mi_316, mi_317, ml_317, mi_318, ml_318, mi_319, ml_319, mi_320, ml_320, mi_321, ml_321, mi_322, ml_322, mi_359, ml_359, mv_316_1, mv_316_4, mv_316_7, mv_316_8, mv_316_9, mv_316_10, mv_316_13, mv_316_14, mv_316_15, pi_0, pi_1, pl_1, pv_1, pi_2, pl_2, pv_2, pi_3, pl_3, pv_3, pi_4, pl_4, pv_4, pi_5, pl_5, pv_5, pi_6, pl_6, pv_10, pi_7, pl_7, pv_11, pi_8, pl_8, pv_12, pi_9, pl_9, pv_13, pi_10, pl_10, pv_14, pi_11, pl_11, pv_15, pv_20, wi_0, wi_1, wl_1, wv_14, wi_2, wl_2, wv_15, wi_3, wl_3, wv_16, wi_4, wl_4, wv_17, wi_5, wl_5, wv_18, wv_21, pt_P, pt_v, pt_w, pt_SI, pt_SL, kM_SI, kM_SL, lI_SL, lV_SL, lK_SL, lN_SL, lL_SL, lIs_SL, nI_SI, nV_SI, nK_SI, nN_SI, nL_SI, nIs_SI, pp_c, pp_l, pp_r, pp_k, pp_k0, pp_j, pp_j0, isl]
  rfl
