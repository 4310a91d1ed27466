/-! THE REFERENCE'S WAYS -/
theorem kM_Fr' {W : List Nat} {h H : mH} (f : Fr W h H) (hk : kM h) : kM H := by
  obtain ⟨H1, H2⟩ := H
  obtain ⟨h1, h2⟩ := h
  have e : H2 = h2 := f.1
  subst e
  exact hk
theorem Fr_1 {W : List Nat} {h H : mH} {a k : Nat} {x : Int32} (f : Fr W h H) (ha : a ∈ W) : Fr W h (mSI H a k x) :=
  Fr_SI f ha
theorem m_fill {d a n : Nat} {x : Int32} {h : mH} (hr : mIs h a 100 = true) (hn : (mK h a).2 = n) (hl : n ≤ 1000) : ∃ H, mCall (d + 1) 124 [.ref a, .int x] h = some (.inl none, H) ∧ Fr [a] h H ∧ ∀ j, j < n → mI H a j = x := by
  have lp : ∀ (m i : Nat) (H : mH), i + m = n → Fr [a] h H → (∀ j, j < i → mI H a j = x) → ∃ K, mExec (mCall d) 124 5 [some (.ref a), some (.int x), some (.int (Int32.ofNat i)), some (.int (Int32.ofNat n))] [] H = some (.inl none, K) ∧ Fr [a] h K ∧ ∀ j, j < n → mI K a j = x := by
    intro m
    induction m with
    | zero =>
      intro i H e f g
      have c1 : Int32.ofNat n ≤ Int32.ofNat i := by rw [i_ofle (by omega) (by omega)]; omega
      refine ⟨H, ?_, f, fun j hj => g j (by omega)⟩
      rw [x_124_5]
      simp (maxDischargeDepth := 60) only [c1, x_124_0, x_124_1, x_124_2, x_124_3, x_124_4, x_124_6, x_124_7, x_124_10, x_124_11, x_124_12, x_124_13, x_124_14, x_124_17, x_124_20, Option.bind_some, mAft_n, mAft_v, mAft_x, mS_n, mS_i, mS_r, mS_l, mS_d, ne_eq, not_false_eq_true, not_true_eq_false, true_or, or_true, and_true, true_and, if_true, if_false, ite_true, ite_false, reduceIte, Nat.reduceAdd, Nat.reduceLeDiff, Nat.reduceEqDiff, false_and, and_false, or_false, false_or, eq_self, reduceCtorEq]
    | succ m ih =>
      intro i H e f g
      have c1 : ¬ Int32.ofNat n ≤ Int32.ofNat i := by rw [i_ofle (by omega) (by omega)]; omega
      have hj : mIn (Int32.ofNat i) n = true := i_in (by rw [i_of_i (by omega)]; omega) (by rw [i_of_i (by omega)]; omega)
      have en : (Int32.ofNat i).toNatClampNeg = i := i_of_n (by omega)
      have hr' : mIs H a 100 = true := by rw [Fr_is f]; exact hr
      have hn' : (mK H a).2 = n := by rw [Fr_K f]; exact hn
      obtain ⟨K, k1, k2, k3⟩ := ih (i + 1) (mSI H a i x) (by omega) (Fr_1 f (by simp)) (fun j hj2 => by
        rw [nI_SI]
        by_cases c : j = i
        · rw [if_pos ⟨rfl, c⟩]
        · rw [if_neg (fun z => c z.2)]; exact g j (by omega))
      refine ⟨K, ?_, k2, k3⟩
      rw [← k1, x_124_5]
      simp (maxDischargeDepth := 60) only [c1, hr', hn', hj, en, i_succ, x_124_0, x_124_1, x_124_2, x_124_3, x_124_4, x_124_6, x_124_7, x_124_10, x_124_11, x_124_12, x_124_13, x_124_14, x_124_17, x_124_20, Option.bind_some, mAft_n, mAft_v, mAft_x, mS_n, mS_i, mS_r, mS_l, mS_d, ne_eq, not_false_eq_true, not_true_eq_false, true_or, or_true, and_true, true_and, if_true, if_false, ite_true, ite_false, reduceIte, Nat.reduceAdd, Nat.reduceLeDiff, Nat.reduceEqDiff, false_and, and_false, or_false, false_or, eq_self, reduceCtorEq]
  obtain ⟨K, k1, k2, k3⟩ := lp n 0 h (by omega) ⟨rfl, fun _ _ _ => rfl⟩ (fun j hj => by omega)
  refine ⟨K, ?_, k2, k3⟩
  rw [← k1]
  have o : mIs h a 100 = true ∨ mIs h a 101 = true := Or.inl hr
  simp (maxDischargeDepth := 60) only [hn, o, x_124_0, x_124_1, x_124_2, x_124_3, x_124_4, x_124_6, x_124_7, x_124_10, x_124_11, x_124_12, x_124_13, x_124_14, x_124_17, x_124_20, c_124, Option.bind_some, mAft_n, mAft_v, mAft_x, mS_n, mS_i, mS_r, mS_l, mS_d, ne_eq, not_false_eq_true, not_true_eq_false, true_or, or_true, and_true, true_and, if_true, if_false, ite_true, ite_false, reduceIte, Nat.reduceAdd, Nat.reduceLeDiff, Nat.reduceEqDiff, false_and, and_false, or_false, false_or, eq_self, reduceCtorEq]
  rfl
def mDo (h : mH) (t : Nat) (dn : List NS) : Prop := mI h t 7 = Int32.ofNat dn.length ∧ dn.length ≤ 24 ∧ dnOK dn ∧ ∀ k, k < dn.length → mI h (t + 9) (3 * k) = Int32.ofNat (dn.getD k (0, 0, 0)).1 ∧ mI h (t + 9) (3 * k + 1) = Int32.ofNat (dn.getD k (0, 0, 0)).2.1 ∧ mI h (t + 9) (3 * k + 2) = Int32.ofNat (dn.getD k (0, 0, 0)).2.2
theorem sidesN_get : ∀ (dn : List NS) (k : Nat), k < 2 * dn.length → (sidesN dn).getD k (0, 0, 0) = if k % 2 = 0 then dn.getD (k / 2) (0, 0, 0) else ((dn.getD (k / 2) (0, 0, 0)).2.1, (dn.getD (k / 2) (0, 0, 0)).1, (dn.getD (k / 2) (0, 0, 0)).2.2)
  | [], k, h => by rw [List.length_nil] at h; omega
  | x :: xs, 0, _ => rfl
  | x :: xs, 1, _ => rfl
  | x :: xs, k + 2, h => by
    rw [List.length_cons] at h
    rw [sidesN, List.getD_cons_succ, List.getD_cons_succ, sidesN_get xs k (by omega), show (k + 2) % 2 = k % 2 by omega, show (k + 2) / 2 = k / 2 + 1 by omega, List.getD_cons_succ]
theorem k48 : ∀ k, k < 48 → Int32.ofNat k / 2 = Int32.ofNat (k / 2) ∧ Int32.ofNat k - Int32.ofNat (k / 2) * 2 = Int32.ofNat (k % 2) ∧ (3 : Int32) * Int32.ofNat (k / 2) = Int32.ofNat (3 * (k / 2)) ∧ Int32.ofNat (3 * (k / 2) + 1) - Int32.ofNat (k % 2) = Int32.ofNat (3 * (k / 2) + 1 - k % 2) ∧ Int32.ofNat (3 * (k / 2)) + 2 = Int32.ofNat (3 * (k / 2) + 2) := by decide +kernel
def fR (h : mH) (E : Nat → Nat) (m : Nat) : Prop := ∀ r, r < 12 → (E r ≤ m ∨ E r = eI) ∧ mI h 322 r = e2i (E r)
theorem e2i_1 {e : Nat} (h : e ≤ eI) : (e2i e = -1) = (e = eI) := by
  unfold e2i eI at *
  apply propext
  split
  · constructor
    · intro z
      have := congrArg Int32.toInt z
      rw [i_of_i (by omega)] at this
      have e1 : (-1 : Int32).toInt = -1 := by decide
      omega
    · intro z; omega
  · exact ⟨fun _ => by omega, fun _ => rfl⟩
theorem mClo_Fr {W : List Nat} {h H : mH} {cl : List CL} (f : Fr W h H) (h0 : 320 ∉ W) (h1 : 321 ∉ W) (m : mClo h cl) : mClo H cl := by
  intro r hr
  obtain ⟨a, b, c⟩ := m r hr
  exact ⟨a, (Fr_I f h0).trans b, fun k hk => ⟨(Fr_I f h1).trans (c k hk).1, (Fr_I f h1).trans (c k hk).2⟩⟩
theorem pt_Fr {W : List Nat} {h H : mH} (f : Fr W h H) : pt H = pt h := by unfold pt; rw [Fr_V f]
theorem fR_mono {h : mH} {E : Nat → Nat} {m m' : Nat} (g : fR h E m) (hm : m ≤ m') : fR h E m' := fun r hr => ⟨by have := (g r hr).1; omega, (g r hr).2⟩
theorem mDo_side {h : mH} {t k : Nat} {dn : List NS} (md : mDo h t dn) (hk : k < 2 * dn.length) : mI h (t + 9) (3 * (k / 2) + k % 2) = Int32.ofNat ((sidesN dn).getD k (0, 0, 0)).1 ∧ mI h (t + 9) (3 * (k / 2) + 1 - k % 2) = Int32.ofNat ((sidesN dn).getD k (0, 0, 0)).2.1 ∧ mI h (t + 9) (3 * (k / 2) + 2) = Int32.ofNat ((sidesN dn).getD k (0, 0, 0)).2.2 ∧ ((sidesN dn).getD k (0, 0, 0)).1 < 12 ∧ ((sidesN dn).getD k (0, 0, 0)).2.1 < 12 ∧ ((sidesN dn).getD k (0, 0, 0)).2.2 ≤ 200 := by
  obtain ⟨_, _, ok, m⟩ := md
  obtain ⟨a, b, c⟩ := m (k / 2) (by omega)
  have o : ((dn.getD (k / 2) (0, 0, 0)).1 < 12 ∧ (dn.getD (k / 2) (0, 0, 0)).2.1 < 12 ∧ 1 ≤ (dn.getD (k / 2) (0, 0, 0)).2.2 ∧ (dn.getD (k / 2) (0, 0, 0)).2.2 ≤ 200) := by
    rw [List.getD_eq_getElem?_getD, List.getElem?_eq_getElem (show k / 2 < dn.length by omega)]
    exact ok _ (List.getElem_mem _)
  rw [sidesN_get dn k hk]
  by_cases e : k % 2 = 0
  · rw [if_pos e, e]
    exact ⟨a, b, c, o.1, o.2.1, o.2.2.2⟩
  · rw [if_neg e, show k % 2 = 1 by omega]
    exact ⟨b, a, c, o.2.1, o.1, o.2.2.2⟩
/-- one side -/
theorem w_one {d t f to k m : Nat} {s : Int32} {cl : List CL} {dn : List NS} {h H : mH} {E : Nat → Nat} {mo : Bool} {l6 l7 l8 : Option Value} (hk : kM h) (ht : pt h = t) (md : mDo h t dn) (mc : mClo h cl) (h12 : cl12 cl) (hm : m + 200 < eI) (hkl : k < 2 * dn.length) (F : Fr [322] h H) (g : fR H E m) :
    ∃ H' mo' l6' l7' l8', mExec (mCall (d + 1)) 162 29 [some (.ref 316), some (.int (Int32.ofNat f)), some (.int (Int32.ofNat to)), some (.int s), some (.int (bz mo)), some (.int (Int32.ofNat k)), l6, l7, l8] [] H = mExec (mCall (d + 1)) 162 29 [some (.ref 316), some (.int (Int32.ofNat f)), some (.int (Int32.ofNat to)), some (.int s), some (.int (bz mo')), some (.int (Int32.ofNat (k + 1))), l6', l7', l8'] [] H' ∧ Fr [322] h H' ∧ fR H' (rE (opE (cOpen cl s)) E ((sidesN dn).getD k (0, 0, 0))) (m + 200) ∧ mo' = (mo || decide (opE (cOpen cl s) ((sidesN dn).getD k (0, 0, 0)).2.1 = true ∧ E ((sidesN dn).getD k (0, 0, 0)).1 + ((sidesN dn).getD k (0, 0, 0)).2.2 < E ((sidesN dn).getD k (0, 0, 0)).2.1)) := by
  obtain ⟨s1, s2, s3, a12, b12, w200⟩ := mDo_side md hkl
  have nd := md.1
  have nd24 := md.2.1
  obtain ⟨d1, d2, d3, d4, d5⟩ := k48 k (by omega)
  generalize (sidesN dn).getD k (0, 0, 0) = q at *
  obtain ⟨a, b, w⟩ := q
  dsimp only at s1 s2 s3 a12 b12 w200 ⊢
  have hkH := kM_Fr' F hk
  have ept : pt H = t := (pt_Fr F).trans ht
  have hp : isP t := by rw [← ht]; exact pt_P hk
  have n9 : t + 9 ∉ [322] := by intro z; simp only [List.mem_cons, List.not_mem_nil, or_false] at z; rcases hp with rfl | rfl <;> omega
  have n0 : t ∉ [322] := by intro z; simp only [List.mem_cons, List.not_mem_nil, or_false] at z; rcases hp with rfl | rfl <;> omega
  have nd' : mI H t 7 = Int32.ofNat dn.length := (Fr_I F n0).trans nd
  have s1' := (Fr_I F n9).trans s1
  have s2' := (Fr_I F n9).trans s2
  have s3' := (Fr_I F n9).trans s3
  have c0 : ¬ (2 : Int32) * Int32.ofNat dn.length ≤ Int32.ofNat k := by rw [show (2 : Int32) = Int32.ofNat 2 from rfl, i_mulof, i_ofle (by omega) (by omega)]; omega
  have x1 : mIn (Int32.ofNat (3 * (k / 2) + k % 2)) 72 = true := i_in (by rw [i_of_i (by omega)]; omega) (by rw [i_of_i (by omega)]; omega)
  have y1 : (Int32.ofNat (3 * (k / 2) + k % 2)).toNatClampNeg = 3 * (k / 2) + k % 2 := i_of_n (by omega)
  have x2 : mIn (Int32.ofNat (3 * (k / 2) + 1 - k % 2)) 72 = true := i_in (by rw [i_of_i (by omega)]; omega) (by rw [i_of_i (by omega)]; omega)
  have y2 : (Int32.ofNat (3 * (k / 2) + 1 - k % 2)).toNatClampNeg = 3 * (k / 2) + 1 - k % 2 := i_of_n (by omega)
  have x3 : mIn (Int32.ofNat (3 * (k / 2) + 2)) 72 = true := i_in (by rw [i_of_i (by omega)]; omega) (by rw [i_of_i (by omega)]; omega)
  have y3 : (Int32.ofNat (3 * (k / 2) + 2)).toNatClampNeg = 3 * (k / 2) + 2 := i_of_n (by omega)
  have xa : mIn (Int32.ofNat a) 12 = true := i_in (by rw [i_of_i (by omega)]; omega) (by rw [i_of_i (by omega)]; omega)
  have ya : (Int32.ofNat a).toNatClampNeg = a := i_of_n (by omega)
  have xb : mIn (Int32.ofNat b) 12 = true := i_in (by rw [i_of_i (by omega)]; omega) (by rw [i_of_i (by omega)]; omega)
  have yb : (Int32.ofNat b).toNatClampNeg = b := i_of_n (by omega)
  have t2 : ¬ (2 : Int32) = 0 := by decide
  obtain ⟨ga1, ga2⟩ := g a a12
  obtain ⟨gb1, gb2⟩ := g b b12
  have eIv : eI = 1000000 := rfl
  by_cases c1 : E a = eI
  · have qa : mI H 322 a = -1 := by rw [ga2, c1]; rfl
    have nn : ¬ (opE (cOpen cl s) b = true ∧ E a + w < E b) := by rintro ⟨_, z⟩; omega
    refine ⟨H, mo, some (.int (Int32.ofNat a)), some (.int (Int32.ofNat b)), some (.int (-1 + Int32.ofNat w)), ?_, F, ?_, ?_⟩
    rotate_left
    · unfold rE; rw [if_neg nn]; exact fR_mono g (by omega)
    · rw [decide_eq_false nn, Bool.or_false]
    rw [x_162_29]
    simp (maxDischargeDepth := 60) only [hk, x_162_0, x_162_1, x_162_4, x_162_5, x_162_8, x_162_9, x_162_12, x_162_13, x_162_14, x_162_15, x_162_16, x_162_20, x_162_23, x_162_24, x_162_26, x_162_27, x_162_31, x_162_32, x_162_33, x_162_36, x_162_39, x_162_40, x_162_43, x_162_44, x_162_47, x_162_50, x_162_51, x_162_53, x_162_54, x_162_55, x_162_56, x_162_58, x_162_59, x_162_60, x_162_61, x_162_62, x_162_64, x_162_65, x_162_68, x_162_71, x_162_72, x_162_74, x_162_75, x_162_76, x_162_77, x_162_78, x_162_79, x_162_81, x_162_82, x_162_83, x_162_84, x_162_85, x_162_87, x_162_88, x_162_91, x_162_93, x_162_94, x_162_95, x_162_98, x_162_101, x_162_102, x_162_104, x_162_105, x_162_106, x_162_107, x_162_108, x_162_109, x_162_110, x_162_111, x_162_113, x_162_114, x_162_117, x_162_119, x_162_120, x_162_121, x_162_124, x_162_125, x_162_128, x_162_130, x_162_131, x_162_132, x_162_135, x_162_136, x_162_139, x_162_141, x_162_142, x_162_144, x_162_147, x_162_148, x_162_150, x_162_151, x_162_154, x_162_157, x_162_160, x_162_161, x_162_164, x_162_166, x_162_168, x_162_169, x_162_170, x_162_172, x_162_175, x_162_178, x_162_181, x_162_182, x_162_185, x_162_186, x_162_187, hkH, ept, hp, nd', c0, d1, d2, d3, d4, d5, i_addof, i_succ, x1, y1, x2, y2, x3, y3, s1', s2', s3', xa, ya, xb, yb, t2, qa, Option.bind_some, mAft_n, mAft_v, mAft_x, mS_n, mS_i, mS_r, mS_l, mS_d, ne_eq, not_false_eq_true, not_true_eq_false, true_or, or_true, and_true, true_and, if_true, if_false, ite_true, ite_false, reduceIte, Nat.reduceAdd, Nat.reduceLeDiff, Nat.reduceEqDiff, false_and, and_false, or_false, false_or, eq_self, reduceCtorEq, mi_316, mi_317, ml_317, mi_318, ml_318, mi_319, ml_319, mi_320, ml_320, mi_321, ml_321, mi_322, ml_322, mi_359, ml_359, mv_316_1, mv_316_4, mv_316_7, mv_316_8, mv_316_9, mv_316_10, mv_316_13, mv_316_14, mv_316_15, pi_0, pi_1, pl_1, pv_1, pi_2, pl_2, pv_2, pi_3, pl_3, pv_3, pi_4, pl_4, pv_4, pi_5, pl_5, pv_5, pi_6, pl_6, pv_10, pi_7, pl_7, pv_11, pi_8, pl_8, pv_12, pi_9, pl_9, pv_13, pi_10, pl_10, pv_14, pi_11, pl_11, pv_15, pv_20, wi_0, wi_1, wl_1, wv_14, wi_2, wl_2, wv_15, wi_3, wl_3, wv_16, wi_4, wl_4, wv_17, wi_5, wl_5, wv_18, wv_21, pt_P, pt_v, pt_w, pt_SI, pt_SL, kM_SI, kM_SL, lI_SL, lV_SL, lK_SL, lN_SL, lL_SL, lIs_SL, nI_SI, nV_SI, nK_SI, nN_SI, nL_SI, nIs_SI, pp_c, pp_l, pp_r, pp_k, pp_k0, pp_j, pp_j0, isl]
  have hEa : E a ≤ m := by omega
  have qa : mI H 322 a = Int32.ofNat (E a) := by rw [ga2]; unfold e2i; rw [if_pos (by omega)]
  have na : ¬ Int32.ofNat (E a) = -1 := by
    have := e2i_1 (e := E a) (by omega)
    unfold e2i at this; rw [if_pos (by omega)] at this
    rw [this]; exact c1
  have op := m_isOpenAt (d := d) (s := s) hkH b12 (mClo_Fr F (by simp) (by simp) mc) h12
  have e_op : opE (cOpen cl s) b = bt (cOpen cl s) (Int32.ofNat b) := rfl
  -- what is done, if it is shorter
  have done : E a + w < E b → (∀ mid : Nat, mid = mid) → (mExec (mCall (d + 1)) 162 29 [some (.ref 316), some (.int (Int32.ofNat f)), some (.int (Int32.ofNat to)), some (.int s), some (.int (bz mo)), some (.int (Int32.ofNat k)), l6, l7, l8] [] H = mExec (mCall (d + 1)) 162 147 [some (.ref 316), some (.int (Int32.ofNat f)), some (.int (Int32.ofNat to)), some (.int s), some (.int (bz mo)), some (.int (Int32.ofNat k)), some (.int (Int32.ofNat a)), some (.int (Int32.ofNat b)), some (.int (Int32.ofNat (E a + w)))] [] H) →
      ∃ H' mo' l6' l7' l8', mExec (mCall (d + 1)) 162 29 [some (.ref 316), some (.int (Int32.ofNat f)), some (.int (Int32.ofNat to)), some (.int s), some (.int (bz mo)), some (.int (Int32.ofNat k)), l6, l7, l8] [] H = mExec (mCall (d + 1)) 162 29 [some (.ref 316), some (.int (Int32.ofNat f)), some (.int (Int32.ofNat to)), some (.int s), some (.int (bz mo')), some (.int (Int32.ofNat (k + 1))), l6', l7', l8'] [] H' ∧ Fr [322] h H' ∧ fR H' (rE (opE (cOpen cl s)) E (a, b, w)) (m + 200) ∧ mo' = (mo || decide (opE (cOpen cl s) b = true ∧ E a + w < E b)) := by
    intro lt _ st
    cases ho : bt (cOpen cl s) (Int32.ofNat b)
    · rw [ho] at op
      have nn : ¬ (opE (cOpen cl s) b = true ∧ E a + w < E b) := by rw [e_op, ho]; rintro ⟨z, _⟩; cases z
      refine ⟨H, mo, some (.int (Int32.ofNat a)), some (.int (Int32.ofNat b)), some (.int (Int32.ofNat (E a + w))), ?_, F, ?_, ?_⟩
      rotate_left
      · unfold rE; rw [if_neg nn]; exact fR_mono g (by omega)
      · rw [decide_eq_false nn, Bool.or_false]
      rw [st, x_162_147]
      simp (maxDischargeDepth := 60) only [hk, x_162_0, x_162_1, x_162_4, x_162_5, x_162_8, x_162_9, x_162_12, x_162_13, x_162_14, x_162_15, x_162_16, x_162_20, x_162_23, x_162_24, x_162_26, x_162_27, x_162_31, x_162_32, x_162_33, x_162_36, x_162_39, x_162_40, x_162_43, x_162_44, x_162_47, x_162_50, x_162_51, x_162_53, x_162_54, x_162_55, x_162_56, x_162_58, x_162_59, x_162_60, x_162_61, x_162_62, x_162_64, x_162_65, x_162_68, x_162_71, x_162_72, x_162_74, x_162_75, x_162_76, x_162_77, x_162_78, x_162_79, x_162_81, x_162_82, x_162_83, x_162_84, x_162_85, x_162_87, x_162_88, x_162_91, x_162_93, x_162_94, x_162_95, x_162_98, x_162_101, x_162_102, x_162_104, x_162_105, x_162_106, x_162_107, x_162_108, x_162_109, x_162_110, x_162_111, x_162_113, x_162_114, x_162_117, x_162_119, x_162_120, x_162_121, x_162_124, x_162_125, x_162_128, x_162_130, x_162_131, x_162_132, x_162_135, x_162_136, x_162_139, x_162_141, x_162_142, x_162_144, x_162_148, x_162_150, x_162_151, x_162_154, x_162_157, x_162_160, x_162_161, x_162_164, x_162_166, x_162_168, x_162_169, x_162_170, x_162_172, x_162_175, x_162_178, x_162_181, x_162_182, x_162_185, x_162_186, x_162_187, hkH, op, bz_0, i_succ, Option.bind_some, mAft_n, mAft_v, mAft_x, mS_n, mS_i, mS_r, mS_l, mS_d, ne_eq, not_false_eq_true, not_true_eq_false, true_or, or_true, and_true, true_and, if_true, if_false, ite_true, ite_false, reduceIte, Nat.reduceAdd, Nat.reduceLeDiff, Nat.reduceEqDiff, false_and, and_false, or_false, false_or, eq_self, reduceCtorEq, mi_316, mi_317, ml_317, mi_318, ml_318, mi_319, ml_319, mi_320, ml_320, mi_321, ml_321, mi_322, ml_322, mi_359, ml_359, mv_316_1, mv_316_4, mv_316_7, mv_316_8, mv_316_9, mv_316_10, mv_316_13, mv_316_14, mv_316_15, pi_0, pi_1, pl_1, pv_1, pi_2, pl_2, pv_2, pi_3, pl_3, pv_3, pi_4, pl_4, pv_4, pi_5, pl_5, pv_5, pi_6, pl_6, pv_10, pi_7, pl_7, pv_11, pi_8, pl_8, pv_12, pi_9, pl_9, pv_13, pi_10, pl_10, pv_14, pi_11, pl_11, pv_15, pv_20, wi_0, wi_1, wl_1, wv_14, wi_2, wl_2, wv_15, wi_3, wl_3, wv_16, wi_4, wl_4, wv_17, wi_5, wl_5, wv_18, wv_21, pt_P, pt_v, pt_w, pt_SI, pt_SL, kM_SI, kM_SL, lI_SL, lV_SL, lK_SL, lN_SL, lL_SL, lIs_SL, nI_SI, nV_SI, nK_SI, nN_SI, nL_SI, nIs_SI, pp_c, pp_l, pp_r, pp_k, pp_k0, pp_j, pp_j0, isl]
    · rw [ho] at op
      have nn : opE (cOpen cl s) b = true ∧ E a + w < E b := ⟨by rw [e_op, ho], lt⟩
      refine ⟨mSI H 322 b (Int32.ofNat (E a + w)), true, some (.int (Int32.ofNat a)), some (.int (Int32.ofNat b)), some (.int (Int32.ofNat (E a + w))), ?_, Fr_1 F (by simp), ?_, ?_⟩
      rotate_left
      · unfold rE
        rw [if_pos nn]
        intro r hr
        show ((if r = b then E a + w else E r) ≤ m + 200 ∨ (if r = b then E a + w else E r) = eI) ∧ mI (mSI H 322 b (Int32.ofNat (E a + w))) 322 r = e2i (if r = b then E a + w else E r)
        rw [nI_SI]
        by_cases z : r = b
        · rw [if_pos z, if_pos ⟨rfl, z⟩]
          refine ⟨Or.inl (by omega), ?_⟩
          unfold e2i; rw [if_pos (by omega)]
        · rw [if_neg z, if_neg (fun y => z y.2)]
          have := g r hr
          exact ⟨by omega, this.2⟩
      · rw [decide_eq_true nn, Bool.or_true]
      rw [st, x_162_147]
      simp (maxDischargeDepth := 60) only [hk, x_162_0, x_162_1, x_162_4, x_162_5, x_162_8, x_162_9, x_162_12, x_162_13, x_162_14, x_162_15, x_162_16, x_162_20, x_162_23, x_162_24, x_162_26, x_162_27, x_162_31, x_162_32, x_162_33, x_162_36, x_162_39, x_162_40, x_162_43, x_162_44, x_162_47, x_162_50, x_162_51, x_162_53, x_162_54, x_162_55, x_162_56, x_162_58, x_162_59, x_162_60, x_162_61, x_162_62, x_162_64, x_162_65, x_162_68, x_162_71, x_162_72, x_162_74, x_162_75, x_162_76, x_162_77, x_162_78, x_162_79, x_162_81, x_162_82, x_162_83, x_162_84, x_162_85, x_162_87, x_162_88, x_162_91, x_162_93, x_162_94, x_162_95, x_162_98, x_162_101, x_162_102, x_162_104, x_162_105, x_162_106, x_162_107, x_162_108, x_162_109, x_162_110, x_162_111, x_162_113, x_162_114, x_162_117, x_162_119, x_162_120, x_162_121, x_162_124, x_162_125, x_162_128, x_162_130, x_162_131, x_162_132, x_162_135, x_162_136, x_162_139, x_162_141, x_162_142, x_162_144, x_162_148, x_162_150, x_162_151, x_162_154, x_162_157, x_162_160, x_162_161, x_162_164, x_162_166, x_162_168, x_162_169, x_162_170, x_162_172, x_162_175, x_162_178, x_162_181, x_162_182, x_162_185, x_162_186, x_162_187, hkH, op, bz_0, Bool.true_eq_false, i_succ, xb, yb, Option.bind_some, mAft_n, mAft_v, mAft_x, mS_n, mS_i, mS_r, mS_l, mS_d, ne_eq, not_false_eq_true, not_true_eq_false, true_or, or_true, and_true, true_and, if_true, if_false, ite_true, ite_false, reduceIte, Nat.reduceAdd, Nat.reduceLeDiff, Nat.reduceEqDiff, false_and, and_false, or_false, false_or, eq_self, reduceCtorEq, mi_316, mi_317, ml_317, mi_318, ml_318, mi_319, ml_319, mi_320, ml_320, mi_321, ml_321, mi_322, ml_322, mi_359, ml_359, mv_316_1, mv_316_4, mv_316_7, mv_316_8, mv_316_9, mv_316_10, mv_316_13, mv_316_14, mv_316_15, pi_0, pi_1, pl_1, pv_1, pi_2, pl_2, pv_2, pi_3, pl_3, pv_3, pi_4, pl_4, pv_4, pi_5, pl_5, pv_5, pi_6, pl_6, pv_10, pi_7, pl_7, pv_11, pi_8, pl_8, pv_12, pi_9, pl_9, pv_13, pi_10, pl_10, pv_14, pi_11, pl_11, pv_15, pv_20, wi_0, wi_1, wl_1, wv_14, wi_2, wl_2, wv_15, wi_3, wl_3, wv_16, wi_4, wl_4, wv_17, wi_5, wl_5, wv_18, wv_21, pt_P, pt_v, pt_w, pt_SI, pt_SL, kM_SI, kM_SL, lI_SL, lV_SL, lK_SL, lN_SL, lL_SL, lIs_SL, nI_SI, nV_SI, nK_SI, nN_SI, nL_SI, nIs_SI, pp_c, pp_l, pp_r, pp_k, pp_k0, pp_j, pp_j0, isl]
      rfl
  by_cases c2 : E b = eI
  · have qb : mI H 322 b = -1 := by rw [gb2, c2]; rfl
    refine done (by omega) (fun _ => rfl) ?_
    rw [x_162_29]
    simp (maxDischargeDepth := 60) only [hk, x_162_0, x_162_1, x_162_4, x_162_5, x_162_8, x_162_9, x_162_12, x_162_13, x_162_14, x_162_15, x_162_16, x_162_20, x_162_23, x_162_24, x_162_26, x_162_27, x_162_31, x_162_32, x_162_33, x_162_36, x_162_39, x_162_40, x_162_43, x_162_44, x_162_47, x_162_50, x_162_51, x_162_53, x_162_54, x_162_55, x_162_56, x_162_58, x_162_59, x_162_60, x_162_61, x_162_62, x_162_64, x_162_65, x_162_68, x_162_71, x_162_72, x_162_74, x_162_75, x_162_76, x_162_77, x_162_78, x_162_79, x_162_81, x_162_82, x_162_83, x_162_84, x_162_85, x_162_87, x_162_88, x_162_91, x_162_93, x_162_94, x_162_95, x_162_98, x_162_101, x_162_102, x_162_104, x_162_105, x_162_106, x_162_107, x_162_108, x_162_109, x_162_110, x_162_111, x_162_113, x_162_114, x_162_117, x_162_119, x_162_120, x_162_121, x_162_124, x_162_125, x_162_128, x_162_130, x_162_131, x_162_132, x_162_135, x_162_136, x_162_139, x_162_141, x_162_142, x_162_144, x_162_148, x_162_150, x_162_151, x_162_154, x_162_157, x_162_160, x_162_161, x_162_164, x_162_166, x_162_168, x_162_169, x_162_170, x_162_172, x_162_175, x_162_178, x_162_181, x_162_182, x_162_185, x_162_186, x_162_187, hkH, ept, hp, nd', c0, d1, d2, d3, d4, d5, i_addof, i_succ, x1, y1, x2, y2, x3, y3, s1', s2', s3', xa, ya, xb, yb, t2, qa, qb, na, Option.bind_some, mAft_n, mAft_v, mAft_x, mS_n, mS_i, mS_r, mS_l, mS_d, ne_eq, not_false_eq_true, not_true_eq_false, true_or, or_true, and_true, true_and, if_true, if_false, ite_true, ite_false, reduceIte, Nat.reduceAdd, Nat.reduceLeDiff, Nat.reduceEqDiff, false_and, and_false, or_false, false_or, eq_self, reduceCtorEq, mi_316, mi_317, ml_317, mi_318, ml_318, mi_319, ml_319, mi_320, ml_320, mi_321, ml_321, mi_322, ml_322, mi_359, ml_359, mv_316_1, mv_316_4, mv_316_7, mv_316_8, mv_316_9, mv_316_10, mv_316_13, mv_316_14, mv_316_15, pi_0, pi_1, pl_1, pv_1, pi_2, pl_2, pv_2, pi_3, pl_3, pv_3, pi_4, pl_4, pv_4, pi_5, pl_5, pv_5, pi_6, pl_6, pv_10, pi_7, pl_7, pv_11, pi_8, pl_8, pv_12, pi_9, pl_9, pv_13, pi_10, pl_10, pv_14, pi_11, pl_11, pv_15, pv_20, wi_0, wi_1, wl_1, wv_14, wi_2, wl_2, wv_15, wi_3, wl_3, wv_16, wi_4, wl_4, wv_17, wi_5, wl_5, wv_18, wv_21, pt_P, pt_v, pt_w, pt_SI, pt_SL, kM_SI, kM_SL, lI_SL, lV_SL, lK_SL, lN_SL, lL_SL, lIs_SL, nI_SI, nV_SI, nK_SI, nN_SI, nL_SI, nIs_SI, pp_c, pp_l, pp_r, pp_k, pp_k0, pp_j, pp_j0, isl]
  have qb : mI H 322 b = Int32.ofNat (E b) := by rw [gb2]; unfold e2i; rw [if_pos (by omega)]
  have nb : ¬ Int32.ofNat (E b) = -1 := by
    have := e2i_1 (e := E b) (by omega)
    unfold e2i at this; rw [if_pos (by omega)] at this
    rw [this]; exact c2
  by_cases c3 : E b ≤ E a + w
  · have c3' : Int32.ofNat (E b) ≤ Int32.ofNat (E a + w) := by rw [i_ofle (by omega) (by omega)]; exact c3
    have c4 := eq_true c3'
    have nn : ¬ (opE (cOpen cl s) b = true ∧ E a + w < E b) := by rintro ⟨_, z⟩; omega
    refine ⟨H, mo, some (.int (Int32.ofNat a)), some (.int (Int32.ofNat b)), some (.int (Int32.ofNat (E a + w))), ?_, F, ?_, ?_⟩
    rotate_left
    · unfold rE; rw [if_neg nn]; exact fR_mono g (by omega)
    · rw [decide_eq_false nn, Bool.or_false]
    rw [x_162_29]
    simp (maxDischargeDepth := 60) only [hk, x_162_0, x_162_1, x_162_4, x_162_5, x_162_8, x_162_9, x_162_12, x_162_13, x_162_14, x_162_15, x_162_16, x_162_20, x_162_23, x_162_24, x_162_26, x_162_27, x_162_31, x_162_32, x_162_33, x_162_36, x_162_39, x_162_40, x_162_43, x_162_44, x_162_47, x_162_50, x_162_51, x_162_53, x_162_54, x_162_55, x_162_56, x_162_58, x_162_59, x_162_60, x_162_61, x_162_62, x_162_64, x_162_65, x_162_68, x_162_71, x_162_72, x_162_74, x_162_75, x_162_76, x_162_77, x_162_78, x_162_79, x_162_81, x_162_82, x_162_83, x_162_84, x_162_85, x_162_87, x_162_88, x_162_91, x_162_93, x_162_94, x_162_95, x_162_98, x_162_101, x_162_102, x_162_104, x_162_105, x_162_106, x_162_107, x_162_108, x_162_109, x_162_110, x_162_111, x_162_113, x_162_114, x_162_117, x_162_119, x_162_120, x_162_121, x_162_124, x_162_125, x_162_128, x_162_130, x_162_131, x_162_132, x_162_135, x_162_136, x_162_139, x_162_141, x_162_142, x_162_144, x_162_148, x_162_150, x_162_151, x_162_154, x_162_157, x_162_160, x_162_161, x_162_164, x_162_166, x_162_168, x_162_169, x_162_170, x_162_172, x_162_175, x_162_178, x_162_181, x_162_182, x_162_185, x_162_186, x_162_187, hkH, ept, hp, nd', c0, d1, d2, d3, d4, d5, i_addof, i_succ, x1, y1, x2, y2, x3, y3, s1', s2', s3', xa, ya, xb, yb, t2, qa, qb, na, nb, c4, Option.bind_some, mAft_n, mAft_v, mAft_x, mS_n, mS_i, mS_r, mS_l, mS_d, ne_eq, not_false_eq_true, not_true_eq_false, true_or, or_true, and_true, true_and, if_true, if_false, ite_true, ite_false, reduceIte, Nat.reduceAdd, Nat.reduceLeDiff, Nat.reduceEqDiff, false_and, and_false, or_false, false_or, eq_self, reduceCtorEq, mi_316, mi_317, ml_317, mi_318, ml_318, mi_319, ml_319, mi_320, ml_320, mi_321, ml_321, mi_322, ml_322, mi_359, ml_359, mv_316_1, mv_316_4, mv_316_7, mv_316_8, mv_316_9, mv_316_10, mv_316_13, mv_316_14, mv_316_15, pi_0, pi_1, pl_1, pv_1, pi_2, pl_2, pv_2, pi_3, pl_3, pv_3, pi_4, pl_4, pv_4, pi_5, pl_5, pv_5, pi_6, pl_6, pv_10, pi_7, pl_7, pv_11, pi_8, pl_8, pv_12, pi_9, pl_9, pv_13, pi_10, pl_10, pv_14, pi_11, pl_11, pv_15, pv_20, wi_0, wi_1, wl_1, wv_14, wi_2, wl_2, wv_15, wi_3, wl_3, wv_16, wi_4, wl_4, wv_17, wi_5, wl_5, wv_18, wv_21, pt_P, pt_v, pt_w, pt_SI, pt_SL, kM_SI, kM_SL, lI_SL, lV_SL, lK_SL, lN_SL, lL_SL, lIs_SL, nI_SI, nV_SI, nK_SI, nN_SI, nL_SI, nIs_SI, pp_c, pp_l, pp_r, pp_k, pp_k0, pp_j, pp_j0, isl]
  · have c4 : ¬ Int32.ofNat (E b) ≤ Int32.ofNat (E a + w) := by rw [i_ofle (by omega) (by omega)]; exact c3
    refine done (by omega) (fun _ => rfl) ?_
    rw [x_162_29]
    simp (maxDischargeDepth := 60) only [hk, x_162_0, x_162_1, x_162_4, x_162_5, x_162_8, x_162_9, x_162_12, x_162_13, x_162_14, x_162_15, x_162_16, x_162_20, x_162_23, x_162_24, x_162_26, x_162_27, x_162_31, x_162_32, x_162_33, x_162_36, x_162_39, x_162_40, x_162_43, x_162_44, x_162_47, x_162_50, x_162_51, x_162_53, x_162_54, x_162_55, x_162_56, x_162_58, x_162_59, x_162_60, x_162_61, x_162_62, x_162_64, x_162_65, x_162_68, x_162_71, x_162_72, x_162_74, x_162_75, x_162_76, x_162_77, x_162_78, x_162_79, x_162_81, x_162_82, x_162_83, x_162_84, x_162_85, x_162_87, x_162_88, x_162_91, x_162_93, x_162_94, x_162_95, x_162_98, x_162_101, x_162_102, x_162_104, x_162_105, x_162_106, x_162_107, x_162_108, x_162_109, x_162_110, x_162_111, x_162_113, x_162_114, x_162_117, x_162_119, x_162_120, x_162_121, x_162_124, x_162_125, x_162_128, x_162_130, x_162_131, x_162_132, x_162_135, x_162_136, x_162_139, x_162_141, x_162_142, x_162_144, x_162_148, x_162_150, x_162_151, x_162_154, x_162_157, x_162_160, x_162_161, x_162_164, x_162_166, x_162_168, x_162_169, x_162_170, x_162_172, x_162_175, x_162_178, x_162_181, x_162_182, x_162_185, x_162_186, x_162_187, hkH, ept, hp, nd', c0, d1, d2, d3, d4, d5, i_addof, i_succ, x1, y1, x2, y2, x3, y3, s1', s2', s3', xa, ya, xb, yb, t2, qa, qb, na, nb, c4, Option.bind_some, mAft_n, mAft_v, mAft_x, mS_n, mS_i, mS_r, mS_l, mS_d, ne_eq, not_false_eq_true, not_true_eq_false, true_or, or_true, and_true, true_and, if_true, if_false, ite_true, ite_false, reduceIte, Nat.reduceAdd, Nat.reduceLeDiff, Nat.reduceEqDiff, false_and, and_false, or_false, false_or, eq_self, reduceCtorEq, mi_316, mi_317, ml_317, mi_318, ml_318, mi_319, ml_319, mi_320, ml_320, mi_321, ml_321, mi_322, ml_322, mi_359, ml_359, mv_316_1, mv_316_4, mv_316_7, mv_316_8, mv_316_9, mv_316_10, mv_316_13, mv_316_14, mv_316_15, pi_0, pi_1, pl_1, pv_1, pi_2, pl_2, pv_2, pi_3, pl_3, pv_3, pi_4, pl_4, pv_4, pi_5, pl_5, pv_5, pi_6, pl_6, pv_10, pi_7, pl_7, pv_11, pi_8, pl_8, pv_12, pi_9, pl_9, pv_13, pi_10, pl_10, pv_14, pi_11, pl_11, pv_15, pv_20, wi_0, wi_1, wl_1, wv_14, wi_2, wl_2, wv_15, wi_3, wl_3, wv_16, wi_4, wl_4, wv_17, wi_5, wl_5, wv_18, wv_21, pt_P, pt_v, pt_w, pt_SI, pt_SL, kM_SI, kM_SL, lI_SL, lV_SL, lK_SL, lN_SL, lL_SL, lIs_SL, nI_SI, nV_SI, nK_SI, nN_SI, nL_SI, nIs_SI, pp_c, pp_l, pp_r, pp_k, pp_k0, pp_j, pp_j0, isl]
theorem w_rnd {d t f to : Nat} {s : Int32} {cl : List CL} {dn : List NS} {h : mH} (hk : kM h) (ht : pt h = t) (md : mDo h t dn) (mc : mClo h cl) (h12 : cl12 cl) : ∀ (n k m : Nat) (E : Nat → Nat) (mo : Bool) (H : mH) (l6 l7 l8 : Option Value), k + n = 2 * dn.length → m + 200 * n < eI → Fr [322] h H → fR H E m →
    ∃ H' mo' l6' l7' l8', mExec (mCall (d + 1)) 162 29 [some (.ref 316), some (.int (Int32.ofNat f)), some (.int (Int32.ofNat to)), some (.int s), some (.int (bz mo)), some (.int (Int32.ofNat k)), l6, l7, l8] [] H = mExec (mCall (d + 1)) 162 18 [some (.ref 316), some (.int (Int32.ofNat f)), some (.int (Int32.ofNat to)), some (.int s), some (.int (bz mo')), some (.int (Int32.ofNat (2 * dn.length))), l6', l7', l8'] [] H' ∧ Fr [322] h H' ∧ fR H' (((sidesN dn).drop k).foldl (rE (opE (cOpen cl s))) E) (m + 200 * n) ∧ (mo' = true ↔ mo = true ∨ ¬ ((sidesN dn).drop k).foldl (rE (opE (cOpen cl s))) E = E) := by
  intro n
  induction n with
  | zero =>
    intro k m E mo H l6 l7 l8 e hm F g
    have hl := sidesN_len dn
    have hkH := kM_Fr' F hk
    have ept : pt H = t := (pt_Fr F).trans ht
    have hp : isP t := by rw [← ht]; exact pt_P hk
    have n0 : t ∉ [322] := by intro z; simp only [List.mem_cons, List.not_mem_nil, or_false] at z; rcases hp with rfl | rfl <;> omega
    have nd' : mI H t 7 = Int32.ofNat dn.length := (Fr_I F n0).trans md.1
    have nd24 := md.2.1
    have c0 := eq_true (show (2 : Int32) * Int32.ofNat dn.length ≤ Int32.ofNat k by rw [show (2 : Int32) = Int32.ofNat 2 from rfl, i_mulof, i_ofle (by omega) (by omega)]; omega)
    rw [List.drop_eq_nil_of_le (by omega)]
    refine ⟨H, mo, l6, l7, l8, ?_, F, fR_mono g (by omega), by simp⟩
    have ek : 2 * dn.length = k := by omega
    rw [x_162_29, ek]
    simp (maxDischargeDepth := 60) only [hk, x_162_0, x_162_1, x_162_4, x_162_5, x_162_8, x_162_9, x_162_12, x_162_13, x_162_14, x_162_15, x_162_16, x_162_20, x_162_23, x_162_24, x_162_26, x_162_27, x_162_31, x_162_32, x_162_33, x_162_36, x_162_39, x_162_40, x_162_43, x_162_44, x_162_47, x_162_50, x_162_51, x_162_53, x_162_54, x_162_55, x_162_56, x_162_58, x_162_59, x_162_60, x_162_61, x_162_62, x_162_64, x_162_65, x_162_68, x_162_71, x_162_72, x_162_74, x_162_75, x_162_76, x_162_77, x_162_78, x_162_79, x_162_81, x_162_82, x_162_83, x_162_84, x_162_85, x_162_87, x_162_88, x_162_91, x_162_93, x_162_94, x_162_95, x_162_98, x_162_101, x_162_102, x_162_104, x_162_105, x_162_106, x_162_107, x_162_108, x_162_109, x_162_110, x_162_111, x_162_113, x_162_114, x_162_117, x_162_119, x_162_120, x_162_121, x_162_124, x_162_125, x_162_128, x_162_130, x_162_131, x_162_132, x_162_135, x_162_136, x_162_139, x_162_141, x_162_142, x_162_144, x_162_147, x_162_148, x_162_150, x_162_151, x_162_154, x_162_157, x_162_160, x_162_161, x_162_164, x_162_166, x_162_168, x_162_169, x_162_170, x_162_172, x_162_175, x_162_178, x_162_181, x_162_182, x_162_185, x_162_186, x_162_187, hkH, ept, hp, nd', c0, Option.bind_some, mAft_n, mAft_v, mAft_x, mS_n, mS_i, mS_r, mS_l, mS_d, ne_eq, not_false_eq_true, not_true_eq_false, true_or, or_true, and_true, true_and, if_true, if_false, ite_true, ite_false, reduceIte, Nat.reduceAdd, Nat.reduceLeDiff, Nat.reduceEqDiff, false_and, and_false, or_false, false_or, eq_self, reduceCtorEq, mi_316, mi_317, ml_317, mi_318, ml_318, mi_319, ml_319, mi_320, ml_320, mi_321, ml_321, mi_322, ml_322, mi_359, ml_359, mv_316_1, mv_316_4, mv_316_7, mv_316_8, mv_316_9, mv_316_10, mv_316_13, mv_316_14, mv_316_15, pi_0, pi_1, pl_1, pv_1, pi_2, pl_2, pv_2, pi_3, pl_3, pv_3, pi_4, pl_4, pv_4, pi_5, pl_5, pv_5, pi_6, pl_6, pv_10, pi_7, pl_7, pv_11, pi_8, pl_8, pv_12, pi_9, pl_9, pv_13, pi_10, pl_10, pv_14, pi_11, pl_11, pv_15, pv_20, wi_0, wi_1, wl_1, wv_14, wi_2, wl_2, wv_15, wi_3, wl_3, wv_16, wi_4, wl_4, wv_17, wi_5, wl_5, wv_18, wv_21, pt_P, pt_v, pt_w, pt_SI, pt_SL, kM_SI, kM_SL, lI_SL, lV_SL, lK_SL, lN_SL, lL_SL, lIs_SL, nI_SI, nV_SI, nK_SI, nN_SI, nL_SI, nIs_SI, pp_c, pp_l, pp_r, pp_k, pp_k0, pp_j, pp_j0, isl]
  | succ n ih =>
    intro k m E mo H l6 l7 l8 e hm F g
    have hl := sidesN_len dn
    obtain ⟨H1, mo1, a6, a7, a8, b1, b2, b3, b4⟩ := w_one (d := d) (f := f) (to := to) (s := s) (l6 := l6) (l7 := l7) (l8 := l8) (mo := mo) hk ht md mc h12 (by omega) (show k < 2 * dn.length by omega) F g
    obtain ⟨H2, mo2, p6, p7, p8, e1, e2, e3, e4⟩ := ih (k + 1) (m + 200) _ mo1 H1 a6 a7 a8 (by omega) (by omega) b2 b3
    have ed : (sidesN dn).drop k = (sidesN dn).getD k (0, 0, 0) :: (sidesN dn).drop (k + 1) := by
      rw [List.drop_eq_getElem_cons (by omega), List.getD_eq_getElem?_getD, List.getElem?_eq_getElem (by omega)]; rfl
    rw [ed, List.foldl_cons, b1, e1]
    refine ⟨H2, mo2, p6, p7, p8, rfl, e2, fR_mono e3 (by omega), ?_⟩
    rw [e4, b4]
    generalize (sidesN dn).getD k (0, 0, 0) = q at *
    generalize (sidesN dn).drop (k + 1) = xs at *
    by_cases c : opE (cOpen cl s) q.2.1 = true ∧ E q.1 + q.2.2 < E q.2.1
    · have : ¬ xs.foldl (rE (opE (cOpen cl s))) (rE (opE (cOpen cl s)) E q) = E := by
        intro z
        have a := fE_le (op := opE (cOpen cl s)) xs (rE (opE (cOpen cl s)) E q) q.2.1
        rw [z] at a
        have b : rE (opE (cOpen cl s)) E q q.2.1 = E q.1 + q.2.2 := by unfold rE; rw [if_pos c]; show (if _ then _ else _) = _; rw [if_pos rfl]
        omega
      simp [c, this]
    · have e0 : rE (opE (cOpen cl s)) E q = E := by unfold rE; rw [if_neg c]
      rw [e0]
      simp [c]
theorem m_wayOf {d t f to : Nat} {s : Int32} {cl : List CL} {dn : List NS} {h : mH} (hk : kM h) (ht : pt h = t) (md : mDo h t dn) (mc : mClo h cl) (h12 : cl12 cl) (hf : f < 12) (hto : to < 12) :
    ∃ H, mCall (d + 2) 162 [.ref 316, .int (Int32.ofNat f), .int (Int32.ofNat to), .int s] h = some (.inl (some (.int (wD dn (cOpen cl s) f to))), H) ∧ Fr [322] h H := by
  have hd := md.2.2.1
  have nd24 := md.2.1
  have hd2 := sidesN_ok dn hd
  have hl := sidesN_len dn
  have h12' : ∀ x, x ∈ sidesN dn → x.1 < 12 ∧ x.2.1 < 12 ∧ 1 ≤ x.2.2 := fun x hx => ⟨(hd2 x hx).1, (hd2 x hx).2.1, (hd2 x hx).2.2.1⟩
  have eIv : eI = 1000000 := rfl
  have fix := dE_11 (op := opE (cOpen cl s)) (sd := sidesN dn) hf h12'
  have lp : ∀ (n j : Nat) (mo : Bool) (H : mH) (l5 l6 l7 l8 : Option Value), j + n = 12 → Fr [322] h H → fR H (itE (opE (cOpen cl s)) (sidesN dn) j (E0 f)) (9600 * j) → (mo = true → j ≤ 11) → (mo = false → rdE (opE (cOpen cl s)) (sidesN dn) (itE (opE (cOpen cl s)) (sidesN dn) j (E0 f)) = itE (opE (cOpen cl s)) (sidesN dn) j (E0 f)) →
      ∃ H', mExec (mCall (d + 1)) 162 18 [some (.ref 316), some (.int (Int32.ofNat f)), some (.int (Int32.ofNat to)), some (.int s), some (.int (bz mo)), l5, l6, l7, l8] [] H = some (.inl (some (.int (wD dn (cOpen cl s) f to))), H') ∧ Fr [322] h H' := by
    have fin : ∀ (j : Nat) (H : mH) (l5 l6 l7 l8 : Option Value), j ≤ 12 → Fr [322] h H → fR H (itE (opE (cOpen cl s)) (sidesN dn) j (E0 f)) (9600 * j) → rdE (opE (cOpen cl s)) (sidesN dn) (itE (opE (cOpen cl s)) (sidesN dn) j (E0 f)) = itE (opE (cOpen cl s)) (sidesN dn) j (E0 f) → mExec (mCall (d + 1)) 162 18 [some (.ref 316), some (.int (Int32.ofNat f)), some (.int (Int32.ofNat to)), some (.int s), some (.int 0), l5, l6, l7, l8] [] H = some (.inl (some (.int (wD dn (cOpen cl s) f to))), H) := by
      intro j H l5 l6 l7 l8 hj F g st
      have hkH := kM_Fr' F hk
      have e11 : itE (opE (cOpen cl s)) (sidesN dn) j (E0 f) = itE (opE (cOpen cl s)) (sidesN dn) 11 (E0 f) := by
        by_cases c : j ≤ 11
        · rw [show 11 = j + (11 - j) by omega, itE_add, itE_fix st]
        · rw [show j = 11 + 1 by omega, itE_succ, fix]
      have g2 := (g to hto).2
      rw [e11] at g2
      have xb : mIn (Int32.ofNat to) 12 = true := i_in (by rw [i_of_i (by omega)]; omega) (by rw [i_of_i (by omega)]; omega)
      have yb : (Int32.ofNat to).toNatClampNeg = to := i_of_n (by omega)
      unfold wD
      rw [x_162_18]
      simp (maxDischargeDepth := 60) only [hk, x_162_0, x_162_1, x_162_4, x_162_5, x_162_8, x_162_9, x_162_12, x_162_13, x_162_14, x_162_15, x_162_16, x_162_20, x_162_23, x_162_24, x_162_26, x_162_27, x_162_31, x_162_32, x_162_33, x_162_36, x_162_39, x_162_40, x_162_43, x_162_44, x_162_47, x_162_50, x_162_51, x_162_53, x_162_54, x_162_55, x_162_56, x_162_58, x_162_59, x_162_60, x_162_61, x_162_62, x_162_64, x_162_65, x_162_68, x_162_71, x_162_72, x_162_74, x_162_75, x_162_76, x_162_77, x_162_78, x_162_79, x_162_81, x_162_82, x_162_83, x_162_84, x_162_85, x_162_87, x_162_88, x_162_91, x_162_93, x_162_94, x_162_95, x_162_98, x_162_101, x_162_102, x_162_104, x_162_105, x_162_106, x_162_107, x_162_108, x_162_109, x_162_110, x_162_111, x_162_113, x_162_114, x_162_117, x_162_119, x_162_120, x_162_121, x_162_124, x_162_125, x_162_128, x_162_130, x_162_131, x_162_132, x_162_135, x_162_136, x_162_139, x_162_141, x_162_142, x_162_144, x_162_147, x_162_148, x_162_150, x_162_151, x_162_154, x_162_157, x_162_160, x_162_161, x_162_164, x_162_166, x_162_168, x_162_169, x_162_170, x_162_172, x_162_175, x_162_178, x_162_181, x_162_182, x_162_185, x_162_186, x_162_187, hkH, xb, yb, g2, Option.bind_some, mAft_n, mAft_v, mAft_x, mS_n, mS_i, mS_r, mS_l, mS_d, ne_eq, not_false_eq_true, not_true_eq_false, true_or, or_true, and_true, true_and, if_true, if_false, ite_true, ite_false, reduceIte, Nat.reduceAdd, Nat.reduceLeDiff, Nat.reduceEqDiff, false_and, and_false, or_false, false_or, eq_self, reduceCtorEq, mi_316, mi_317, ml_317, mi_318, ml_318, mi_319, ml_319, mi_320, ml_320, mi_321, ml_321, mi_322, ml_322, mi_359, ml_359, mv_316_1, mv_316_4, mv_316_7, mv_316_8, mv_316_9, mv_316_10, mv_316_13, mv_316_14, mv_316_15, pi_0, pi_1, pl_1, pv_1, pi_2, pl_2, pv_2, pi_3, pl_3, pv_3, pi_4, pl_4, pv_4, pi_5, pl_5, pv_5, pi_6, pl_6, pv_10, pi_7, pl_7, pv_11, pi_8, pl_8, pv_12, pi_9, pl_9, pv_13, pi_10, pl_10, pv_14, pi_11, pl_11, pv_15, pv_20, wi_0, wi_1, wl_1, wv_14, wi_2, wl_2, wv_15, wi_3, wl_3, wv_16, wi_4, wl_4, wv_17, wi_5, wl_5, wv_18, wv_21, pt_P, pt_v, pt_w, pt_SI, pt_SL, kM_SI, kM_SL, lI_SL, lV_SL, lK_SL, lN_SL, lL_SL, lIs_SL, nI_SI, nV_SI, nK_SI, nN_SI, nL_SI, nIs_SI, pp_c, pp_l, pp_r, pp_k, pp_k0, pp_j, pp_j0, isl]
    intro n
    induction n with
    | zero =>
      intro j mo H l5 l6 l7 l8 e F g h1 h2
      have : mo = false := by cases mo; rfl; have := h1 rfl; omega
      subst this
      exact ⟨H, fin j H l5 l6 l7 l8 (by omega) F g (h2 rfl), F⟩
    | succ n ih =>
      intro j mo H l5 l6 l7 l8 e F g h1 h2
      cases mo
      · exact ⟨H, fin j H l5 l6 l7 l8 (by omega) F g (h2 rfl), F⟩
      · have hj := h1 rfl
        obtain ⟨H1, mo1, a6, a7, a8, b1, b2, b3, b4⟩ := w_rnd (d := d) (f := f) (to := to) (s := s) hk ht md mc h12 (2 * dn.length) 0 (9600 * j) (itE (opE (cOpen cl s)) (sidesN dn) j (E0 f)) false H l6 l7 l8 (by omega) (by omega) F g
        rw [List.drop_zero] at b3 b4
        have n10 : ¬ (1 : Int32) = 0 := by decide
        have st : mExec (mCall (d + 1)) 162 18 [some (.ref 316), some (.int (Int32.ofNat f)), some (.int (Int32.ofNat to)), some (.int s), some (.int (bz true)), l5, l6, l7, l8] [] H = mExec (mCall (d + 1)) 162 29 [some (.ref 316), some (.int (Int32.ofNat f)), some (.int (Int32.ofNat to)), some (.int s), some (.int (bz false)), some (.int (Int32.ofNat 0)), l6, l7, l8] [] H := by
          show mExec (mCall (d + 1)) 162 18 [some (.ref 316), some (.int (Int32.ofNat f)), some (.int (Int32.ofNat to)), some (.int s), some (.int 1), l5, l6, l7, l8] [] H = _
          rw [x_162_18]
          simp (maxDischargeDepth := 60) only [hk, x_162_0, x_162_1, x_162_4, x_162_5, x_162_8, x_162_9, x_162_12, x_162_13, x_162_14, x_162_15, x_162_16, x_162_20, x_162_23, x_162_24, x_162_26, x_162_27, x_162_31, x_162_32, x_162_33, x_162_36, x_162_39, x_162_40, x_162_43, x_162_44, x_162_47, x_162_50, x_162_51, x_162_53, x_162_54, x_162_55, x_162_56, x_162_58, x_162_59, x_162_60, x_162_61, x_162_62, x_162_64, x_162_65, x_162_68, x_162_71, x_162_72, x_162_74, x_162_75, x_162_76, x_162_77, x_162_78, x_162_79, x_162_81, x_162_82, x_162_83, x_162_84, x_162_85, x_162_87, x_162_88, x_162_91, x_162_93, x_162_94, x_162_95, x_162_98, x_162_101, x_162_102, x_162_104, x_162_105, x_162_106, x_162_107, x_162_108, x_162_109, x_162_110, x_162_111, x_162_113, x_162_114, x_162_117, x_162_119, x_162_120, x_162_121, x_162_124, x_162_125, x_162_128, x_162_130, x_162_131, x_162_132, x_162_135, x_162_136, x_162_139, x_162_141, x_162_142, x_162_144, x_162_147, x_162_148, x_162_150, x_162_151, x_162_154, x_162_157, x_162_160, x_162_161, x_162_164, x_162_166, x_162_168, x_162_169, x_162_170, x_162_172, x_162_175, x_162_178, x_162_181, x_162_182, x_162_185, x_162_186, x_162_187, n10, Option.bind_some, mAft_n, mAft_v, mAft_x, mS_n, mS_i, mS_r, mS_l, mS_d, ne_eq, not_false_eq_true, not_true_eq_false, true_or, or_true, and_true, true_and, if_true, if_false, ite_true, ite_false, reduceIte, Nat.reduceAdd, Nat.reduceLeDiff, Nat.reduceEqDiff, false_and, and_false, or_false, false_or, eq_self, reduceCtorEq, mi_316, mi_317, ml_317, mi_318, ml_318, mi_319, ml_319, mi_320, ml_320, mi_321, ml_321, mi_322, ml_322, mi_359, ml_359, mv_316_1, mv_316_4, mv_316_7, mv_316_8, mv_316_9, mv_316_10, mv_316_13, mv_316_14, mv_316_15, pi_0, pi_1, pl_1, pv_1, pi_2, pl_2, pv_2, pi_3, pl_3, pv_3, pi_4, pl_4, pv_4, pi_5, pl_5, pv_5, pi_6, pl_6, pv_10, pi_7, pl_7, pv_11, pi_8, pl_8, pv_12, pi_9, pl_9, pv_13, pi_10, pl_10, pv_14, pi_11, pl_11, pv_15, pv_20, wi_0, wi_1, wl_1, wv_14, wi_2, wl_2, wv_15, wi_3, wl_3, wv_16, wi_4, wl_4, wv_17, wi_5, wl_5, wv_18, wv_21, pt_P, pt_v, pt_w, pt_SI, pt_SL, kM_SI, kM_SL, lI_SL, lV_SL, lK_SL, lN_SL, lL_SL, lIs_SL, nI_SI, nV_SI, nK_SI, nN_SI, nL_SI, nIs_SI, pp_c, pp_l, pp_r, pp_k, pp_k0, pp_j, pp_j0, isl]
          rfl
        have e1 : itE (opE (cOpen cl s)) (sidesN dn) (j + 1) (E0 f) = (sidesN dn).foldl (rE (opE (cOpen cl s))) (itE (opE (cOpen cl s)) (sidesN dn) j (E0 f)) := itE_succ
        rw [st, b1]
        have m1 : mo1 = true ↔ ¬ rdE (opE (cOpen cl s)) (sidesN dn) (itE (opE (cOpen cl s)) (sidesN dn) j (E0 f)) = itE (opE (cOpen cl s)) (sidesN dn) j (E0 f) := by
          rw [b4]; unfold rdE; simp
        refine ih (j + 1) mo1 H1 _ a6 a7 a8 (by omega) b2 ?_ ?_ ?_
        · rw [e1]; exact fR_mono b3 (by omega)
        · intro z
          have := m1.mp z
          by_cases c : j = 11
          · rw [c] at this; exact absurd fix this
          · omega
        · intro z
          have y : rdE (opE (cOpen cl s)) (sidesN dn) (itE (opE (cOpen cl s)) (sidesN dn) j (E0 f)) = itE (opE (cOpen cl s)) (sidesN dn) j (E0 f) := Classical.byContradiction (fun q => by rw [m1.mpr q] at z; cases z)
          rw [itE_succ, y, y]
  obtain ⟨H0, a1, a2, a3⟩ := m_fill (d := d) (a := 322) (n := 12) (x := -1) (h := h) (mi_322 hk) (ml_322 hk) (by omega)
  have hk0 := kM_Fr' a2 hk
  have xf : mIn (Int32.ofNat f) 12 = true := i_in (by rw [i_of_i (by omega)]; omega) (by rw [i_of_i (by omega)]; omega)
  have yf : (Int32.ofNat f).toNatClampNeg = f := i_of_n (by omega)
  have g0 : fR (mSI H0 322 f 0) (E0 f) 0 := by
    intro r hr
    unfold E0
    rw [nI_SI]
    by_cases c : r = f
    · rw [if_pos c, if_pos ⟨rfl, c⟩]; exact ⟨Or.inl (Nat.le_refl 0), rfl⟩
    · rw [if_neg c, if_neg (fun z => c z.2), a3 r hr]; exact ⟨Or.inr rfl, rfl⟩
  obtain ⟨H', e1, e2⟩ := lp 12 0 true (mSI H0 322 f 0) none none none none (by omega) (Fr_1 a2 (by simp)) g0 (fun _ => by omega) (fun z => by cases z)
  refine ⟨H', ?_, e2⟩
  rw [← e1]
  simp (maxDischargeDepth := 60) only [hk, x_162_0, x_162_1, x_162_4, x_162_5, x_162_8, x_162_9, x_162_12, x_162_13, x_162_14, x_162_15, x_162_16, x_162_20, x_162_23, x_162_24, x_162_26, x_162_27, x_162_29, x_162_31, x_162_32, x_162_33, x_162_36, x_162_39, x_162_40, x_162_43, x_162_44, x_162_47, x_162_50, x_162_51, x_162_53, x_162_54, x_162_55, x_162_56, x_162_58, x_162_59, x_162_60, x_162_61, x_162_62, x_162_64, x_162_65, x_162_68, x_162_71, x_162_72, x_162_74, x_162_75, x_162_76, x_162_77, x_162_78, x_162_79, x_162_81, x_162_82, x_162_83, x_162_84, x_162_85, x_162_87, x_162_88, x_162_91, x_162_93, x_162_94, x_162_95, x_162_98, x_162_101, x_162_102, x_162_104, x_162_105, x_162_106, x_162_107, x_162_108, x_162_109, x_162_110, x_162_111, x_162_113, x_162_114, x_162_117, x_162_119, x_162_120, x_162_121, x_162_124, x_162_125, x_162_128, x_162_130, x_162_131, x_162_132, x_162_135, x_162_136, x_162_139, x_162_141, x_162_142, x_162_144, x_162_147, x_162_148, x_162_150, x_162_151, x_162_154, x_162_157, x_162_160, x_162_161, x_162_164, x_162_166, x_162_168, x_162_169, x_162_170, x_162_172, x_162_175, x_162_178, x_162_181, x_162_182, x_162_185, x_162_186, x_162_187, c_162, a1, hk0, xf, yf, Option.bind_some, mAft_n, mAft_v, mAft_x, mS_n, mS_i, mS_r, mS_l, mS_d, ne_eq, not_false_eq_true, not_true_eq_false, true_or, or_true, and_true, true_and, if_true, if_false, ite_true, ite_false, reduceIte, Nat.reduceAdd, Nat.reduceLeDiff, Nat.reduceEqDiff, false_and, and_false, or_false, false_or, eq_self, reduceCtorEq, mi_316, mi_317, ml_317, mi_318, ml_318, mi_319, ml_319, mi_320, ml_320, mi_321, ml_321, mi_322, ml_322, mi_359, ml_359, mv_316_1, mv_316_4, mv_316_7, mv_316_8, mv_316_9, mv_316_10, mv_316_13, mv_316_14, mv_316_15, pi_0, pi_1, pl_1, pv_1, pi_2, pl_2, pv_2, pi_3, pl_3, pv_3, pi_4, pl_4, pv_4, pi_5, pl_5, pv_5, pi_6, pl_6, pv_10, pi_7, pl_7, pv_11, pi_8, pl_8, pv_12, pi_9, pl_9, pv_13, pi_10, pl_10, pv_14, pi_11, pl_11, pv_15, pv_20, wi_0, wi_1, wl_1, wv_14, wi_2, wl_2, wv_15, wi_3, wl_3, wv_16, wi_4, wl_4, wv_17, wi_5, wl_5, wv_18, wv_21, pt_P, pt_v, pt_w, pt_SI, pt_SL, kM_SI, kM_SL, lI_SL, lV_SL, lK_SL, lN_SL, lL_SL, lIs_SL, nI_SI, nV_SI, nK_SI, nN_SI, nL_SI, nIs_SI, pp_c, pp_l, pp_r, pp_k, pp_k0, pp_j, pp_j0, isl]
  rfl
