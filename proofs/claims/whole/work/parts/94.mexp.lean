/-! THE REFERENCE'S VISIT: VALUES -/
/-- an instruction's operand, once what it waits for is known -/
def eo (V : Nat → Int32) (ci : CI) : Int32 := if ci.2.2 = 0 then ci.2.1 else V (ci.2.2 - 1)
def exI (K : VK) (cl : List CL) (S : VS) (V : Nat → Int32) (vs : List Int32) (ci : CI) : List Int32 :=
  if 26 ≤ ci.1 then la 80 (pl (pl vs)) (bz (hO ci.1 (pv (pl vs)) (pv vs)))
  else if 20 ≤ ci.1 then la 80 (pl (pl vs)) (rO ci.1 (pv (pl vs)) (pv vs))
  else la 80 (if ci.1 = 18 ∨ ci.1 = 19 then pl vs else vs) (vOp K cl ci.1 (eo V ci) vs S)
def exL (K : VK) (cl : List CL) (S : VS) (V : Nat → Int32) (c : List CI) (vs : List Int32) : List Int32 := c.foldl (exI K cl S V) vs
theorem exL_app {K : VK} {cl : List CL} {S : VS} {V : Nat → Int32} {c c' : List CI} {vs : List Int32} : exL K cl S V (c ++ c') vs = exL K cl S V c' (exL K cl S V c vs) := List.foldl_append
theorem la_ok {n : Nat} {l : List Int32} {x : Int32} (h : l.length < n) : la n l x = l ++ [x] := by unfold la; rw [if_pos h]
theorem ex_v {K : VK} {cl : List CL} {S : VS} {V : Nat → Int32} {vs : List Int32} {ci : CI} (h1 : ¬ 26 ≤ ci.1) (h2 : ¬ 20 ≤ ci.1) (h3 : ¬ (ci.1 = 18 ∨ ci.1 = 19)) (hl : vs.length + 1 ≤ 80) : exI K cl S V vs ci = vs ++ [vOp K cl ci.1 (eo V ci) vs S] := by
  unfold exI
  rw [if_neg h1, if_neg h2, if_neg h3, la_ok (by omega)]
theorem ex_u {K : VK} {cl : List CL} {S : VS} {V : Nat → Int32} {vs : List Int32} {x : Int32} (hl : vs.length + 1 ≤ 80) : exI K cl S V (vs ++ [x]) (18, 0, 0) = vs ++ [-x] ∧ exI K cl S V (vs ++ [x]) (19, 0, 0) = vs ++ [1 - x] := by
  constructor
  · unfold exI
    rw [if_neg (by decide), if_neg (by decide), if_pos (Or.inl rfl), (pv_app (show vs.length ≤ 100000 by omega)).2, la_ok (by omega)]
    show vs ++ [-(pv (vs ++ [x]))] = _
    rw [(pv_app (show vs.length ≤ 100000 by omega)).1]
  · unfold exI
    rw [if_neg (by decide), if_neg (by decide), if_pos (Or.inr rfl), (pv_app (show vs.length ≤ 100000 by omega)).2, la_ok (by omega)]
    show vs ++ [1 - pv (vs ++ [x])] = _
    rw [(pv_app (show vs.length ≤ 100000 by omega)).1]
theorem ex_b {K : VK} {cl : List CL} {S : VS} {V : Nat → Int32} {vs : List Int32} {x y op : Int32} (h1 : ¬ 26 ≤ op) (h2 : 20 ≤ op) (hl : vs.length + 2 ≤ 80) : exI K cl S V (vs ++ [x] ++ [y]) (op, 0, 0) = vs ++ [rO op x y] := by
  have l1 : (vs ++ [x]).length ≤ 100000 := by rw [List.length_append, List.length_cons, List.length_nil]; omega
  unfold exI
  rw [if_neg h1, if_pos h2, (pv_app l1).2, (pv_app (show vs.length ≤ 100000 by omega)).2, la_ok (by omega), (pv_app l1).1, (pv_app (show vs.length ≤ 100000 by omega)).1]
theorem ex_c {K : VK} {cl : List CL} {S : VS} {V : Nat → Int32} {vs : List Int32} {x y op : Int32} (h1 : 26 ≤ op) (hl : vs.length + 2 ≤ 80) : exI K cl S V (vs ++ [x] ++ [y]) (op, 0, 0) = vs ++ [bz (hO op x y)] := by
  have l1 : (vs ++ [x]).length ≤ 100000 := by rw [List.length_append, List.length_cons, List.length_nil]; omega
  unfold exI
  rw [if_pos h1, (pv_app l1).2, (pv_app (show vs.length ≤ 100000 by omega)).2, la_ok (by omega), (pv_app l1).1, (pv_app (show vs.length ≤ 100000 by omega)).1]
theorem SI_SI {h : mH} {a k : Nat} {x y : Int32} : mSI (mSI h a k x) a k y = mSI h a k y := by
  unfold mSI
  congr 1
  funext b j
  show (if b = a ∧ j = k then y else if b = a ∧ j = k then x else mI h b j) = if b = a ∧ j = k then y else mI h b j
  split <;> rfl
/-- the events' values, where a visit needs them -/
def evOK (V : Nat → Int32) (np : Nat) (e : List EVt) : Prop := ∀ ev, ev ∈ e → (ev.1 = 67 → ∃ q, q < 12 ∧ V ev.2.1 = Int32.ofNat q) ∧ (ev.1 = 68 → ∃ q, q < np ∧ V ev.2.1 = Int32.ofNat q)
theorem evOK_l {V : Nat → Int32} {np : Nat} {e e' : List EVt} (h : evOK V np (e ++ e')) : evOK V np e := fun ev hv => h ev (List.mem_append_left _ hv)
theorem evOK_r {V : Nat → Int32} {np : Nat} {e e' : List EVt} (h : evOK V np (e ++ e')) : evOK V np e' := fun ev hv => h ev (List.mem_append_right _ hv)
/-- what a visit stands on while it reads -/
def xS (h : mH) (v who : Nat) (lim : Int32) (S : VS) (cl : List CL) (dn : List NS) (ps : List PT) (vs : List (Int32 × Int32 × Int32)) (k : Nat → Nat) (n : Nat) (V : Nat → Int32) : Prop := wCx h cl dn ps vs ∧ isW v ∧ who < vs.length ∧ wS h v who lim S ∧ n ≤ 402 ∧ (∀ i, i < n → mI h (pt h + 1) i = kap (k i) ∧ mI h (pt h + 2) i = V i) ∧ (∀ i, k i < 50) ∧ ∀ i, ¬ k i = 0 → k i < 48 → i + 1 < n
/-- the method gives what the code gives -/
def RE (h : mH) (v : Nat) (K : VK) (cl : List CL) (S : VS) (V : Nat → Int32) (np n g D mid : Nat) (P : PA) : Prop := ∀ i b j c e, i < n → P i b = (j, some (c, e)) → evOK V np e → j < n ∧ ∃ x, (∀ vs, vs.length + g ≤ 80 → exL K cl S V c vs = vs ++ [x]) ∧ mCall D mid [.ref v] (mSI h v 20 (Int32.ofNat i)) = some (.inl (some (.int x)), mSI h v 20 (Int32.ofNat j))
theorem em_inv {op : Int32} {i b j : Nat} {c : List CI} {e : List EVt} (h : em op i b = (j, some (c, e))) : j = i ∧ c = [(op, 0, 0)] ∧ e = [] := by
  unfold em at h; cases h; exact ⟨rfl, rfl, rfl⟩
theorem ho_inv {k : Nat → Nat} {op : Int32} {nm r i b j : Nat} {c : List CI} {e : List EVt} (h : ho k op nm r i b = (j, some (c, e))) : k i = nm ∧ j = i + 1 ∧ c = [(op, 0, i + 1)] ∧ e = [(r, i, 0)] := by
  unfold ho at h
  split at h
  · rename_i q; cases h; exact ⟨q, rfl, rfl, rfl⟩
  · cases h
theorem vOp_11 {K : VK} {cl : List CL} {od : Int32} {us : List Int32} {S : VS} : vOp K cl 11 od us S = S.1 := by unfold vOp; rw [if_pos rfl]
theorem vOp_12 {K : VK} {cl : List CL} {od : Int32} {us : List Int32} {S : VS} : vOp K cl 12 od us S = K.2.2.2 - S.1 := by unfold vOp; rw [if_neg (by decide), if_pos rfl]
theorem vOp_13 {K : VK} {cl : List CL} {od : Int32} {us : List Int32} {S : VS} : vOp K cl 13 od us S = S.2.2.1 := by unfold vOp; rw [if_neg (by decide), if_neg (by decide), if_pos rfl]
theorem vOp_14 {K : VK} {cl : List CL} {od : Int32} {us : List Int32} {S : VS} : vOp K cl 14 od us S = K.1 := by unfold vOp; rw [if_neg (by decide), if_neg (by decide), if_neg (by decide), if_pos rfl]
theorem vOp_15 {K : VK} {cl : List CL} {od : Int32} {us : List Int32} {S : VS} : vOp K cl 15 od us S = S.2.2.2.2.1 := by unfold vOp; rw [if_neg (by decide), if_neg (by decide), if_neg (by decide), if_neg (by decide), if_pos rfl]
theorem vOp_16 {K : VK} {cl : List CL} {od : Int32} {us : List Int32} {S : VS} : vOp K cl 16 od us S = bz (bt S.2.2.2.1 od) := by unfold vOp; rw [if_neg (by decide), if_neg (by decide), if_neg (by decide), if_neg (by decide), if_neg (by decide), if_pos rfl]
theorem vOp_17 {K : VK} {cl : List CL} {od : Int32} {us : List Int32} {S : VS} : vOp K cl 17 od us S = bz (bt (cOpen cl S.1) od) := by unfold vOp; rw [if_neg (by decide), if_neg (by decide), if_neg (by decide), if_neg (by decide), if_neg (by decide), if_neg (by decide), if_pos rfl]
theorem vOp_10 {K : VK} {cl : List CL} {od : Int32} {us : List Int32} {S : VS} : vOp K cl 10 od us S = od := by unfold vOp; rw [if_neg (by decide), if_neg (by decide), if_neg (by decide), if_neg (by decide), if_neg (by decide), if_neg (by decide), if_neg (by decide), if_neg (by decide), if_neg (by decide)]
/-- one instruction that gives a value -/
theorem ex_w {K : VK} {cl : List CL} {S : VS} {V : Nat → Int32} {vs : List Int32} {op od x : Int32} {w : Nat} (h1 : ¬ 26 ≤ op) (h2 : ¬ 20 ≤ op) (h3 : ¬ (op = 18 ∨ op = 19)) (hx : vOp K cl op (eo V (op, od, w)) vs S = x) (hl : vs.length + 1 ≤ 80) : exL K cl S V [(op, od, w)] vs = vs ++ [x] := by
  rw [← hx]
  exact ex_v (ci := (op, od, w)) h1 h2 h3 hl
theorem xs_kd {h : mH} {v who : Nat} {lim : Int32} {S : VS} {cl : List CL} {dn : List NS} {ps : List PT} {vs : List (Int32 × Int32 × Int32)} {k : Nat → Nat} {n : Nat} {V : Nat → Int32} (m : xS h v who lim S cl dn ps vs k n V) {i c : Nat} (hi : i < n) (hc : k i = c) (x : Int32) (e : kap c = x) : mI h (pt h + 1) i = x := by
  rw [(m.2.2.2.2.2.1 i hi).1, hc, e]
/-- one: what is told as it stands -/
theorem e_leaf {D i j b : Nat} {c : List CI} {e : List EVt} {rc : Option PA} {h : mH} {v who : Nat} {lim : Int32} {S : VS} {cl : List CL} {dn : List NS} {ps : List PT} {vs : List (Int32 × Int32 × Int32)} {k : Nat → Nat} {n : Nat} {V : Nat → Int32} (m : xS h v who lim S cl dn ps vs k n V) (hi : i < n) (hp1 : pOneF k rc i b = (j, some (c, e))) (hlow : k i = 30 ∨ k i = 20 ∨ k i = 21 ∨ k i = 22 ∨ k i = 23 ∨ k i = 6) :
    j < n ∧ ∃ x, (∀ us, us.length + 1 ≤ 80 → exL (vKK vs (Int32.ofNat who) lim) cl S V c us = us ++ [x]) ∧ mCall (D + 1) 206 [.ref v] (mSI h v 20 (Int32.ofNat i)) = some (.inl (some (.int x)), mSI h v 20 (Int32.ofNat j)) := by
  have m0 := m
  obtain ⟨w, hv, hwh, ms, hn, tk', k50, knx⟩ := m
  obtain ⟨sec, room, ti, he, wo, st, re, mi, se, l⟩ := S
  obtain ⟨m1, m2, m3, m4, m5, m6, m7, m8, m9, m10, m11, m12, m13, m14, m15⟩ := ms
  have hk := w.1
  have hp := pt_P hk
  have hj : mIn (Int32.ofNat i) 402 = true := i_in (by rw [i_of_i (by omega)]; omega) (by rw [i_of_i (by omega)]; omega)
  have en : (Int32.ofNat i).toNatClampNeg = i := i_of_n (by omega)
  have q1 : Int32.ofNat (i + 1) - 1 = Int32.ofNat i := by rw [show (1 : Int32) = Int32.ofNat 1 from rfl, i_subof (by omega)]; rfl
  have hnx : i + 1 < n := knx i (by omega) (by omega)
  have vv := (tk' i hi).2
  obtain ⟨v0, _, _⟩ := w.2.2.2.2.2.1.2.2 who hwh
  obtain ⟨a0, a1, a2, b0, b1, b2, c0, c1, c2⟩ := ix3 who (by have := w.2.2.2.2.2.1.2.1; omega)
  unfold pOneF at hp1
  rcases hlow with g | g | g | g | g | g
  · rw [if_pos g] at hp1
    obtain ⟨_, hj', hc, he'⟩ := ho_inv hp1
    subst hj' hc
    refine ⟨hnx, V i, fun us hu => ex_w (by decide) (by decide) (by decide) (by rw [vOp_10]; rfl) hu, ?_⟩
    have wk := xs_kd m0 hi g 201 (by decide)
    simp (maxDischargeDepth := 60) only [hk, x_206_0, x_206_1, x_206_4, x_206_7, x_206_10, x_206_11, x_206_14, x_206_15, x_206_16, x_206_17, x_206_17i, x_206_18, x_206_21, x_206_22, x_206_23, x_206_26, x_206_27, x_206_100, x_206_101, x_206_104, x_206_107, x_206_110, x_206_111, x_206_114, x_206_115, x_206_116, x_206_117, x_206_118, x_206_119, x_206_122, x_206_123, x_206_124, x_206_127, x_206_128, x_206_131, x_206_132, x_206_133, x_206_134, x_206_137, x_206_138, x_206_139, x_206_142, x_206_145, x_206_146, x_206_147, x_206_150, x_206_151, x_206_152, x_206_153, x_206_154, x_206_157, x_206_158, x_206_159, x_206_162, x_206_163, x_206_164, x_206_165, x_206_168, x_206_169, x_206_170, x_206_170i, x_206_171, x_206_174, x_206_175, x_206_176, x_206_179, x_206_180, x_206_181, x_206_182, x_206_182i, x_206_183, x_206_186, x_206_187, x_206_188, x_206_191, x_206_192, x_206_195, x_206_196, x_206_197, x_206_197i, x_206_198, x_206_201, x_206_202, x_206_203, x_206_206, x_206_207, x_206_210, x_206_211, x_206_212, x_206_212i, x_206_213, x_206_216, x_206_217, x_206_218, x_206_221, x_206_222, x_206_224, x_206_227, x_206_228, x_206_229, x_206_232, x_206_235, x_206_236, x_206_237, x_206_240, c_206, hv, hp, hk, wt_a hv hp, wt_b hv hp, wt_c hv hp, wt_d hv hp, wk_c hv, wk_d hv, wk_0 hv, wk_1 hv, hj, en, wk, sw1_201, i_succ, q1, vv, SI_SI, Option.bind_some, mAft_n, mAft_v, mAft_x, mS_n, mS_i, mS_r, mS_l, mS_d, ne_eq, not_false_eq_true, not_true_eq_false, true_or, or_true, and_true, true_and, if_true, if_false, ite_true, ite_false, reduceIte, Nat.reduceAdd, Nat.reduceLeDiff, Nat.reduceEqDiff, false_and, and_false, or_false, false_or, eq_self, reduceCtorEq, mi_316, mi_317, ml_317, mi_318, ml_318, mi_319, ml_319, mi_320, ml_320, mi_321, ml_321, mi_322, ml_322, mi_359, ml_359, mv_316_1, mv_316_4, mv_316_7, mv_316_8, mv_316_9, mv_316_10, mv_316_13, mv_316_14, mv_316_15, pi_0, pi_1, pl_1, pv_1, pi_2, pl_2, pv_2, pi_3, pl_3, pv_3, pi_4, pl_4, pv_4, pi_5, pl_5, pv_5, pi_6, pl_6, pv_10, pi_7, pl_7, pv_11, pi_8, pl_8, pv_12, pi_9, pl_9, pv_13, pi_10, pl_10, pv_14, pi_11, pl_11, pv_15, pv_20, wi_0, wi_1, wl_1, wv_14, wi_2, wl_2, wv_15, wi_3, wl_3, wv_16, wi_4, wl_4, wv_17, wi_5, wl_5, wv_18, wv_21, pt_P, pt_v, pt_w, pt_SI, pt_SL, kM_SI, kM_SL, lI_SL, lV_SL, lK_SL, lN_SL, lL_SL, lIs_SL, nI_SI, nV_SI, nK_SI, nN_SI, nL_SI, nIs_SI, pp_c, pp_l, pp_r, pp_k, pp_k0, pp_j, pp_j0, isl]
  · rw [if_neg (show ¬ k i = 30 by omega)] at hp1
    rw [if_pos g] at hp1
    obtain ⟨l1, cc1, f1, cc2, f2, x1, x2, hc, he'⟩ := sq_inv hp1
    obtain ⟨_, hj1, hc1, _⟩ := tk_inv x1
    obtain ⟨hj2, hc2, _⟩ := em_inv x2
    subst hj2 hj1 hc1 hc2 hc
    refine ⟨hnx, sec, fun us hu => ex_w (by decide) (by decide) (by decide) vOp_11 hu, ?_⟩
    have wk := xs_kd m0 hi g 20 (by decide)
    simp (maxDischargeDepth := 60) only [hk, x_206_0, x_206_1, x_206_4, x_206_7, x_206_10, x_206_11, x_206_14, x_206_15, x_206_16, x_206_17, x_206_17i, x_206_18, x_206_21, x_206_22, x_206_23, x_206_26, x_206_27, x_206_100, x_206_101, x_206_104, x_206_107, x_206_110, x_206_111, x_206_114, x_206_115, x_206_116, x_206_117, x_206_118, x_206_119, x_206_122, x_206_123, x_206_124, x_206_127, x_206_128, x_206_131, x_206_132, x_206_133, x_206_134, x_206_137, x_206_138, x_206_139, x_206_142, x_206_145, x_206_146, x_206_147, x_206_150, x_206_151, x_206_152, x_206_153, x_206_154, x_206_157, x_206_158, x_206_159, x_206_162, x_206_163, x_206_164, x_206_165, x_206_168, x_206_169, x_206_170, x_206_170i, x_206_171, x_206_174, x_206_175, x_206_176, x_206_179, x_206_180, x_206_181, x_206_182, x_206_182i, x_206_183, x_206_186, x_206_187, x_206_188, x_206_191, x_206_192, x_206_195, x_206_196, x_206_197, x_206_197i, x_206_198, x_206_201, x_206_202, x_206_203, x_206_206, x_206_207, x_206_210, x_206_211, x_206_212, x_206_212i, x_206_213, x_206_216, x_206_217, x_206_218, x_206_221, x_206_222, x_206_224, x_206_227, x_206_228, x_206_229, x_206_232, x_206_235, x_206_236, x_206_237, x_206_240, c_206, hv, hp, hk, wt_a hv hp, wt_b hv hp, wt_c hv hp, wt_d hv hp, wk_c hv, wk_d hv, wk_0 hv, wk_1 hv, hj, en, wk, sw1_20, i_succ, SI_SI, m3, Option.bind_some, mAft_n, mAft_v, mAft_x, mS_n, mS_i, mS_r, mS_l, mS_d, ne_eq, not_false_eq_true, not_true_eq_false, true_or, or_true, and_true, true_and, if_true, if_false, ite_true, ite_false, reduceIte, Nat.reduceAdd, Nat.reduceLeDiff, Nat.reduceEqDiff, false_and, and_false, or_false, false_or, eq_self, reduceCtorEq, mi_316, mi_317, ml_317, mi_318, ml_318, mi_319, ml_319, mi_320, ml_320, mi_321, ml_321, mi_322, ml_322, mi_359, ml_359, mv_316_1, mv_316_4, mv_316_7, mv_316_8, mv_316_9, mv_316_10, mv_316_13, mv_316_14, mv_316_15, pi_0, pi_1, pl_1, pv_1, pi_2, pl_2, pv_2, pi_3, pl_3, pv_3, pi_4, pl_4, pv_4, pi_5, pl_5, pv_5, pi_6, pl_6, pv_10, pi_7, pl_7, pv_11, pi_8, pl_8, pv_12, pi_9, pl_9, pv_13, pi_10, pl_10, pv_14, pi_11, pl_11, pv_15, pv_20, wi_0, wi_1, wl_1, wv_14, wi_2, wl_2, wv_15, wi_3, wl_3, wv_16, wi_4, wl_4, wv_17, wi_5, wl_5, wv_18, wv_21, pt_P, pt_v, pt_w, pt_SI, pt_SL, kM_SI, kM_SL, lI_SL, lV_SL, lK_SL, lN_SL, lL_SL, lIs_SL, nI_SI, nV_SI, nK_SI, nN_SI, nL_SI, nIs_SI, pp_c, pp_l, pp_r, pp_k, pp_k0, pp_j, pp_j0, isl]
  · rw [if_neg (show ¬ k i = 30 by omega), if_neg (show ¬ k i = 20 by omega)] at hp1
    rw [if_pos g] at hp1
    obtain ⟨l1, cc1, f1, cc2, f2, x1, x2, hc, he'⟩ := sq_inv hp1
    obtain ⟨_, hj1, hc1, _⟩ := tk_inv x1
    obtain ⟨hj2, hc2, _⟩ := em_inv x2
    subst hj2 hj1 hc1 hc2 hc
    refine ⟨hnx, lim - sec, fun us hu => ex_w (by decide) (by decide) (by decide) vOp_12 hu, ?_⟩
    have wk := xs_kd m0 hi g 21 (by decide)
    simp (maxDischargeDepth := 60) only [hk, x_206_0, x_206_1, x_206_4, x_206_7, x_206_10, x_206_11, x_206_14, x_206_15, x_206_16, x_206_17, x_206_17i, x_206_18, x_206_21, x_206_22, x_206_23, x_206_26, x_206_27, x_206_100, x_206_101, x_206_104, x_206_107, x_206_110, x_206_111, x_206_114, x_206_115, x_206_116, x_206_117, x_206_118, x_206_119, x_206_122, x_206_123, x_206_124, x_206_127, x_206_128, x_206_131, x_206_132, x_206_133, x_206_134, x_206_137, x_206_138, x_206_139, x_206_142, x_206_145, x_206_146, x_206_147, x_206_150, x_206_151, x_206_152, x_206_153, x_206_154, x_206_157, x_206_158, x_206_159, x_206_162, x_206_163, x_206_164, x_206_165, x_206_168, x_206_169, x_206_170, x_206_170i, x_206_171, x_206_174, x_206_175, x_206_176, x_206_179, x_206_180, x_206_181, x_206_182, x_206_182i, x_206_183, x_206_186, x_206_187, x_206_188, x_206_191, x_206_192, x_206_195, x_206_196, x_206_197, x_206_197i, x_206_198, x_206_201, x_206_202, x_206_203, x_206_206, x_206_207, x_206_210, x_206_211, x_206_212, x_206_212i, x_206_213, x_206_216, x_206_217, x_206_218, x_206_221, x_206_222, x_206_224, x_206_227, x_206_228, x_206_229, x_206_232, x_206_235, x_206_236, x_206_237, x_206_240, c_206, hv, hp, hk, wt_a hv hp, wt_b hv hp, wt_c hv hp, wt_d hv hp, wk_c hv, wk_d hv, wk_0 hv, wk_1 hv, hj, en, wk, sw1_21, i_succ, SI_SI, m3, m2, Option.bind_some, mAft_n, mAft_v, mAft_x, mS_n, mS_i, mS_r, mS_l, mS_d, ne_eq, not_false_eq_true, not_true_eq_false, true_or, or_true, and_true, true_and, if_true, if_false, ite_true, ite_false, reduceIte, Nat.reduceAdd, Nat.reduceLeDiff, Nat.reduceEqDiff, false_and, and_false, or_false, false_or, eq_self, reduceCtorEq, mi_316, mi_317, ml_317, mi_318, ml_318, mi_319, ml_319, mi_320, ml_320, mi_321, ml_321, mi_322, ml_322, mi_359, ml_359, mv_316_1, mv_316_4, mv_316_7, mv_316_8, mv_316_9, mv_316_10, mv_316_13, mv_316_14, mv_316_15, pi_0, pi_1, pl_1, pv_1, pi_2, pl_2, pv_2, pi_3, pl_3, pv_3, pi_4, pl_4, pv_4, pi_5, pl_5, pv_5, pi_6, pl_6, pv_10, pi_7, pl_7, pv_11, pi_8, pl_8, pv_12, pi_9, pl_9, pv_13, pi_10, pl_10, pv_14, pi_11, pl_11, pv_15, pv_20, wi_0, wi_1, wl_1, wv_14, wi_2, wl_2, wv_15, wi_3, wl_3, wv_16, wi_4, wl_4, wv_17, wi_5, wl_5, wv_18, wv_21, pt_P, pt_v, pt_w, pt_SI, pt_SL, kM_SI, kM_SL, lI_SL, lV_SL, lK_SL, lN_SL, lL_SL, lIs_SL, nI_SI, nV_SI, nK_SI, nN_SI, nL_SI, nIs_SI, pp_c, pp_l, pp_r, pp_k, pp_k0, pp_j, pp_j0, isl]
  · rw [if_neg (show ¬ k i = 30 by omega), if_neg (show ¬ k i = 20 by omega), if_neg (show ¬ k i = 21 by omega)] at hp1
    rw [if_pos g] at hp1
    obtain ⟨l1, cc1, f1, cc2, f2, x1, x2, hc, he'⟩ := sq_inv hp1
    obtain ⟨_, hj1, hc1, _⟩ := tk_inv x1
    obtain ⟨hj2, hc2, _⟩ := em_inv x2
    subst hj2 hj1 hc1 hc2 hc
    refine ⟨hnx, ti, fun us hu => ex_w (by decide) (by decide) (by decide) vOp_13 hu, ?_⟩
    have wk := xs_kd m0 hi g 22 (by decide)
    simp (maxDischargeDepth := 60) only [hk, x_206_0, x_206_1, x_206_4, x_206_7, x_206_10, x_206_11, x_206_14, x_206_15, x_206_16, x_206_17, x_206_17i, x_206_18, x_206_21, x_206_22, x_206_23, x_206_26, x_206_27, x_206_100, x_206_101, x_206_104, x_206_107, x_206_110, x_206_111, x_206_114, x_206_115, x_206_116, x_206_117, x_206_118, x_206_119, x_206_122, x_206_123, x_206_124, x_206_127, x_206_128, x_206_131, x_206_132, x_206_133, x_206_134, x_206_137, x_206_138, x_206_139, x_206_142, x_206_145, x_206_146, x_206_147, x_206_150, x_206_151, x_206_152, x_206_153, x_206_154, x_206_157, x_206_158, x_206_159, x_206_162, x_206_163, x_206_164, x_206_165, x_206_168, x_206_169, x_206_170, x_206_170i, x_206_171, x_206_174, x_206_175, x_206_176, x_206_179, x_206_180, x_206_181, x_206_182, x_206_182i, x_206_183, x_206_186, x_206_187, x_206_188, x_206_191, x_206_192, x_206_195, x_206_196, x_206_197, x_206_197i, x_206_198, x_206_201, x_206_202, x_206_203, x_206_206, x_206_207, x_206_210, x_206_211, x_206_212, x_206_212i, x_206_213, x_206_216, x_206_217, x_206_218, x_206_221, x_206_222, x_206_224, x_206_227, x_206_228, x_206_229, x_206_232, x_206_235, x_206_236, x_206_237, x_206_240, c_206, hv, hp, hk, wt_a hv hp, wt_b hv hp, wt_c hv hp, wt_d hv hp, wk_c hv, wk_d hv, wk_0 hv, wk_1 hv, hj, en, wk, sw1_22, i_succ, SI_SI, m5, Option.bind_some, mAft_n, mAft_v, mAft_x, mS_n, mS_i, mS_r, mS_l, mS_d, ne_eq, not_false_eq_true, not_true_eq_false, true_or, or_true, and_true, true_and, if_true, if_false, ite_true, ite_false, reduceIte, Nat.reduceAdd, Nat.reduceLeDiff, Nat.reduceEqDiff, false_and, and_false, or_false, false_or, eq_self, reduceCtorEq, mi_316, mi_317, ml_317, mi_318, ml_318, mi_319, ml_319, mi_320, ml_320, mi_321, ml_321, mi_322, ml_322, mi_359, ml_359, mv_316_1, mv_316_4, mv_316_7, mv_316_8, mv_316_9, mv_316_10, mv_316_13, mv_316_14, mv_316_15, pi_0, pi_1, pl_1, pv_1, pi_2, pl_2, pv_2, pi_3, pl_3, pv_3, pi_4, pl_4, pv_4, pi_5, pl_5, pv_5, pi_6, pl_6, pv_10, pi_7, pl_7, pv_11, pi_8, pl_8, pv_12, pi_9, pl_9, pv_13, pi_10, pl_10, pv_14, pi_11, pl_11, pv_15, pv_20, wi_0, wi_1, wl_1, wv_14, wi_2, wl_2, wv_15, wi_3, wl_3, wv_16, wi_4, wl_4, wv_17, wi_5, wl_5, wv_18, wv_21, pt_P, pt_v, pt_w, pt_SI, pt_SL, kM_SI, kM_SL, lI_SL, lV_SL, lK_SL, lN_SL, lL_SL, lIs_SL, nI_SI, nV_SI, nK_SI, nN_SI, nL_SI, nIs_SI, pp_c, pp_l, pp_r, pp_k, pp_k0, pp_j, pp_j0, isl]
  · rw [if_neg (show ¬ k i = 30 by omega), if_neg (show ¬ k i = 20 by omega), if_neg (show ¬ k i = 21 by omega), if_neg (show ¬ k i = 22 by omega)] at hp1
    rw [if_pos g] at hp1
    obtain ⟨l1, cc1, f1, cc2, f2, x1, x2, hc, he'⟩ := sq_inv hp1
    obtain ⟨_, hj1, hc1, _⟩ := tk_inv x1
    obtain ⟨hj2, hc2, _⟩ := em_inv x2
    subst hj2 hj1 hc1 hc2 hc
    refine ⟨hnx, lg (vs.map (·.1)) (Int32.ofNat who), fun us hu => ex_w (by decide) (by decide) (by decide) vOp_14 hu, ?_⟩
    have wk := xs_kd m0 hi g 23 (by decide)
    simp (maxDischargeDepth := 60) only [hk, x_206_0, x_206_1, x_206_4, x_206_7, x_206_10, x_206_11, x_206_14, x_206_15, x_206_16, x_206_17, x_206_17i, x_206_18, x_206_21, x_206_22, x_206_23, x_206_26, x_206_27, x_206_100, x_206_101, x_206_104, x_206_107, x_206_110, x_206_111, x_206_114, x_206_115, x_206_116, x_206_117, x_206_118, x_206_119, x_206_122, x_206_123, x_206_124, x_206_127, x_206_128, x_206_131, x_206_132, x_206_133, x_206_134, x_206_137, x_206_138, x_206_139, x_206_142, x_206_145, x_206_146, x_206_147, x_206_150, x_206_151, x_206_152, x_206_153, x_206_154, x_206_157, x_206_158, x_206_159, x_206_162, x_206_163, x_206_164, x_206_165, x_206_168, x_206_169, x_206_170, x_206_170i, x_206_171, x_206_174, x_206_175, x_206_176, x_206_179, x_206_180, x_206_181, x_206_182, x_206_182i, x_206_183, x_206_186, x_206_187, x_206_188, x_206_191, x_206_192, x_206_195, x_206_196, x_206_197, x_206_197i, x_206_198, x_206_201, x_206_202, x_206_203, x_206_206, x_206_207, x_206_210, x_206_211, x_206_212, x_206_212i, x_206_213, x_206_216, x_206_217, x_206_218, x_206_221, x_206_222, x_206_224, x_206_227, x_206_228, x_206_229, x_206_232, x_206_235, x_206_236, x_206_237, x_206_240, c_206, hv, hp, hk, wt_a hv hp, wt_b hv hp, wt_c hv hp, wt_d hv hp, wk_c hv, wk_d hv, wk_0 hv, wk_1 hv, hj, en, wk, sw1_23, i_succ, SI_SI, m1, a0, a1, a2, b0, b1, b2, c0, c1, c2, v0, Option.bind_some, mAft_n, mAft_v, mAft_x, mS_n, mS_i, mS_r, mS_l, mS_d, ne_eq, not_false_eq_true, not_true_eq_false, true_or, or_true, and_true, true_and, if_true, if_false, ite_true, ite_false, reduceIte, Nat.reduceAdd, Nat.reduceLeDiff, Nat.reduceEqDiff, false_and, and_false, or_false, false_or, eq_self, reduceCtorEq, mi_316, mi_317, ml_317, mi_318, ml_318, mi_319, ml_319, mi_320, ml_320, mi_321, ml_321, mi_322, ml_322, mi_359, ml_359, mv_316_1, mv_316_4, mv_316_7, mv_316_8, mv_316_9, mv_316_10, mv_316_13, mv_316_14, mv_316_15, pi_0, pi_1, pl_1, pv_1, pi_2, pl_2, pv_2, pi_3, pl_3, pv_3, pi_4, pl_4, pv_4, pi_5, pl_5, pv_5, pi_6, pl_6, pv_10, pi_7, pl_7, pv_11, pi_8, pl_8, pv_12, pi_9, pl_9, pv_13, pi_10, pl_10, pv_14, pi_11, pl_11, pv_15, pv_20, wi_0, wi_1, wl_1, wv_14, wi_2, wl_2, wv_15, wi_3, wl_3, wv_16, wi_4, wl_4, wv_17, wi_5, wl_5, wv_18, wv_21, pt_P, pt_v, pt_w, pt_SI, pt_SL, kM_SI, kM_SL, lI_SL, lV_SL, lK_SL, lN_SL, lL_SL, lIs_SL, nI_SI, nV_SI, nK_SI, nN_SI, nL_SI, nIs_SI, pp_c, pp_l, pp_r, pp_k, pp_k0, pp_j, pp_j0, isl]
  · rw [if_neg (show ¬ k i = 30 by omega), if_neg (show ¬ k i = 20 by omega), if_neg (show ¬ k i = 21 by omega), if_neg (show ¬ k i = 22 by omega), if_neg (show ¬ k i = 23 by omega)] at hp1
    rw [if_pos g] at hp1
    obtain ⟨l1, cc1, f1, cc2, f2, x1, x2, hc, he'⟩ := sq_inv hp1
    obtain ⟨_, hj1, hc1, _⟩ := tk_inv x1
    obtain ⟨hj2, hc2, _⟩ := em_inv x2
    subst hj2 hj1 hc1 hc2 hc
    refine ⟨hnx, wo, fun us hu => ex_w (by decide) (by decide) (by decide) vOp_15 hu, ?_⟩
    have wk := xs_kd m0 hi g 6 (by decide)
    simp (maxDischargeDepth := 60) only [hk, x_206_0, x_206_1, x_206_4, x_206_7, x_206_10, x_206_11, x_206_14, x_206_15, x_206_16, x_206_17, x_206_17i, x_206_18, x_206_21, x_206_22, x_206_23, x_206_26, x_206_27, x_206_100, x_206_101, x_206_104, x_206_107, x_206_110, x_206_111, x_206_114, x_206_115, x_206_116, x_206_117, x_206_118, x_206_119, x_206_122, x_206_123, x_206_124, x_206_127, x_206_128, x_206_131, x_206_132, x_206_133, x_206_134, x_206_137, x_206_138, x_206_139, x_206_142, x_206_145, x_206_146, x_206_147, x_206_150, x_206_151, x_206_152, x_206_153, x_206_154, x_206_157, x_206_158, x_206_159, x_206_162, x_206_163, x_206_164, x_206_165, x_206_168, x_206_169, x_206_170, x_206_170i, x_206_171, x_206_174, x_206_175, x_206_176, x_206_179, x_206_180, x_206_181, x_206_182, x_206_182i, x_206_183, x_206_186, x_206_187, x_206_188, x_206_191, x_206_192, x_206_195, x_206_196, x_206_197, x_206_197i, x_206_198, x_206_201, x_206_202, x_206_203, x_206_206, x_206_207, x_206_210, x_206_211, x_206_212, x_206_212i, x_206_213, x_206_216, x_206_217, x_206_218, x_206_221, x_206_222, x_206_224, x_206_227, x_206_228, x_206_229, x_206_232, x_206_235, x_206_236, x_206_237, x_206_240, c_206, hv, hp, hk, wt_a hv hp, wt_b hv hp, wt_c hv hp, wt_d hv hp, wk_c hv, wk_d hv, wk_0 hv, wk_1 hv, hj, en, wk, sw1_6, i_succ, SI_SI, m7, Option.bind_some, mAft_n, mAft_v, mAft_x, mS_n, mS_i, mS_r, mS_l, mS_d, ne_eq, not_false_eq_true, not_true_eq_false, true_or, or_true, and_true, true_and, if_true, if_false, ite_true, ite_false, reduceIte, Nat.reduceAdd, Nat.reduceLeDiff, Nat.reduceEqDiff, false_and, and_false, or_false, false_or, eq_self, reduceCtorEq, mi_316, mi_317, ml_317, mi_318, ml_318, mi_319, ml_319, mi_320, ml_320, mi_321, ml_321, mi_322, ml_322, mi_359, ml_359, mv_316_1, mv_316_4, mv_316_7, mv_316_8, mv_316_9, mv_316_10, mv_316_13, mv_316_14, mv_316_15, pi_0, pi_1, pl_1, pv_1, pi_2, pl_2, pv_2, pi_3, pl_3, pv_3, pi_4, pl_4, pv_4, pi_5, pl_5, pv_5, pi_6, pl_6, pv_10, pi_7, pl_7, pv_11, pi_8, pl_8, pv_12, pi_9, pl_9, pv_13, pi_10, pl_10, pv_14, pi_11, pl_11, pv_15, pv_20, wi_0, wi_1, wl_1, wv_14, wi_2, wl_2, wv_15, wi_3, wl_3, wv_16, wi_4, wl_4, wv_17, wi_5, wl_5, wv_18, wv_21, pt_P, pt_v, pt_w, pt_SI, pt_SL, kM_SI, kM_SL, lI_SL, lV_SL, lK_SL, lN_SL, lL_SL, lIs_SL, nI_SI, nV_SI, nK_SI, nN_SI, nL_SI, nIs_SI, pp_c, pp_l, pp_r, pp_k, pp_k0, pp_j, pp_j0, isl]
