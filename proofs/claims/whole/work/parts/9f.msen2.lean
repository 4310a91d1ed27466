/-! SENTENCES: BOTH SIDES, EACH SORT -/
def SOUT (D v who : Nat) (lim : Int32) (S : VS) (pc nx en fi ti a q : Nat) (fs : List FRM) (ls' rs : List Int32) (h : mH) (cl : List CL) (dn : List NS) (ps : List PT) (vs : List (Int32 × Int32 × Int32)) (k : Nat → Nat) (n : Nat) (V L : Nat → Int32) (nt : Nat) (T : Nat → Nat) (E : EV) : Prop :=
  ∃ H fs' S' N s, N ≤ 455 ∧ VRn (vKK vs (Int32.ofNat who) lim) E N (Int32.ofNat pc, [], ls', rs, true, false, S) s ∧ WW k n V L ps.length E fs' s S' ∧ mCall D 212 [.ref v] h = some (.inl none, H) ∧ xT H v who cl dn ps vs k n V L nt T ∧ wS H v who lim S' ∧ frS H v fs' ∧ mI H v 0 = mI h v 0 ∧ mI H v 11 = mI h v 11 ∧ Fr (WV v) h H ∧ (∃ r, r < 12 ∧ S'.2.1 = Int32.ofNat r) ∧ S'.2.2.2.2.2.2.2.2.2.length ≤ S.2.2.2.2.2.2.2.2.2.length + 6 ∧ S'.2.2.2.2.2.2.2.2.1 = S.2.2.2.2.2.2.2.2.1 + 1 ∧ phi fs' ≤ phi ((nx, en, fi, ti, a, q) :: fs) + 28 ∧ ∀ y, y ∈ fs' → y.2.2.2.2.2 ≤ q ∨ y ∈ fs
theorem fq1 {q : Nat} {f : FRM} {fs : List FRM} (h : f.2.2.2.2.2 ≤ q) : ∀ y, y ∈ f :: fs → y.2.2.2.2.2 ≤ q ∨ y ∈ fs := by
  intro y hy
  rcases List.mem_cons.mp hy with rfl | hy
  · exact Or.inl h
  · exact Or.inr hy
theorem fq2 {q : Nat} {f g : FRM} {fs : List FRM} (h : f.2.2.2.2.2 ≤ q) (h2 : g.2.2.2.2.2 ≤ q) : ∀ y, y ∈ f :: g :: fs → y.2.2.2.2.2 ≤ q ∨ y ∈ fs := by
  intro y hy
  rcases List.mem_cons.mp hy with rfl | hy
  · exact Or.inl h
  · exact fq1 h2 y hy
theorem vSent_p {S : VS} : (vSent S).1 = S.1 ∧ (vSent S).2.1 = S.2.1 ∧ (vSent S).2.2.2.2.2.2.2.2.2 = S.2.2.2.2.2.2.2.2.2 ∧ (vSent S).2.2.2.2.2.2.2.2.1 = S.2.2.2.2.2.2.2.2.1 + 1 := ⟨rfl, rfl, rfl, rfl⟩
/-- a leaf: what its method gives -/
theorem j_leaf {H : mH} {S' : VS} {l : Nat} {D v who nx en fi ti a q pc : Nat} {lim : Int32} {S : VS} {fs : List FRM} {ls' rs : List Int32} {h : mH} {cl : List CL} {dn : List NS} {ps : List PT} {vs : List (Int32 × Int32 × Int32)} {k : Nat → Nat} {n : Nat} {V L : Nat → Int32} {nt : Nat} {T : Nat → Nat} {E : EV} (m : xT h v who cl dn ps vs k n V L nt T) (hs : wS h v who lim (vSent S)) (f : frS h v ((nx, en, fi, ti, a, q) :: fs)) (hE1 : E.1 = cl) (hE2 : E.2.1 = dn) (hE3 : E.2.2.1 = ps) (hT : TOU k n V L ps.length E nt T) (hr : ∃ r, r < 12 ∧ S.2.1 = Int32.ofNat r) (hl : S.2.2.2.2.2.2.2.2.2.length + 6 ≤ 1920) (hq6 : q ≤ nt) (hA : AT k n V L ps.length E ((nx, en, fi, ti, a, q) :: fs) pc ls' rs) (hne : ¬ nx = en) (ho : ovr (vKK vs (Int32.ofNat who) lim) S = false) (hl3 : l = nx + 3)
    (hv2 : VRn (vKK vs (Int32.ofNat who) lim) E 2 (Int32.ofNat pc, [], ls', rs, true, false, S) (Int32.ofNat (pc + 2), [], ls', rs, true, false, S')) (hA2 : AT k n V L ps.length E ((l, en, fi, ti, a, q) :: fs) (pc + 2) ls' rs)
    (e0 : mCall (D + 28) 212 [.ref v] h = some (.inl none, H)) (e1 : wS H v who lim S') (e2 : Fr [322, v, v + 1] (mSI h (v + 2) fs.length (Int32.ofNat (nx + 3))) H) (e3 : KX v (mSI h (v + 2) fs.length (Int32.ofNat (nx + 3))) H)
    (g1 : ∃ r, r < 12 ∧ S'.2.1 = Int32.ofNat r) (g2 : S'.2.2.2.2.2.2.2.2.2.length ≤ (vSent S).2.2.2.2.2.2.2.2.2.length + 6) (g3 : S'.2.2.2.2.2.2.2.2.1 = (vSent S).2.2.2.2.2.2.2.2.1) : SOUT (D + 28) v who lim S pc nx en fi ti a q fs ls' rs h cl dn ps vs k n V L nt T E := by
  have hv := m.2.1
  have f0 : Fr (WV v) h (mSI h (v + 2) fs.length (Int32.ofNat (nx + 3))) := Fr_SI ⟨rfl, fun _ _ _ => rfl⟩ (by unfold WV; simp)
  have F : Fr (WV v) h H := Fr_trans f0 (Fr_mono e2 (by unfold WV; simp))
  have fn := frS_nx (nx' := nx + 3) f
  refine ⟨H, (l, en, fi, ti, a, q) :: fs, S', 2, _, by omega, hv2, Or.inr ⟨_, _, _, rfl, hA2⟩, e0, xT_Fr F (WV_ok hv) m, e1, ⟨?_, fn.2.1, ?_⟩, ?_, ?_, F, g1, g2, g3, ?_, fq1 (Nat.le_refl q)⟩
  · rw [e3 19 (by omega)]; exact fn.1
  · rw [hl3]
    exact frR_Fr e2 (fun c h1 h2 z => by simp only [List.mem_cons, List.not_mem_nil, or_false] at z; rcases hv with rfl | rfl <;> omega) fn.2.2
  · rw [e3 0 (by omega), mI_SI_other (by omega)]
  · rw [e3 11 (by omega), mI_SI_other (by omega)]
  · rw [phi_c, phi_c]
    have := phi_nx (nx := nx) (nx' := l) (en := en) (fi := fi) (ti := ti) (a := a) (q := q)
    omega
theorem j_go {D v who nx en fi ti a q pc : Nat} {lim : Int32} {S : VS} {fs : List FRM} {ls' rs : List Int32} {h : mH} {cl : List CL} {dn : List NS} {ps : List PT} {vs : List (Int32 × Int32 × Int32)} {k : Nat → Nat} {n : Nat} {V L : Nat → Int32} {nt : Nat} {T : Nat → Nat} {E : EV} (m : xT h v who cl dn ps vs k n V L nt T) (hs : wS h v who lim (vSent S)) (f : frS h v ((nx, en, fi, ti, a, q) :: fs)) (hE1 : E.1 = cl) (hE2 : E.2.1 = dn) (hE3 : E.2.2.1 = ps) (hT : TOU k n V L ps.length E nt T) (hr : ∃ r, r < 12 ∧ S.2.1 = Int32.ofNat r) (hl : S.2.2.2.2.2.2.2.2.2.length + 6 ≤ 1920) (hq6 : q ≤ nt) (hA : AT k n V L ps.length E ((nx, en, fi, ti, a, q) :: fs) pc ls' rs) (hne : ¬ nx = en) (ho : ovr (vKK vs (Int32.ofNat who) lim) S = false) (hk11 : k nx = 11) : SOUT (D + 28) v who lim S pc nx en fi ti a q fs ls' rs h cl dn ps vs k n V L nt T E := by
  obtain ⟨l, c1, e1, s1, s2, s3, s4, s5, s6, s7⟩ := at_next hA hne
  have s2' : pLeaf k 11 2 29 67 nx pc = (l, some (c1, e1)) := by rw [← s2]; unfold pSen; rw [if_pos hk11]
  obtain ⟨_, k29, k37, hj, hc, he⟩ := leaf_inv s2'
  subst hc
  have m0 := m
  obtain ⟨w, hv, hwh, hn, tk', k50, knx, hnt, tt⟩ := m
  obtain ⟨x, hx, hVx⟩ := (s3 (67, nx + 1, 0) (by rw [he]; simp)).1 rfl
  have hVx' : V (nx + 1) = Int32.ofNat x := hVx
  have hn1 := knx nx (by omega) (by omega)
  obtain ⟨r, hr12, hr⟩ := hr
  have st0 := m_sen0 (d := D + 27) m0 f s1 hVx' hn1
  rw [if_pos hk11] at st0
  have fv : Fr [v + 2] h (mSI h (v + 2) fs.length (Int32.ofNat (nx + 3))) := Fr_SI ⟨rfl, fun _ _ _ => rfl⟩ (by simp)
  have w1 := wCx_Fr fv (by intro b hb; simp only [List.mem_cons, List.not_mem_nil, or_false] at hb; rcases hv with rfl | rfl <;> omega) w
  have hs1 := wS_Fr fv (by simp) (by simp) hs
  obtain ⟨H, y1, y2, y3, y4⟩ := m_go (d := D + 24) w1 hv hwh hs1 (by rw [vSent_p.2.2.1]; exact hl) (by rw [vSent_p.2.1]; exact hr) hr12 hx
  have hwI : wI E (vSent S) (Int32.ofNat x) = wD dn (cOpen cl (vSent S).1) r x := by
    unfold wI
    rw [hE1, hE2, vSent_p.2.1, hr, i_of_n (by omega), i_of_n (by omega)]
  have v2 := vm_leaf (ls' := ls') (rs := rs) (S' := vGo (vKK vs (Int32.ofNat who) lim) (wD dn (cOpen cl (vSent S).1) r x) (Int32.ofNat x) (vSent S)) s4 ho (by decide) (by rw [hVx', vmC_2, hwI])
  refine j_leaf m0 hs f hE1 hE2 hE3 hT ⟨r, hr12, hr⟩ hl hq6 hA hne ho hj v2 s7 ?_ y2 y3 y4 ?_ vGo_l.1 vGo_l.2
  · rw [st0]
    have hk := w1.1
    have y1' : mCall (D + 27) 202 [.ref v, .int (Int32.ofNat x)] (mSI h (v + 2) fs.length (Int32.ofNat (nx + 3))) = some (.inl none, H) := y1
    have hkH := kM_Fr' y3 hk
    rw [x_212_92]
    simp (maxDischargeDepth := 60) only [hk, x_212_0, x_212_1, x_212_4, x_212_5, x_212_6, x_212_7, x_212_8, x_212_11, x_212_12, x_212_13, x_212_14, x_212_15, x_212_18, x_212_21, x_212_24, x_212_25, x_212_26, x_212_27, x_212_28, x_212_29, x_212_30, x_212_33, x_212_34, x_212_35, x_212_36, x_212_37, x_212_38, x_212_39, x_212_42, x_212_45, x_212_48, x_212_49, x_212_50, x_212_93, x_212_94, x_212_97, x_212_100, x_212_101, x_212_102, x_212_105, x_212_108, x_212_109, x_212_110, x_212_113, x_212_116, x_212_117, x_212_118, x_212_121, x_212_124, x_212_127, x_212_128, x_212_129, x_212_130, x_212_133, x_212_136, x_212_137, x_212_140, x_212_141, x_212_142, x_212_145, x_212_148, x_212_151, x_212_152, x_212_153, x_212_154, x_212_155, x_212_156, x_212_157, x_212_158, x_212_159, x_212_162, x_212_163, x_212_164, x_212_165, x_212_166, x_212_167, x_212_170, x_212_173, x_212_174, x_212_175, x_212_176, x_212_177, x_212_180, x_212_181, x_212_184, x_212_186, x_212_187, x_212_190, x_212_192, x_212_193, x_212_196, x_212_199, x_212_202, x_212_204, x_212_205, x_212_206, x_212_207, x_212_209, x_212_210, x_212_213, x_212_216, x_212_219, x_212_221, x_212_222, x_212_224, x_212_227, x_212_228, x_212_231, x_212_232, x_212_234, x_212_235, x_212_238, x_212_239, x_212_241, x_212_244, x_212_245, x_212_248, x_212_251, x_212_254, x_212_256, x_212_257, x_212_258, x_212_259, x_212_260, x_212_261, x_212_264, x_212_266, x_212_267, x_212_269, x_212_272, x_212_273, x_212_275, x_212_276, x_212_279, x_212_282, x_212_284, x_212_287, x_212_288, x_212_290, x_212_291, x_212_292, x_212_293, x_212_296, hv, y1', hkH, Option.bind_some, mAft_n, mAft_v, mAft_x, mS_n, mS_i, mS_r, mS_l, mS_d, ne_eq, not_false_eq_true, not_true_eq_false, true_or, or_true, and_true, true_and, if_true, if_false, ite_true, ite_false, reduceIte, Nat.reduceAdd, Nat.reduceLeDiff, Nat.reduceEqDiff, false_and, and_false, or_false, false_or, eq_self, reduceCtorEq, mi_316, mi_317, ml_317, mi_318, ml_318, mi_319, ml_319, mi_320, ml_320, mi_321, ml_321, mi_322, ml_322, mi_359, ml_359, mv_316_1, mv_316_4, mv_316_7, mv_316_8, mv_316_9, mv_316_10, mv_316_13, mv_316_14, mv_316_15, pi_0, pi_1, pl_1, pv_1, pi_2, pl_2, pv_2, pi_3, pl_3, pv_3, pi_4, pl_4, pv_4, pi_5, pl_5, pv_5, pi_6, pl_6, pv_10, pi_7, pl_7, pv_11, pi_8, pl_8, pv_12, pi_9, pl_9, pv_13, pi_10, pl_10, pv_14, pi_11, pl_11, pv_15, pv_20, wi_0, wi_1, wl_1, wv_14, wi_2, wl_2, wv_15, wi_3, wl_3, wv_16, wi_4, wl_4, wv_17, wi_5, wl_5, wv_18, wv_21, pt_P, pt_v, pt_w, pt_SI, pt_SL, kM_SI, kM_SL, lI_SL, lV_SL, lK_SL, lN_SL, lL_SL, lIs_SL, nI_SI, nV_SI, nK_SI, nN_SI, nL_SI, nIs_SI, pp_c, pp_l, pp_r, pp_k, pp_k0, pp_j, pp_j0, isl]
  · exact rm_go (S := vSent S) ⟨r, hr12, hr⟩ ⟨x, hx, rfl⟩
theorem j_play {D v who nx en fi ti a q pc : Nat} {lim : Int32} {S : VS} {fs : List FRM} {ls' rs : List Int32} {h : mH} {cl : List CL} {dn : List NS} {ps : List PT} {vs : List (Int32 × Int32 × Int32)} {k : Nat → Nat} {n : Nat} {V L : Nat → Int32} {nt : Nat} {T : Nat → Nat} {E : EV} (m : xT h v who cl dn ps vs k n V L nt T) (hs : wS h v who lim (vSent S)) (f : frS h v ((nx, en, fi, ti, a, q) :: fs)) (hE1 : E.1 = cl) (hE2 : E.2.1 = dn) (hE3 : E.2.2.1 = ps) (hT : TOU k n V L ps.length E nt T) (hr : ∃ r, r < 12 ∧ S.2.1 = Int32.ofNat r) (hl : S.2.2.2.2.2.2.2.2.2.length + 6 ≤ 1920) (hq6 : q ≤ nt) (hA : AT k n V L ps.length E ((nx, en, fi, ti, a, q) :: fs) pc ls' rs) (hne : ¬ nx = en) (ho : ovr (vKK vs (Int32.ofNat who) lim) S = false) (hk12 : k nx = 12) : SOUT (D + 28) v who lim S pc nx en fi ti a q fs ls' rs h cl dn ps vs k n V L nt T E := by
  obtain ⟨l, c1, e1, s1, s2, s3, s4, s5, s6, s7⟩ := at_next hA hne
  have s2' : pLeaf k 12 3 29 68 nx pc = (l, some (c1, e1)) := by rw [← s2]; unfold pSen; rw [if_neg (by omega), if_pos hk12]
  obtain ⟨_, k29, k37, hj, hc, he⟩ := leaf_inv s2'
  subst hc
  have m0 := m
  obtain ⟨w, hv, hwh, hn, tk', k50, knx, hnt, tt⟩ := m
  obtain ⟨x, hx, hVx⟩ := (s3 (68, nx + 1, 0) (by rw [he]; simp)).2.1 rfl
  have hVx' : V (nx + 1) = Int32.ofNat x := hVx
  have hn1 := knx nx (by omega) (by omega)
  obtain ⟨r, hr12, hr⟩ := hr
  have st0 := m_sen0 (d := D + 27) m0 f s1 hVx' hn1
  rw [if_neg (by omega), if_pos hk12] at st0
  have fv : Fr [v + 2] h (mSI h (v + 2) fs.length (Int32.ofNat (nx + 3))) := Fr_SI ⟨rfl, fun _ _ _ => rfl⟩ (by simp)
  have w1 := wCx_Fr fv (by intro b hb; simp only [List.mem_cons, List.not_mem_nil, or_false] at hb; rcases hv with rfl | rfl <;> omega) w
  have hs1 := wS_Fr fv (by simp) (by simp) hs
  obtain ⟨H, y1, y2, y3, y4⟩ := m_play (d := D + 24) w1 hv hwh hs1 (by rw [vSent_p.2.2.1]; exact hl) (by rw [vSent_p.2.1]; exact hr) hr12 hx
  have v2 := vm_leaf (ls' := ls') (rs := rs) (S' := vPlay (vKK vs (Int32.ofNat who) lim) cl ps (Int32.ofNat x) (vSent S)) s4 ho (by decide) (by rw [hVx', vmC_3, hE1, hE3])
  refine j_leaf m0 hs f hE1 hE2 hE3 hT ⟨r, hr12, hr⟩ hl hq6 hA hne ho hj v2 s7 ?_ y2 y3 y4 ?_ vPlay_l.1 vPlay_l.2.1
  · rw [st0]
    have hk := w1.1
    have y1' : mCall (D + 27) 204 [.ref v, .int (Int32.ofNat x)] (mSI h (v + 2) fs.length (Int32.ofNat (nx + 3))) = some (.inl none, H) := y1
    have hkH := kM_Fr' y3 hk
    rw [x_212_100]
    simp (maxDischargeDepth := 60) only [hk, x_212_0, x_212_1, x_212_4, x_212_5, x_212_6, x_212_7, x_212_8, x_212_11, x_212_12, x_212_13, x_212_14, x_212_15, x_212_18, x_212_21, x_212_24, x_212_25, x_212_26, x_212_27, x_212_28, x_212_29, x_212_30, x_212_33, x_212_34, x_212_35, x_212_36, x_212_37, x_212_38, x_212_39, x_212_42, x_212_45, x_212_48, x_212_49, x_212_50, x_212_92, x_212_93, x_212_94, x_212_97, x_212_101, x_212_102, x_212_105, x_212_108, x_212_109, x_212_110, x_212_113, x_212_116, x_212_117, x_212_118, x_212_121, x_212_124, x_212_127, x_212_128, x_212_129, x_212_130, x_212_133, x_212_136, x_212_137, x_212_140, x_212_141, x_212_142, x_212_145, x_212_148, x_212_151, x_212_152, x_212_153, x_212_154, x_212_155, x_212_156, x_212_157, x_212_158, x_212_159, x_212_162, x_212_163, x_212_164, x_212_165, x_212_166, x_212_167, x_212_170, x_212_173, x_212_174, x_212_175, x_212_176, x_212_177, x_212_180, x_212_181, x_212_184, x_212_186, x_212_187, x_212_190, x_212_192, x_212_193, x_212_196, x_212_199, x_212_202, x_212_204, x_212_205, x_212_206, x_212_207, x_212_209, x_212_210, x_212_213, x_212_216, x_212_219, x_212_221, x_212_222, x_212_224, x_212_227, x_212_228, x_212_231, x_212_232, x_212_234, x_212_235, x_212_238, x_212_239, x_212_241, x_212_244, x_212_245, x_212_248, x_212_251, x_212_254, x_212_256, x_212_257, x_212_258, x_212_259, x_212_260, x_212_261, x_212_264, x_212_266, x_212_267, x_212_269, x_212_272, x_212_273, x_212_275, x_212_276, x_212_279, x_212_282, x_212_284, x_212_287, x_212_288, x_212_290, x_212_291, x_212_292, x_212_293, x_212_296, hv, y1', hkH, Option.bind_some, mAft_n, mAft_v, mAft_x, mS_n, mS_i, mS_r, mS_l, mS_d, ne_eq, not_false_eq_true, not_true_eq_false, true_or, or_true, and_true, true_and, if_true, if_false, ite_true, ite_false, reduceIte, Nat.reduceAdd, Nat.reduceLeDiff, Nat.reduceEqDiff, false_and, and_false, or_false, false_or, eq_self, reduceCtorEq, mi_316, mi_317, ml_317, mi_318, ml_318, mi_319, ml_319, mi_320, ml_320, mi_321, ml_321, mi_322, ml_322, mi_359, ml_359, mv_316_1, mv_316_4, mv_316_7, mv_316_8, mv_316_9, mv_316_10, mv_316_13, mv_316_14, mv_316_15, pi_0, pi_1, pl_1, pv_1, pi_2, pl_2, pv_2, pi_3, pl_3, pv_3, pi_4, pl_4, pv_4, pi_5, pl_5, pv_5, pi_6, pl_6, pv_10, pi_7, pl_7, pv_11, pi_8, pl_8, pv_12, pi_9, pl_9, pv_13, pi_10, pl_10, pv_14, pi_11, pl_11, pv_15, pv_20, wi_0, wi_1, wl_1, wv_14, wi_2, wl_2, wv_15, wi_3, wl_3, wv_16, wi_4, wl_4, wv_17, wi_5, wl_5, wv_18, wv_21, pt_P, pt_v, pt_w, pt_SI, pt_SL, kM_SI, kM_SL, lI_SL, lV_SL, lK_SL, lN_SL, lL_SL, lIs_SL, nI_SI, nV_SI, nK_SI, nN_SI, nL_SI, nIs_SI, pp_c, pp_l, pp_r, pp_k, pp_k0, pp_j, pp_j0, isl]
  · exact ⟨r, hr12, vPlay_l.2.2.trans hr⟩
theorem j_rest {D v who nx en fi ti a q pc : Nat} {lim : Int32} {S : VS} {fs : List FRM} {ls' rs : List Int32} {h : mH} {cl : List CL} {dn : List NS} {ps : List PT} {vs : List (Int32 × Int32 × Int32)} {k : Nat → Nat} {n : Nat} {V L : Nat → Int32} {nt : Nat} {T : Nat → Nat} {E : EV} (m : xT h v who cl dn ps vs k n V L nt T) (hs : wS h v who lim (vSent S)) (f : frS h v ((nx, en, fi, ti, a, q) :: fs)) (hE1 : E.1 = cl) (hE2 : E.2.1 = dn) (hE3 : E.2.2.1 = ps) (hT : TOU k n V L ps.length E nt T) (hr : ∃ r, r < 12 ∧ S.2.1 = Int32.ofNat r) (hl : S.2.2.2.2.2.2.2.2.2.length + 6 ≤ 1920) (hq6 : q ≤ nt) (hA : AT k n V L ps.length E ((nx, en, fi, ti, a, q) :: fs) pc ls' rs) (hne : ¬ nx = en) (ho : ovr (vKK vs (Int32.ofNat who) lim) S = false) (hk13 : k nx = 13) : SOUT (D + 28) v who lim S pc nx en fi ti a q fs ls' rs h cl dn ps vs k n V L nt T E := by
  obtain ⟨l, c1, e1, s1, s2, s3, s4, s5, s6, s7⟩ := at_next hA hne
  have s2' : pLeaf k 13 4 30 73 nx pc = (l, some (c1, e1)) := by rw [← s2]; unfold pSen; rw [if_neg (by omega), if_neg (by omega), if_pos hk13]
  obtain ⟨_, k29, k37, hj, hc, he⟩ := leaf_inv s2'
  subst hc
  have m0 := m
  obtain ⟨w, hv, hwh, hn, tk', k50, knx, hnt, tt⟩ := m
  have hn1 := knx nx (by omega) (by omega)
  obtain ⟨r, hr12, hr⟩ := hr
  have st0 := m_sen0 (d := D + 27) m0 f s1 rfl hn1
  rw [if_neg (by omega), if_neg (by omega), if_pos hk13] at st0
  have fv : Fr [v + 2] h (mSI h (v + 2) fs.length (Int32.ofNat (nx + 3))) := Fr_SI ⟨rfl, fun _ _ _ => rfl⟩ (by simp)
  have w1 := wCx_Fr fv (by intro b hb; simp only [List.mem_cons, List.not_mem_nil, or_false] at hb; rcases hv with rfl | rfl <;> omega) w
  have hs1 := wS_Fr fv (by simp) (by simp) hs
  obtain ⟨H, y1, y2, y3, y4⟩ := m_rest (d := D + 24) (x := V (nx + 1)) w1.1 hv hs1 (by rw [vSent_p.2.2.1]; exact hl)
  have v2 := vm_leaf (K := vKK vs (Int32.ofNat who) lim) (ls' := ls') (rs := rs) (S' := vRest (V (nx + 1)) (vSent S)) s4 ho (by decide) (by rw [vmC_4])
  refine j_leaf m0 hs f hE1 hE2 hE3 hT ⟨r, hr12, hr⟩ hl hq6 hA hne ho hj v2 s7 ?_ y2 y3 y4 ?_ vRest_l.1 vRest_l.2.1
  · rw [st0]
    have hk := w1.1
    have y1' : mCall (D + 27) 205 [.ref v, .int (V (nx + 1))] (mSI h (v + 2) fs.length (Int32.ofNat (nx + 3))) = some (.inl none, H) := y1
    have hkH := kM_Fr' y3 hk
    rw [x_212_108]
    simp (maxDischargeDepth := 60) only [hk, x_212_0, x_212_1, x_212_4, x_212_5, x_212_6, x_212_7, x_212_8, x_212_11, x_212_12, x_212_13, x_212_14, x_212_15, x_212_18, x_212_21, x_212_24, x_212_25, x_212_26, x_212_27, x_212_28, x_212_29, x_212_30, x_212_33, x_212_34, x_212_35, x_212_36, x_212_37, x_212_38, x_212_39, x_212_42, x_212_45, x_212_48, x_212_49, x_212_50, x_212_92, x_212_93, x_212_94, x_212_97, x_212_100, x_212_101, x_212_102, x_212_105, x_212_109, x_212_110, x_212_113, x_212_116, x_212_117, x_212_118, x_212_121, x_212_124, x_212_127, x_212_128, x_212_129, x_212_130, x_212_133, x_212_136, x_212_137, x_212_140, x_212_141, x_212_142, x_212_145, x_212_148, x_212_151, x_212_152, x_212_153, x_212_154, x_212_155, x_212_156, x_212_157, x_212_158, x_212_159, x_212_162, x_212_163, x_212_164, x_212_165, x_212_166, x_212_167, x_212_170, x_212_173, x_212_174, x_212_175, x_212_176, x_212_177, x_212_180, x_212_181, x_212_184, x_212_186, x_212_187, x_212_190, x_212_192, x_212_193, x_212_196, x_212_199, x_212_202, x_212_204, x_212_205, x_212_206, x_212_207, x_212_209, x_212_210, x_212_213, x_212_216, x_212_219, x_212_221, x_212_222, x_212_224, x_212_227, x_212_228, x_212_231, x_212_232, x_212_234, x_212_235, x_212_238, x_212_239, x_212_241, x_212_244, x_212_245, x_212_248, x_212_251, x_212_254, x_212_256, x_212_257, x_212_258, x_212_259, x_212_260, x_212_261, x_212_264, x_212_266, x_212_267, x_212_269, x_212_272, x_212_273, x_212_275, x_212_276, x_212_279, x_212_282, x_212_284, x_212_287, x_212_288, x_212_290, x_212_291, x_212_292, x_212_293, x_212_296, hv, y1', hkH, Option.bind_some, mAft_n, mAft_v, mAft_x, mS_n, mS_i, mS_r, mS_l, mS_d, ne_eq, not_false_eq_true, not_true_eq_false, true_or, or_true, and_true, true_and, if_true, if_false, ite_true, ite_false, reduceIte, Nat.reduceAdd, Nat.reduceLeDiff, Nat.reduceEqDiff, false_and, and_false, or_false, false_or, eq_self, reduceCtorEq, mi_316, mi_317, ml_317, mi_318, ml_318, mi_319, ml_319, mi_320, ml_320, mi_321, ml_321, mi_322, ml_322, mi_359, ml_359, mv_316_1, mv_316_4, mv_316_7, mv_316_8, mv_316_9, mv_316_10, mv_316_13, mv_316_14, mv_316_15, pi_0, pi_1, pl_1, pv_1, pi_2, pl_2, pv_2, pi_3, pl_3, pv_3, pi_4, pl_4, pv_4, pi_5, pl_5, pv_5, pi_6, pl_6, pv_10, pi_7, pl_7, pv_11, pi_8, pl_8, pv_12, pi_9, pl_9, pv_13, pi_10, pl_10, pv_14, pi_11, pl_11, pv_15, pv_20, wi_0, wi_1, wl_1, wv_14, wi_2, wl_2, wv_15, wi_3, wl_3, wv_16, wi_4, wl_4, wv_17, wi_5, wl_5, wv_18, wv_21, pt_P, pt_v, pt_w, pt_SI, pt_SL, kM_SI, kM_SL, lI_SL, lV_SL, lK_SL, lN_SL, lL_SL, lIs_SL, nI_SI, nV_SI, nK_SI, nN_SI, nL_SI, nIs_SI, pp_c, pp_l, pp_r, pp_k, pp_k0, pp_j, pp_j0, isl]
  · exact ⟨r, hr12, vRest_l.2.2.trans hr⟩
