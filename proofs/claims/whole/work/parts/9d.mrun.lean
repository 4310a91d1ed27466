/-! THE REFERENCE'S FRAMES -/
def frR (h : mH) (v : Nat) : List FRM → Prop
  | [] => True
  | (nx, en, fi, ti, _, _) :: fs => mI h (v + 2) fs.length = Int32.ofNat nx ∧ mI h (v + 3) fs.length = Int32.ofNat en ∧ mI h (v + 4) fs.length = Int32.ofNat fi ∧ mI h (v + 5) fs.length = Int32.ofNat ti ∧ frR h v fs
theorem frR_keep {h H : mH} {v : Nat} : ∀ (fs : List FRM), (∀ c q, 2 ≤ c → c ≤ 5 → q < fs.length → mI H (v + c) q = mI h (v + c) q) → frR h v fs → frR H v fs
  | [], _, _ => trivial
  | (nx, en, fi, ti, a, q) :: fs, g, m => by
    obtain ⟨m1, m2, m3, m4, m5⟩ := m
    rw [List.length_cons] at g
    exact ⟨(g 2 _ (by omega) (by omega) (by omega)).trans m1, (g 3 _ (by omega) (by omega) (by omega)).trans m2, (g 4 _ (by omega) (by omega) (by omega)).trans m3, (g 5 _ (by omega) (by omega) (by omega)).trans m4, frR_keep fs (fun c q h1 h2 h3 => g c q h1 h2 (by omega)) m5⟩
theorem frR_Fr {W : List Nat} {h H : mH} {v : Nat} {fs : List FRM} (f : Fr W h H) (hW : ∀ c, 2 ≤ c → c ≤ 5 → v + c ∉ W) (m : frR h v fs) : frR H v fs := frR_keep fs (fun c q h1 h2 _ => Fr_I f (hW c h1 h2)) m
def frS (h : mH) (v : Nat) (fs : List FRM) : Prop := mI h v 19 = Int32.ofNat fs.length ∧ fs.length ≤ 48 ∧ frR h v fs
/-- the visit's fields but the top -/
def KF (v : Nat) (h H : mH) : Prop := ∀ j, ¬ j = 19 → mI H v j = mI h v j
theorem KF_t {v : Nat} {h H G : mH} (a : KF v h H) (b : KF v H G) : KF v h G := fun j hj => (b j hj).trans (a j hj)
theorem wS_KF {h H : mH} {v who : Nat} {lim : Int32} {S : VS} (g : KF v h H) (ea : mI H (v + 1) = mI h (v + 1)) (m : wS h v who lim S) : wS H v who lim S := by
  obtain ⟨sec0, room0, ti0, he0, wo0, st0, re0, mi0, se0, l⟩ := S
  obtain ⟨m1, m2, m3, m4, m5, m6, m7, m8, m9, m10, m11, m12, m13, m14, m15⟩ := m
  exact ⟨(g 1 (by decide)).trans m1, (g 2 (by decide)).trans m2, (g 3 (by decide)).trans m3, (g 4 (by decide)).trans m4, (g 5 (by decide)).trans m5, (g 6 (by decide)).trans m6, (g 7 (by decide)).trans m7, (g 8 (by decide)).trans m8, (g 9 (by decide)).trans m9, (g 10 (by decide)).trans m10, (g 12 (by decide)).trans m11, (g 13 (by decide)).trans m12, m13, m14, fun j hj => by rw [ea]; exact m15 j hj⟩
def WF (v : Nat) : List Nat := [v, v + 2, v + 3, v + 4, v + 5]
theorem m_enter {d v b z m a q : Nat} {fs : List FRM} {h : mH} (hk : kM h) (hv : isW v) (f : frS h v fs) (hl : fs.length ≤ 47) (hb : b < 402) (hz : mI h (pt h + 4) b = Int32.ofNat z) :
    ∃ H, mCall (d + 1) 199 [.ref v, .int (Int32.ofNat b), .int (Int32.ofNat m)] h = some (.inl none, H) ∧ frS H v ((b + 1, z, b + 1, m, a, q) :: fs) ∧ KF v h H ∧ Fr (WF v) h H := by
  obtain ⟨f1, f2, f3⟩ := f
  have hp := pt_P hk
  have hj : mIn (Int32.ofNat fs.length) 64 = true := i_in (by rw [i_of_i (by omega)]; omega) (by rw [i_of_i (by omega)]; omega)
  have en : (Int32.ofNat fs.length).toNatClampNeg = fs.length := i_of_n (by omega)
  have hjb : mIn (Int32.ofNat b) 402 = true := i_in (by rw [i_of_i (by omega)]; omega) (by rw [i_of_i (by omega)]; omega)
  have enb : (Int32.ofNat b).toNatClampNeg = b := i_of_n (by omega)
  refine ⟨mSI (mSI (mSI (mSI (mSI h (v + 4) fs.length (Int32.ofNat (b + 1))) (v + 2) fs.length (Int32.ofNat (b + 1))) (v + 3) fs.length (Int32.ofNat z)) (v + 5) fs.length (Int32.ofNat m)) v 19 (Int32.ofNat (fs.length + 1)), ?_, ?_, ?_, ?_⟩
  · simp (maxDischargeDepth := 60) only [hk, x_199_0, x_199_1, x_199_4, x_199_5, x_199_8, x_199_9, x_199_10, x_199_11, x_199_12, x_199_13, x_199_16, x_199_17, x_199_20, x_199_21, x_199_22, x_199_23, x_199_24, x_199_25, x_199_28, x_199_29, x_199_32, x_199_33, x_199_36, x_199_39, x_199_42, x_199_43, x_199_44, x_199_45, x_199_46, x_199_49, x_199_50, x_199_53, x_199_54, x_199_55, x_199_56, x_199_56i, x_199_57, x_199_60, x_199_61, x_199_62, x_199_65, c_199, hv, hp, hk, wt_a hv hp, wt_b hv hp, wt_c hv hp, wt_d hv hp, wk_c hv, wk_d hv, wk_0 hv, wk_1 hv, f1, hj, en, hjb, enb, hz, i_succ, Option.bind_some, mAft_n, mAft_v, mAft_x, mS_n, mS_i, mS_r, mS_l, mS_d, ne_eq, not_false_eq_true, not_true_eq_false, true_or, or_true, and_true, true_and, if_true, if_false, ite_true, ite_false, reduceIte, Nat.reduceAdd, Nat.reduceLeDiff, Nat.reduceEqDiff, false_and, and_false, or_false, false_or, eq_self, reduceCtorEq, mi_316, mi_317, ml_317, mi_318, ml_318, mi_319, ml_319, mi_320, ml_320, mi_321, ml_321, mi_322, ml_322, mi_359, ml_359, mv_316_1, mv_316_4, mv_316_7, mv_316_8, mv_316_9, mv_316_10, mv_316_13, mv_316_14, mv_316_15, pi_0, pi_1, pl_1, pv_1, pi_2, pl_2, pv_2, pi_3, pl_3, pv_3, pi_4, pl_4, pv_4, pi_5, pl_5, pv_5, pi_6, pl_6, pv_10, pi_7, pl_7, pv_11, pi_8, pl_8, pv_12, pi_9, pl_9, pv_13, pi_10, pl_10, pv_14, pi_11, pl_11, pv_15, pv_20, wi_0, wi_1, wl_1, wv_14, wi_2, wl_2, wv_15, wi_3, wl_3, wv_16, wi_4, wl_4, wv_17, wi_5, wl_5, wv_18, wv_21, pt_P, pt_v, pt_w, pt_SI, pt_SL, kM_SI, kM_SL, lI_SL, lV_SL, lK_SL, lN_SL, lL_SL, lIs_SL, nI_SI, nV_SI, nK_SI, nN_SI, nL_SI, nIs_SI, pp_c, pp_l, pp_r, pp_k, pp_k0, pp_j, pp_j0, isl]
  · refine ⟨by rw [nI_SI, if_pos ⟨rfl, rfl⟩]; rfl, by rw [List.length_cons]; omega, ?_, ?_, ?_, ?_, ?_⟩
    · rw [nI_SI, if_neg (by omega), nI_SI, if_neg (by omega), nI_SI, if_neg (by omega), nI_SI, if_pos ⟨rfl, rfl⟩]
    · rw [nI_SI, if_neg (by omega), nI_SI, if_neg (by omega), nI_SI, if_pos ⟨rfl, rfl⟩]
    · rw [nI_SI, if_neg (by omega), nI_SI, if_neg (by omega), nI_SI, if_neg (by omega), nI_SI, if_neg (by omega), nI_SI, if_pos ⟨rfl, rfl⟩]
    · rw [nI_SI, if_neg (by omega), nI_SI, if_pos ⟨rfl, rfl⟩]
    · refine frR_keep fs (fun c q h1 h2 h3 => ?_) f3
      rw [nI_SI, if_neg (by omega), nI_SI, if_neg (by omega), nI_SI, if_neg (by omega), nI_SI, if_neg (by omega), nI_SI, if_neg (by omega)]
  · intro j hj0
    rw [nI_SI, if_neg (fun y => hj0 y.2), nI_SI, if_neg (by omega), nI_SI, if_neg (by omega), nI_SI, if_neg (by omega), nI_SI, if_neg (by omega)]
  · unfold WF
    exact Fr_SI (Fr_SI (Fr_SI (Fr_SI (Fr_SI ⟨rfl, fun _ _ _ => rfl⟩ (by simp)) (by simp)) (by simp)) (by simp)) (by simp)
/-- what a visit stands on, whatever it has done -/
def xT (h : mH) (v who : Nat) (cl : List CL) (dn : List NS) (ps : List PT) (vs : List (Int32 × Int32 × Int32)) (k : Nat → Nat) (n : Nat) (V L : Nat → Int32) (nt : Nat) (T : Nat → Nat) : Prop := wCx h cl dn ps vs ∧ isW v ∧ who < vs.length ∧ n ≤ 402 ∧ (∀ i, i < n → mI h (pt h + 1) i = kap (k i) ∧ mI h (pt h + 2) i = V i ∧ mI h (pt h + 4) i = L i) ∧ (∀ i, k i < 50) ∧ (∀ i, ¬ k i = 0 → k i < 48 → i + 1 < n) ∧ nt ≤ 6 ∧ ∀ q, q < nt → mI h (pt h + 11) q = Int32.ofNat (T q)
theorem xT_Fr {W : List Nat} {h H : mH} {v who : Nat} {cl : List CL} {dn : List NS} {ps : List PT} {vs : List (Int32 × Int32 × Int32)} {k : Nat → Nat} {n : Nat} {V L : Nat → Int32} {nt : Nat} {T : Nat → Nat} (f : Fr W h H) (hW : ∀ a, a ∈ W → a = 322 ∨ 347 ≤ a) (m : xT h v who cl dn ps vs k n V L nt T) : xT H v who cl dn ps vs k n V L nt T := by
  obtain ⟨w, hv, hwh, hn, tk', k50, knx, hnt, tt⟩ := m
  have hp := pt_P w.1
  have nt' : ∀ i, i ≤ 11 → pt h + i ∉ W := fun i hi z => by have := hW _ z; rcases hp with e | e <;> rw [e] at this <;> omega
  refine ⟨wCx_Fr f hW w, hv, hwh, hn, ?_, k50, knx, hnt, ?_⟩
  · rw [pt_Fr f]
    exact fun i hi => ⟨(Fr_I f (nt' 1 (by omega))).trans (tk' i hi).1, (Fr_I f (nt' 2 (by omega))).trans (tk' i hi).2.1, (Fr_I f (nt' 4 (by omega))).trans (tk' i hi).2.2⟩
  · rw [pt_Fr f]
    exact fun q hq => (Fr_I f (nt' 11 (by omega))).trans (tt q hq)
theorem xT_xS {h : mH} {v who : Nat} {lim : Int32} {S : VS} {cl : List CL} {dn : List NS} {ps : List PT} {vs : List (Int32 × Int32 × Int32)} {k : Nat → Nat} {n : Nat} {V L : Nat → Int32} {nt : Nat} {T : Nat → Nat} (m : xT h v who cl dn ps vs k n V L nt T) (s : wS h v who lim S) : xS h v who lim S cl dn ps vs k n V := by
  obtain ⟨w, hv, hwh, hn, tk', k50, knx, _, _⟩ := m
  exact ⟨w, hv, hwh, s, hn, fun i hi => ⟨(tk' i hi).1, (tk' i hi).2.1⟩, k50, knx⟩
theorem frS_nx {h : mH} {v nx nx' en fi ti a q : Nat} {fs : List FRM} (f : frS h v ((nx, en, fi, ti, a, q) :: fs)) : frS (mSI h (v + 2) fs.length (Int32.ofNat nx')) v ((nx', en, fi, ti, a, q) :: fs) := by
  obtain ⟨f1, f2, f3, f4, f5, f6, f7⟩ := f
  refine ⟨by rw [nI_SI, if_neg (by omega)]; exact f1, f2, by rw [nI_SI, if_pos ⟨rfl, rfl⟩], by rw [nI_SI, if_neg (by omega)]; exact f4, by rw [nI_SI, if_neg (by omega)]; exact f5, by rw [nI_SI, if_neg (by omega)]; exact f6, ?_⟩
  exact frR_keep fs (fun c q h1 h2 h3 => by rw [nI_SI, if_neg (by omega)]) f7
