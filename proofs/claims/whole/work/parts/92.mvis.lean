/-! THE REFERENCE'S VISIT: STATE, NOTES, MISSES -/
theorem ix5 : ∀ p, p < 16 → (5 : Int32) * Int32.ofNat p = Int32.ofNat (5 * p) ∧ Int32.ofNat (5 * p) + 1 = Int32.ofNat (5 * p + 1) ∧ Int32.ofNat (5 * p) + 2 = Int32.ofNat (5 * p + 2) ∧ Int32.ofNat (5 * p) + 3 = Int32.ofNat (5 * p + 3) ∧ Int32.ofNat (5 * p) + 4 = Int32.ofNat (5 * p + 4) ∧ mIn (Int32.ofNat (5 * p)) 80 = true ∧ mIn (Int32.ofNat (5 * p + 1)) 80 = true ∧ mIn (Int32.ofNat (5 * p + 2)) 80 = true ∧ mIn (Int32.ofNat (5 * p + 3)) 80 = true ∧ mIn (Int32.ofNat (5 * p + 4)) 80 = true ∧ (Int32.ofNat (5 * p)).toNatClampNeg = 5 * p ∧ (Int32.ofNat (5 * p + 1)).toNatClampNeg = 5 * p + 1 ∧ (Int32.ofNat (5 * p + 2)).toNatClampNeg = 5 * p + 2 ∧ (Int32.ofNat (5 * p + 3)).toNatClampNeg = 5 * p + 3 ∧ (Int32.ofNat (5 * p + 4)).toNatClampNeg = 5 * p + 4 := by decide +kernel
theorem ix3 : ∀ v, v < 8 → (3 : Int32) * Int32.ofNat v = Int32.ofNat (3 * v) ∧ Int32.ofNat (3 * v) + 1 = Int32.ofNat (3 * v + 1) ∧ Int32.ofNat (3 * v) + 2 = Int32.ofNat (3 * v + 2) ∧ mIn (Int32.ofNat (3 * v)) 24 = true ∧ mIn (Int32.ofNat (3 * v + 1)) 24 = true ∧ mIn (Int32.ofNat (3 * v + 2)) 24 = true ∧ (Int32.ofNat (3 * v)).toNatClampNeg = 3 * v ∧ (Int32.ofNat (3 * v + 1)).toNatClampNeg = 3 * v + 1 ∧ (Int32.ofNat (3 * v + 2)).toNatClampNeg = 3 * v + 2 := by decide +kernel
theorem wk_c {v i k : Nat} (hv : isW v) (hk : k ≤ 346) : (v + i = k) = False := by apply propext; rcases hv with rfl | rfl <;> (constructor <;> intro h <;> first | omega | exact h.elim)
theorem wk_d {v i k : Nat} (hv : isW v) (hk : k ≤ 346) : (k = v + i) = False := by apply propext; rcases hv with rfl | rfl <;> (constructor <;> intro h <;> first | omega | exact h.elim)
theorem wk_0 {v k : Nat} (hv : isW v) (hk : k ≤ 346) : (v = k) = False := by apply propext; rcases hv with rfl | rfl <;> (constructor <;> intro h <;> first | omega | exact h.elim)
theorem wk_1 {v k : Nat} (hv : isW v) (hk : k ≤ 346) : (k = v) = False := by apply propext; rcases hv with rfl | rfl <;> (constructor <;> intro h <;> first | omega | exact h.elim)
theorem wt_a {v t i : Nat} (hv : isW v) (hp : isP t) (hi : i ≤ 11) : (t + i = v) = False := by apply propext; rcases hv with rfl | rfl <;> rcases hp with rfl | rfl <;> (constructor <;> intro h <;> first | omega | exact h.elim)
theorem wt_b {v t i j : Nat} (hv : isW v) (hp : isP t) (hi : i ≤ 11) : (t + i = v + j) = False := by apply propext; rcases hv with rfl | rfl <;> rcases hp with rfl | rfl <;> (constructor <;> intro h <;> first | omega | exact h.elim)
theorem wt_c {v t : Nat} (hv : isW v) (hp : isP t) : (t = v) = False := by apply propext; rcases hv with rfl | rfl <;> rcases hp with rfl | rfl <;> (constructor <;> intro h <;> first | omega | exact h.elim)
theorem wt_d {v t j : Nat} (hv : isW v) (hp : isP t) : (t = v + j) = False := by apply propext; rcases hv with rfl | rfl <;> rcases hp with rfl | rfl <;> (constructor <;> intro h <;> first | omega | exact h.elim)
/-- the visit's own state: who, the end; second, room, tired, heard, worth, steps, rests, misses, sentences, events -/
def wS (h : mH) (v who : Nat) (lim : Int32) : VS → Prop
  | (sec, room, ti, he, wo, st, re, mi, se, l) => mI h v 1 = Int32.ofNat who ∧ mI h v 2 = lim ∧ mI h v 3 = sec ∧ mI h v 4 = room ∧ mI h v 5 = ti ∧ mI h v 6 = he ∧ mI h v 7 = wo ∧ mI h v 8 = st ∧ mI h v 9 = re ∧ mI h v 10 = mi ∧ mI h v 12 = se ∧ mI h v 13 = Int32.ofNat (l.length / 3) ∧ l.length % 3 = 0 ∧ l.length ≤ 1920 ∧ ∀ j, j < l.length → mI h (v + 1) j = l.getD j 0
def mPa (h : mH) (t : Nat) (ps : List PT) : Prop := mI h t 8 = Int32.ofNat ps.length ∧ ps.length ≤ 16 ∧ ∀ p, p < ps.length → mI h (t + 10) (5 * p) = lg (ps.map (·.1)) (Int32.ofNat p) ∧ mI h (t + 10) (5 * p + 1) = lg (ps.map (·.2.1)) (Int32.ofNat p) ∧ mI h (t + 10) (5 * p + 2) = lg (ps.map (·.2.2.1)) (Int32.ofNat p) ∧ mI h (t + 10) (5 * p + 3) = lg (ps.map (·.2.2.2.1)) (Int32.ofNat p) ∧ mI h (t + 10) (5 * p + 4) = lg (ps.map (·.2.2.2.2)) (Int32.ofNat p)
def mVi (h : mH) (vs : List (Int32 × Int32 × Int32)) : Prop := mI h 316 6 = Int32.ofNat vs.length ∧ vs.length ≤ 8 ∧ ∀ v, v < vs.length → mI h 319 (3 * v) = lg (vs.map (·.1)) (Int32.ofNat v) ∧ mI h 319 (3 * v + 1) = lg (vs.map (·.2.1)) (Int32.ofNat v) ∧ mI h 319 (3 * v + 2) = lg (vs.map (·.2.2)) (Int32.ofNat v)
theorem nt_ix {n : Nat} (h : n ≤ 639) : (3 : Int32) * Int32.ofNat n = Int32.ofNat (3 * n) ∧ Int32.ofNat (3 * n) + 1 = Int32.ofNat (3 * n + 1) ∧ Int32.ofNat (3 * n) + 2 = Int32.ofNat (3 * n + 2) ∧ mIn (Int32.ofNat (3 * n)) 1920 = true ∧ mIn (Int32.ofNat (3 * n + 1)) 1920 = true ∧ mIn (Int32.ofNat (3 * n + 2)) 1920 = true ∧ (Int32.ofNat (3 * n)).toNatClampNeg = 3 * n ∧ (Int32.ofNat (3 * n + 1)).toNatClampNeg = 3 * n + 1 ∧ (Int32.ofNat (3 * n + 2)).toNatClampNeg = 3 * n + 2 := by
  refine ⟨?_, ?_, ?_, ?_, ?_, ?_, ?_, ?_, ?_⟩
  · rw [show (3 : Int32) = Int32.ofNat 3 from rfl, i_mulof]
  · rw [i_succ]
  · rw [show (2 : Int32) = Int32.ofNat 2 from rfl, i_addof]
  · exact i_in (by rw [i_of_i (by omega)]; omega) (by rw [i_of_i (by omega)]; omega)
  · exact i_in (by rw [i_of_i (by omega)]; omega) (by rw [i_of_i (by omega)]; omega)
  · exact i_in (by rw [i_of_i (by omega)]; omega) (by rw [i_of_i (by omega)]; omega)
  · exact i_of_n (by omega)
  · exact i_of_n (by omega)
  · exact i_of_n (by omega)
theorem l3_get {l : List Int32} {a b c : Int32} {j : Nat} (h : j < l.length + 3) : (l ++ [a, b, c]).getD j 0 = if j = l.length + 2 then c else if j = l.length + 1 then b else if j = l.length then a else l.getD j 0 := by
  rw [List.getD_eq_getElem?_getD, List.getD_eq_getElem?_getD]
  by_cases c0 : j < l.length
  · rw [List.getElem?_append_left c0, if_neg (by omega), if_neg (by omega), if_neg (by omega)]
  · rw [List.getElem?_append_right (by omega)]
    obtain ⟨q, hq⟩ : ∃ q, j = l.length + q := ⟨j - l.length, by omega⟩
    subst hq
    rw [Nat.add_sub_cancel_left]
    match q, (show q < 3 by omega) with
    | 0, _ => rw [if_neg (by omega), if_neg (by omega), if_pos (by omega)]; rfl
    | 1, _ => rw [if_neg (by omega), if_pos rfl]; rfl
    | 2, _ => rw [if_pos rfl]; rfl
/-- the visit's fields that no event changes -/
def KX (v : Nat) (h H : mH) : Prop := ∀ j, (j = 0 ∨ j = 11 ∨ 14 ≤ j) → mI H v j = mI h v j
theorem KX_t {v : Nat} {h H G : mH} (a : KX v h H) (b : KX v H G) : KX v h G := fun j hj => (b j hj).trans (a j hj)
theorem KX_SI {v k : Nat} {x : Int32} {h H : mH} (a : KX v h H) (hk : ¬ (k = 0 ∨ k = 11 ∨ 14 ≤ k)) : KX v h (mSI H v k x) := fun j hj => by rw [nI_SI, if_neg (by omega)]; exact a j hj
theorem KX_r {v : Nat} {h : mH} : KX v h h := fun _ _ => rfl
theorem m_note {d v who : Nat} {lim kd w sec room ti he wo st re mi se : Int32} {l : List Int32} {h : mH} (hk : kM h) (hv : isW v) (m : wS h v who lim (sec, room, ti, he, wo, st, re, mi, se, l)) (hl : l.length + 3 ≤ 1920) :
    ∃ H, mCall (d + 1) 200 [.ref v, .int kd, .int w] h = some (.inl none, H) ∧ wS H v who lim (sec, room, ti, he, wo, st, re, mi, se, l ++ [kd, sec, w]) ∧ Fr [v, v + 1] h H ∧ KX v h H := by
  obtain ⟨m1, m2, m3, m4, m5, m6, m7, m8, m9, m10, m11, m12, m13, m14, m15⟩ := m
  obtain ⟨n, hn⟩ : ∃ n, l.length = 3 * n := ⟨l.length / 3, by omega⟩
  have e3 : l.length / 3 = n := by omega
  rw [e3] at m12
  obtain ⟨a0, a1, a2, b0, b1, b2, c0, c1, c2⟩ := nt_ix (n := n) (by omega)
  refine ⟨mSI (mSI (mSI (mSI h (v + 1) (3 * n) kd) (v + 1) (3 * n + 1) sec) (v + 1) (3 * n + 2) w) v 13 (Int32.ofNat (n + 1)), ?_, ?_, ?_, ?_⟩
  · simp (maxDischargeDepth := 60) only [hk, x_200_0, x_200_1, x_200_4, x_200_5, x_200_6, x_200_9, x_200_10, x_200_11, x_200_12, x_200_13, x_200_16, x_200_17, x_200_18, x_200_21, x_200_22, x_200_23, x_200_24, x_200_25, x_200_28, x_200_29, x_200_30, x_200_33, x_200_34, x_200_35, x_200_38, x_200_39, x_200_40, x_200_41, x_200_42, x_200_43, x_200_44, x_200_44i, x_200_45, x_200_48, x_200_49, x_200_50, x_200_53, c_200, hv, m12, m3, a0, a1, a2, b0, b1, b2, c0, c1, c2, i_succ, Option.bind_some, mAft_n, mAft_v, mAft_x, mS_n, mS_i, mS_r, mS_l, mS_d, ne_eq, not_false_eq_true, not_true_eq_false, true_or, or_true, and_true, true_and, if_true, if_false, ite_true, ite_false, reduceIte, Nat.reduceAdd, Nat.reduceLeDiff, Nat.reduceEqDiff, false_and, and_false, or_false, false_or, eq_self, reduceCtorEq, mi_316, mi_317, ml_317, mi_318, ml_318, mi_319, ml_319, mi_320, ml_320, mi_321, ml_321, mi_322, ml_322, mi_359, ml_359, mv_316_1, mv_316_4, mv_316_7, mv_316_8, mv_316_9, mv_316_10, mv_316_13, mv_316_14, mv_316_15, pi_0, pi_1, pl_1, pv_1, pi_2, pl_2, pv_2, pi_3, pl_3, pv_3, pi_4, pl_4, pv_4, pi_5, pl_5, pv_5, pi_6, pl_6, pv_10, pi_7, pl_7, pv_11, pi_8, pl_8, pv_12, pi_9, pl_9, pv_13, pi_10, pl_10, pv_14, pi_11, pl_11, pv_15, pv_20, wi_0, wi_1, wl_1, wv_14, wi_2, wl_2, wv_15, wi_3, wl_3, wv_16, wi_4, wl_4, wv_17, wi_5, wl_5, wv_18, wv_21, pt_P, pt_v, pt_w, pt_SI, pt_SL, kM_SI, kM_SL, lI_SL, lV_SL, lK_SL, lN_SL, lL_SL, lIs_SL, nI_SI, nV_SI, nK_SI, nN_SI, nL_SI, nIs_SI, pp_c, pp_l, pp_r, pp_k, pp_k0, pp_j, pp_j0, isl]
  · have I : ∀ k, ¬ k = 13 → mI (mSI (mSI (mSI (mSI h (v + 1) (3 * n) kd) (v + 1) (3 * n + 1) sec) (v + 1) (3 * n + 2) w) v 13 (Int32.ofNat (n + 1))) v k = mI h v k := by
      intro k hk0
      rw [nI_SI, if_neg (fun z => hk0 z.2), nI_SI, if_neg (by omega), nI_SI, if_neg (by omega), nI_SI, if_neg (by omega)]
    have el : (l ++ [kd, sec, w]).length = 3 * (n + 1) := by rw [List.length_append, List.length_cons, List.length_cons, List.length_cons, List.length_nil]; omega
    refine ⟨(I 1 (by decide)).trans m1, (I 2 (by decide)).trans m2, (I 3 (by decide)).trans m3, (I 4 (by decide)).trans m4, (I 5 (by decide)).trans m5, (I 6 (by decide)).trans m6, (I 7 (by decide)).trans m7, (I 8 (by decide)).trans m8, (I 9 (by decide)).trans m9, (I 10 (by decide)).trans m10, (I 12 (by decide)).trans m11, ?_, ?_, ?_, ?_⟩
    · rw [nI_SI, if_pos ⟨rfl, rfl⟩, el, show 3 * (n + 1) / 3 = n + 1 by omega]
    · rw [el]; omega
    · rw [el]; omega
    · intro j hj
      rw [el] at hj
      rw [l3_get (by omega), nI_SI, if_neg (by omega), nI_SI, nI_SI, nI_SI, hn]
      by_cases y2 : j = 3 * n + 2
      · rw [if_pos ⟨rfl, y2⟩, if_pos y2]
      · rw [if_neg (fun z => y2 z.2), if_neg y2]
        by_cases y1 : j = 3 * n + 1
        · rw [if_pos ⟨rfl, y1⟩, if_pos y1]
        · rw [if_neg (fun z => y1 z.2), if_neg y1]
          by_cases y0 : j = 3 * n
          · rw [if_pos ⟨rfl, y0⟩, if_pos y0]
          · rw [if_neg (fun z => y0 z.2), if_neg y0]
            exact m15 j (by omega)
  · exact Fr_1 (Fr_1 (Fr_1 (Fr_1 ⟨rfl, fun _ _ _ => rfl⟩ (by simp)) (by simp)) (by simp)) (by simp)
  · intro j hj
    rw [nI_SI, if_neg (by omega), nI_SI, if_neg (by omega), nI_SI, if_neg (by omega), nI_SI, if_neg (by omega)]
theorem m_miss {d v who : Nat} {lim w : Int32} {S : VS} {h : mH} (hk : kM h) (hv : isW v) (m : wS h v who lim S) (hl : S.2.2.2.2.2.2.2.2.2.length + 3 ≤ 1920) :
    ∃ H, mCall (d + 2) 201 [.ref v, .int w] h = some (.inl none, H) ∧ wS H v who lim (vMiss w S) ∧ Fr [v, v + 1] h H ∧ KX v h H := by
  obtain ⟨sec, room, ti, he, wo, st, re, mi, se, l⟩ := S
  have m0 := m
  obtain ⟨m1, m2, m3, m4, m5, m6, m7, m8, m9, m10, m11, m12, m13, m14, m15⟩ := m
  have mn : wS (mSI h v 10 (mi + 1)) v who lim (sec, room, ti, he, wo, st, re, mi + 1, se, l) := by
    have I : ∀ k, ¬ k = 10 → mI (mSI h v 10 (mi + 1)) v k = mI h v k := fun k hk0 => by rw [nI_SI, if_neg (fun z => hk0 z.2)]
    refine ⟨(I 1 (by decide)).trans m1, (I 2 (by decide)).trans m2, (I 3 (by decide)).trans m3, (I 4 (by decide)).trans m4, (I 5 (by decide)).trans m5, (I 6 (by decide)).trans m6, (I 7 (by decide)).trans m7, (I 8 (by decide)).trans m8, (I 9 (by decide)).trans m9, by rw [nI_SI, if_pos ⟨rfl, rfl⟩], (I 12 (by decide)).trans m11, (I 13 (by decide)).trans m12, m13, m14, fun j hj => ?_⟩
    rw [nI_SI, if_neg (by omega)]; exact m15 j hj
  obtain ⟨H, e1, e2, e3, e4⟩ := m_note (d := d) (kd := 4) (w := w) (by rw [kM_SI]; exact hk) hv mn hl
  refine ⟨H, ?_, e2, Fr_trans (Fr_1 ⟨rfl, fun _ _ _ => rfl⟩ (by simp)) e3, KX_t (KX_SI KX_r (by omega)) e4⟩
  have hk1 := kM_Fr' e3 (by rw [kM_SI]; exact hk)
  simp (maxDischargeDepth := 60) only [hk, x_201_0, x_201_1, x_201_1i, x_201_2, x_201_5, x_201_6, x_201_7, x_201_10, x_201_11, x_201_12, x_201_13, x_201_16, c_201, hv, m10, e1, hk1, Option.bind_some, mAft_n, mAft_v, mAft_x, mS_n, mS_i, mS_r, mS_l, mS_d, ne_eq, not_false_eq_true, not_true_eq_false, true_or, or_true, and_true, true_and, if_true, if_false, ite_true, ite_false, reduceIte, Nat.reduceAdd, Nat.reduceLeDiff, Nat.reduceEqDiff, false_and, and_false, or_false, false_or, eq_self, reduceCtorEq, mi_316, mi_317, ml_317, mi_318, ml_318, mi_319, ml_319, mi_320, ml_320, mi_321, ml_321, mi_322, ml_322, mi_359, ml_359, mv_316_1, mv_316_4, mv_316_7, mv_316_8, mv_316_9, mv_316_10, mv_316_13, mv_316_14, mv_316_15, pi_0, pi_1, pl_1, pv_1, pi_2, pl_2, pv_2, pi_3, pl_3, pv_3, pi_4, pl_4, pv_4, pi_5, pl_5, pv_5, pi_6, pl_6, pv_10, pi_7, pl_7, pv_11, pi_8, pl_8, pv_12, pi_9, pl_9, pv_13, pi_10, pl_10, pv_14, pi_11, pl_11, pv_15, pv_20, wi_0, wi_1, wl_1, wv_14, wi_2, wl_2, wv_15, wi_3, wl_3, wv_16, wi_4, wl_4, wv_17, wi_5, wl_5, wv_18, wv_21, pt_P, pt_v, pt_w, pt_SI, pt_SL, kM_SI, kM_SL, lI_SL, lV_SL, lK_SL, lN_SL, lL_SL, lIs_SL, nI_SI, nV_SI, nK_SI, nN_SI, nL_SI, nIs_SI, pp_c, pp_l, pp_r, pp_k, pp_k0, pp_j, pp_j0, isl]
