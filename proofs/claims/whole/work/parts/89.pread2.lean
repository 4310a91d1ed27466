/-! THE REFERENCE READS -/
theorem kdA_sh {B : List Int32} {i len : Nat} : kdA B i len < 48 ∨ kdA B i len = 49 := by
  unfold kdA
  have k9 := kwF_le (B := B) (s := i) (len := len) 29 0
  split
  · split
    · left; omega
    · right; rfl
  · split
    · split
      · left; omega
      · right; rfl
    · split
      · split
        · left; omega
        · left; omega
      · rcases sy_ix (x := B.getD i 0) sSy 0 (by rw [sSy_n]; omega) with ⟨h1, h2⟩ | ⟨q, h1, h2, h3⟩
        · right; exact h2
        · left
          have h3' : sy (B.getD i 0) sSy 31 = 31 + q := h3
          rw [sSy_n] at h1
          omega
theorem spl_sh {B : List Int32} : ∀ (n i c : Nat), B.length + 1 ≤ i + n → i ≤ B.length → c ≤ 400 → 1 ≤ (spl B n i c).length ∧ ∀ j, j < (spl B n i c).length → (((spl B n i c).getD j (0, 0, 0, 0)).1 < 48 ↔ j + 1 < (spl B n i c).length) := by
  intro n
  induction n with
  | zero => intro i c e hi; omega
  | succ n ih =>
    intro i c e hi hc
    have hj := rn_le (p := isBl) (B := B) (B.length - i) i
    rw [spl]
    generalize rn isBl B (B.length - i) i = j at hj ⊢
    by_cases c2 : B.length ≤ j
    · rw [if_pos c2]
      refine ⟨by simp, fun q hq => ?_⟩
      rw [List.length_cons, List.length_nil] at hq ⊢
      rw [show q = 0 by omega]
      show (48 : Nat) < 48 ↔ _
      omega
    · rw [if_neg c2]
      dsimp only
      have he := tkEnd_le (B := B) (i := j) (by omega)
      have ks := kdA_sh (B := B) (i := j) (len := tkEnd B j - j)
      have g : ∀ kd, (kd < 48 ∨ kd = 49) → (kd < 48 → c < 400) → 1 ≤ ((kd, j, tkEnd B j - j, tkN B kd j (tkEnd B j - j)) :: (if kd = 49 then [] else spl B n (tkEnd B j) (c + 1))).length ∧ ∀ q, q < ((kd, j, tkEnd B j - j, tkN B kd j (tkEnd B j - j)) :: (if kd = 49 then [] else spl B n (tkEnd B j) (c + 1))).length → ((((kd, j, tkEnd B j - j, tkN B kd j (tkEnd B j - j)) :: (if kd = 49 then [] else spl B n (tkEnd B j) (c + 1))).getD q (0, 0, 0, 0)).1 < 48 ↔ q + 1 < ((kd, j, tkEnd B j - j, tkN B kd j (tkEnd B j - j)) :: (if kd = 49 then [] else spl B n (tkEnd B j) (c + 1))).length) := by
        intro kd h1 h2
        by_cases c5 : kd = 49
        · rw [if_pos c5]
          refine ⟨by simp, fun q hq => ?_⟩
          rw [List.length_cons, List.length_nil] at hq ⊢
          rw [show q = 0 by omega]
          show kd < 48 ↔ _
          omega
        · rw [if_neg c5]
          obtain ⟨a1, a2⟩ := ih (tkEnd B j) (c + 1) (by omega) (by omega) (by omega)
          refine ⟨by simp, fun q hq => ?_⟩
          rw [List.length_cons] at hq ⊢
          cases q with
          | zero =>
            show kd < 48 ↔ _
            omega
          | succ q =>
            rw [List.getD_cons_succ, a2 q (by omega)]
            omega
      by_cases c4 : c < 400
      · rw [if_pos c4]; exact g _ ks (fun _ => c4)
      · rw [if_neg c4]; exact g 49 (Or.inr rfl) (by omega)
/-- the state at the beginning of a reading -/
def rdQ (B : List Int32) (H : mH) (p : Nat) : TS := ((fun j => ((tT B).getD j (0, 0, 0, 0)).1, (tT B).length, mI H (p + 3), mL H (p + 5), mL H (p + 6), mL H (p + 7), mL H (p + 8), 0, 0, 0, 0), (0, -1, mI H (p + 2), mI H (p + 4)), mI H (p + 9), mI H (p + 10), mI H (p + 11), 0, 0, 0)
def kdF (B : List Int32) : Nat → Nat := fun j => ((tT B).getD j (0, 0, 0, 0)).1
theorem tT_ok {B : List Int32} (hl : B.length ≤ 2000) : (tT B).length ≤ 401 ∧ 1 ≤ (tT B).length ∧ (∀ j, kdF B j < 50) ∧ ∀ j, j < (tT B).length → (kdF B j < 48 ↔ j + 1 < (tT B).length) := by
  have a := spl_ok (B := B) hl (B.length + 1) 0 0 (by omega) (by omega)
  have b := spl_sh (B := B) (B.length + 1) 0 0 (by omega) (by omega) (by omega)
  refine ⟨a.1, b.1, fun j => ?_, b.2⟩
  unfold kdF
  by_cases c : j < (tT B).length
  · rw [List.getD_eq_getElem?_getD, List.getElem?_eq_getElem c]
    exact (a.2 _ (List.getElem_mem c)).1
  · rw [List.getD_eq_getElem?_getD, List.getElem?_eq_none (by omega)]
    show (0 : Nat) < 50
    omega
theorem rd_tS {B : List Int32} {H : mH} {p : Nat} (hl : B.length ≤ 2000) (hk : kM H) (hp : isP p) (hS : skR H p B (tT B)) (e6 : mI H p 6 = 0) (e7 : mI H p 7 = 0) (e8 : mI H p 8 = 0) (e9 : mI H p 9 = 0) (e16 : mI H p 16 = 0) (e17 : mI H p 17 = 0) (e18 : mI H p 18 = 0) (e19 : mI H p 19 = -1) : tS H p 0 (rdQ B H p) := by
  obtain ⟨t1, t2, t3, t4⟩ := tT_ok hl
  obtain ⟨s1, s2, s3⟩ := hS
  refine ⟨⟨hk, hp, ⟨show (tT B).length ≤ 402 by omega, t2, t3, fun i hi => (t4 i (by show i < (tT B).length; have : i + 1 < (tT B).length := hi; omega)).mpr hi, ?_, Nat.zero_le _, Nat.zero_le _, Nat.zero_le _⟩, ?_, fun j hj => (s3 j hj).1, rfl, rfl, rfl, rfl, rfl, e6, e8, e9, e16, e17, e18, e19, rfl, rfl, e7⟩, rfl, rfl, rfl⟩
  · show ¬ kdF B ((tT B).length - 1) < 48
    rw [t4 _ (by omega)]; omega
  · show 0 < (tT B).length
    omega
theorem s_read {D p : Nat} {B : List Int32} {h : mH} (hk : kM h) (hp : isP p) (hB : tpR h B) (hb : bytes B) :
    ∃ G, tS G p 0 (rdQ B G p) ∧ skR G p B (tT B) ∧ FT p 0 h G ∧ RT p 0 (rdQ B G p) G (mCall (D + 37) 123 [.ref p] h) (pTxt (kdF B) 402 0 0) := by
  have hl := hB.2.1
  generalize hG0 : mSI (mSI (mSI (mSI (mSI (mSI (mSI (mSI h p 6 0) p 7 0) p 8 0) p 9 0) p 16 0) p 17 0) p 18 0) p 19 (-1) = G0
  have hk0 : kM G0 := by rw [← hG0]; simp only [kM_SI]; exact hk
  have f0 : FT p 0 h G0 := by
    rw [← hG0]
    repeat' first
      | exact FT_refl
      | refine FT_SI ?_ (by omega)
  obtain ⟨G, a1, a2, a3, a4, a5⟩ := s_split (d := D + 30) hk0 hp (FT_tp hp f0 hB) hb
  have g : ∀ k x, mI G0 p k = x → ¬ k = 0 → mI G p k = x := fun k x e hk => (a5 k hk).trans e
  have mT := rd_tS hl a2 hp a3 (g 6 0 (by rw [← hG0]; simp [nI_SI]) (by decide)) (g 7 0 (by rw [← hG0]; simp [nI_SI]) (by decide)) (g 8 0 (by rw [← hG0]; simp [nI_SI]) (by decide)) (g 9 0 (by rw [← hG0]; simp [nI_SI]) (by decide)) (g 16 0 (by rw [← hG0]; simp [nI_SI]) (by decide)) (g 17 0 (by rw [← hG0]; simp [nI_SI]) (by decide)) (g 18 0 (by rw [← hG0]; simp [nI_SI]) (by decide)) (g 19 (-1) (by rw [← hG0]; simp [nI_SI]) (by decide))
  have e := r_txt (D := D) (b := 0) (o := none) 402 mT (by omega) (by show (0 : Nat) ≤ 24; omega)
  have st : mCall (D + 37) 123 [.ref p] h = mExec (mCall (D + 36)) 123 46 [some (.ref p), some (.int 1), none] [] G := by
    have a1' : mCall (D + 36) 100 [.ref p] (mSI (mSI (mSI (mSI (mSI (mSI (mSI (mSI h p 6 0) p 7 0) p 8 0) p 9 0) p 16 0) p 17 0) p 18 0) p 19 (-1)) = some (.inl none, G) := by rw [hG0]; exact a1
    simp (maxDischargeDepth := 60) only [hk, x_123_0, x_123_1, x_123_2, x_123_5, x_123_6, x_123_7, x_123_10, x_123_11, x_123_12, x_123_15, x_123_16, x_123_17, x_123_20, x_123_21, x_123_22, x_123_25, x_123_26, x_123_27, x_123_30, x_123_31, x_123_32, x_123_35, x_123_36, x_123_37, x_123_40, x_123_41, x_123_44, x_123_45, x_123_47, x_123_50, x_123_51, x_123_54, x_123_55, x_123_58, x_123_59, x_123_62, x_123_65, x_123_66, x_123_69, x_123_70, x_123_73, x_123_74, x_123_75, x_123_76, x_123_79, x_123_80, x_123_83, x_123_86, x_123_87, x_123_88, x_123_91, x_123_92, x_123_95, x_123_98, x_123_99, x_123_100, x_123_103, x_123_104, x_123_107, x_123_110, x_123_111, x_123_113, x_123_116, x_123_117, x_123_120, x_123_123, x_123_124, x_123_127, x_123_128, x_123_131, x_123_132, x_123_135, c_123, hp, a1', a2, Option.bind_some, mAft_n, mAft_v, mAft_x, mS_n, mS_i, mS_r, mS_l, mS_d, ne_eq, not_false_eq_true, not_true_eq_false, true_or, or_true, and_true, true_and, if_true, if_false, ite_true, ite_false, reduceIte, Nat.reduceAdd, Nat.reduceLeDiff, Nat.reduceEqDiff, false_and, and_false, or_false, false_or, eq_self, reduceCtorEq, mi_316, mi_317, ml_317, mi_318, ml_318, mi_319, ml_319, mi_320, ml_320, mi_321, ml_321, mi_322, ml_322, mi_359, ml_359, mv_316_1, mv_316_4, mv_316_7, mv_316_8, mv_316_9, mv_316_10, mv_316_13, mv_316_14, mv_316_15, pi_0, pi_1, pl_1, pv_1, pi_2, pl_2, pv_2, pi_3, pl_3, pv_3, pi_4, pl_4, pv_4, pi_5, pl_5, pv_5, pi_6, pl_6, pv_10, pi_7, pl_7, pv_11, pi_8, pl_8, pv_12, pi_9, pl_9, pv_13, pi_10, pl_10, pv_14, pi_11, pl_11, pv_15, pv_20, wi_0, wi_1, wl_1, wv_14, wi_2, wl_2, wv_15, wi_3, wl_3, wv_16, wi_4, wl_4, wv_17, wi_5, wl_5, wv_18, wv_21, pt_P, pt_v, pt_w, pt_SI, pt_SL, kM_SI, kM_SL, lI_SL, lV_SL, lK_SL, lN_SL, lL_SL, lIs_SL, nI_SI, nV_SI, nK_SI, nN_SI, nL_SI, nIs_SI, pp_c, pp_l, pp_r, pp_k, pp_k0, pp_j, pp_j0, isl]
  rw [st]
  exact ⟨G, mT, a3, FT_mono (FT_trans f0 a4) (by omega), e⟩
