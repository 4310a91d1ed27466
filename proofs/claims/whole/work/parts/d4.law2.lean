/-! THE LAW'S OTHER CASES, ITS LOOP -/
theorem L_2 {D i : Nat} {h H1 H2 : mH} {x : Int32} {l5 l6 l7 l8 : Option Value} (e0 : mCall D 93 [.ref 200] h = some (.inl (some (.int x)), H1)) (e1 : mCall D 125 [.ref 316] H1 = some (.inl (some (.int x)), H2)) (i0 : mIs h 200 10 = true) (i1 : mIs H1 316 13 = true) : mExec (mCall D) 263 308 (LO i l5 l6 l7 l8) [] h = mExec (mCall D) 263 1691 (LO i l5 l6 l7 l8) [] H2 := by
  unfold LO
  simp (maxDischargeDepth := 60) only [x_263_308, x_263_309, x_263_312, x_263_313, x_263_316, e0, e1, i0, i1, Option.bind_some, mAft_n, mAft_v, mAft_x, mS_n, mS_i, mS_r, mS_l, mS_d, ne_eq, not_false_eq_true, not_true_eq_false, true_or, or_true, and_true, true_and, if_true, if_false, ite_true, ite_false, reduceIte, Nat.reduceAdd, Nat.reduceLeDiff, Nat.reduceEqDiff, false_and, and_false, or_false, false_or, eq_self, reduceCtorEq]
theorem L_3 {D i : Nat} {h H1 H2 : mH} {x : Int32} {l5 l6 l7 l8 : Option Value} (e0 : mCall D 126 [.ref 200] h = some (.inl (some (.int x)), H1)) (e1 : mCall D 127 [.ref 316] H1 = some (.inl (some (.int x)), H2)) (i0 : mIs h 200 10 = true) (i1 : mIs H1 316 13 = true) : mExec (mCall D) 263 321 (LO i l5 l6 l7 l8) [] h = mExec (mCall D) 263 1691 (LO i l5 l6 l7 l8) [] H2 := by
  unfold LO
  simp (maxDischargeDepth := 60) only [x_263_321, x_263_322, x_263_325, x_263_326, x_263_329, e0, e1, i0, i1, Option.bind_some, mAft_n, mAft_v, mAft_x, mS_n, mS_i, mS_r, mS_l, mS_d, ne_eq, not_false_eq_true, not_true_eq_false, true_or, or_true, and_true, true_and, if_true, if_false, ite_true, ite_false, reduceIte, Nat.reduceAdd, Nat.reduceLeDiff, Nat.reduceEqDiff, false_and, and_false, or_false, false_or, eq_self, reduceCtorEq]
theorem L_22 {D i : Nat} {h H1 H2 : mH} {x : Int64} {l5 l6 l7 l8 : Option Value} (e0 : mCall D 261 [.ref 200] h = some (.inl (some (.long x)), H1)) (e1 : mCall D 262 [.ref 316] H1 = some (.inl (some (.long x)), H2)) (i0 : mIs h 200 10 = true) (i1 : mIs H1 316 13 = true) : mExec (mCall D) 263 1677 (LO i l5 l6 l7 l8) [] h = mExec (mCall D) 263 1691 (LO i l5 l6 l7 l8) [] H2 := by
  unfold LO
  simp (maxDischargeDepth := 60) only [x_263_1677, x_263_1678, x_263_1681, x_263_1682, x_263_1685, x_263_1686, lcmp_z, e0, e1, i0, i1, Option.bind_some, mAft_n, mAft_v, mAft_x, mS_n, mS_i, mS_r, mS_l, mS_d, ne_eq, not_false_eq_true, not_true_eq_false, true_or, or_true, and_true, true_and, if_true, if_false, ite_true, ite_false, reduceIte, Nat.reduceAdd, Nat.reduceLeDiff, Nat.reduceEqDiff, false_and, and_false, or_false, false_or, eq_self, reduceCtorEq]
theorem L_21 {D i : Nat} {h H1 H2 : mH} {x : UInt64} {l5 l6 l7 l8 : Option Value} (e0 : mCall D 257 [.ref 200] h = some (.inl (some (.double x)), H1)) (e1 : mCall D 258 [.ref 316] H1 = some (.inl (some (.double x)), H2)) (i0 : mIs h 200 10 = true) (i1 : mIs H1 316 13 = true) : mExec (mCall D) 263 1636 (LO i l5 l6 l7 l8) [] h = mExec (mCall D) 263 1691 (LO i (some (.double x)) none (some (.double x)) none) [] H2 := by
  unfold LO
  by_cases c : Op.cmpValue (FP.dcmp x x) .l = 0
  · have c := eq_true c
    simp (maxDischargeDepth := 60) only [x_263_1636, x_263_1637, x_263_1640, x_263_1642, x_263_1643, x_263_1646, x_263_1648, x_263_1650, x_263_1652, x_263_1653, x_263_1674, c, e0, e1, i0, i1, Option.bind_some, mAft_n, mAft_v, mAft_x, mS_n, mS_i, mS_r, mS_l, mS_d, ne_eq, not_false_eq_true, not_true_eq_false, true_or, or_true, and_true, true_and, if_true, if_false, ite_true, ite_false, reduceIte, Nat.reduceAdd, Nat.reduceLeDiff, Nat.reduceEqDiff, false_and, and_false, or_false, false_or, eq_self, reduceCtorEq]
  · have c := eq_false c
    simp (maxDischargeDepth := 60) only [x_263_1636, x_263_1637, x_263_1640, x_263_1642, x_263_1643, x_263_1646, x_263_1648, x_263_1650, x_263_1652, x_263_1653, x_263_1656, x_263_1658, x_263_1660, x_263_1661, x_263_1664, x_263_1666, x_263_1668, x_263_1669, x_263_1674, c, e0, e1, i0, i1, Option.bind_some, mAft_n, mAft_v, mAft_x, mS_n, mS_i, mS_r, mS_l, mS_d, ne_eq, not_false_eq_true, not_true_eq_false, true_or, or_true, and_true, true_and, if_true, if_false, ite_true, ite_false, reduceIte, Nat.reduceAdd, Nat.reduceLeDiff, Nat.reduceEqDiff, false_and, and_false, or_false, false_or, eq_self, reduceCtorEq]
theorem FW_0 {h H : mH} (f : FC h H) : FW h H := ⟨f.1, fun a _ => congrFun f.2.1 a, f.2.2.1, f.2.2.2.1, f.2.2.2.2.1, f.2.2.2.2.2.1, f.2.2.2.2.2.2⟩
theorem OUT_2 {h H H2 : mH} (o : OUT h) (f : FC h H) (g : FM H H2) : OUT H2 := OUT_C o (by rw [(g.1 360 (Or.inr rfl)).2.2.2, f.2.2.1]) (by have := g.2.1; have := f.2.2.2.1; omega)
theorem S_2 {D i : Nat} {h : mH} {l5 l6 l7 l8 : Option Value} (R : REL h) : DONE D i 308 h l5 l6 l7 l8 := by
  obtain ⟨o1, o2, t, E, rn, pn, tn, B, ep, vs, hv, K, S, ea, P, g, m, ro, vo⟩ := R
  have o : OUT h := ⟨o1, o2⟩
  have mp := mG_p m
  have hb : bytes B := mp.2.2.2.2.2.2.2.1
  obtain ⟨_, _, _, _, _, _, hgd, hnr⟩ := m_teach (D := D) m
  obtain ⟨H, c1, c3, c4, c5⟩ := f_teach (d := D + 51) g hb hgd
  have m1 := FW_m (FW_0 c3) m
  obtain ⟨H2, n1, n2, n3, n4, n5, _⟩ := m_teach (D := D + 22) m1
  have fm : FM H H2 := FM_c n3 (by decide)
  have o2 := OUT_2 o c3 fm
  have ex := L_2 (i := i) (l5 := l5) (l6 := l6) (l7 := l7) (l8 := l8) c1 n1 (ki_200 g.1) (mi_316 (mG_kM m1))
  by_cases z : (tRes B).1 = 0
  · obtain ⟨c, j, Q, hos, nr⟩ := hnr z
    obtain ⟨_, _, t1, t2⟩ := c4 z
    have hu : 520 - t = 233 ∨ 520 - t = 287 := by
      have := (gR_t g).2.1
      omega
    have gH := told_g (K := K) (S := S) (ea := ea) hu t1 t2 nr
    have mH2 := n5 z
    rw [hos] at gH mH2
    exact ⟨H2, _, _, _, _, ex, ⟨o2.1, o2.2, 520 - t, _, _, _, _, _, _, vs, false, K, S, ea, P, FM_g fm gH, mH2, told_ok nr, vo⟩, CNT_2 (FW_0 c3) fm⟩
  · exact ⟨H2, _, _, _, _, ex, ⟨o2.1, o2.2, t, E, rn, pn, tn, [], (tRes B).2, vs, hv, K, S, ea, P, FM_g fm (c5 z), n4 z, ro, vo⟩, CNT_2 (FW_0 c3) fm⟩
theorem S_3 {D i : Nat} {h : mH} {l5 l6 l7 l8 : Option Value} (R : REL h) : DONE D i 321 h l5 l6 l7 l8 := by
  obtain ⟨o1, o2, t, E, rn, pn, tn, B, ep, vs, hv, K, S, ea, P, g, m, ro, vo⟩ := R
  have o : OUT h := ⟨o1, o2⟩
  have c1 := f_errorAt (d := D + 59) g.1
  rw [g.2.2.2.2.2.1] at c1
  obtain ⟨H2, n1, n2, n3, n4⟩ := m_errorAt (d := D + 59) m
  have o2 := OUT_2 o FC_refl n4
  exact ⟨H2, _, _, _, _, L_3 c1 n1 (ki_200 g.1) (mi_316 (mG_kM m)), ⟨o2.1, o2.2, t, E, rn, pn, tn, B, ep, vs, hv, K, S, ea, P, FM_g n4 g, n3, ro, vo⟩, CNT_2 (FW_0 FC_refl) n4⟩
theorem S_21 {D i : Nat} {h : mH} {l5 l6 l7 l8 : Option Value} (R : REL h) : DONE D i 1636 h l5 l6 l7 l8 := by
  obtain ⟨o1, o2, t, E, rn, pn, tn, B, ep, vs, hv, K, S, ea, P, g, m, ro, vo⟩ := R
  have o : OUT h := ⟨o1, o2⟩
  have c1 := f_share (d := D + 56) g
  obtain ⟨H2, n1, n3, n4⟩ := m_share (d := D + 57) m
  have o2 := OUT_2 o FC_refl n4
  exact ⟨H2, _, _, _, _, L_21 c1 n1 (ki_200 g.1) (mi_316 (mG_kM m)), ⟨o2.1, o2.2, t, E, rn, pn, tn, B, ep, vs, hv, K, S, ea, P, FM_g n4 g, n3, ro, vo⟩, CNT_2 (FW_0 FC_refl) n4⟩
theorem S_22 {D i : Nat} {h : mH} {l5 l6 l7 l8 : Option Value} (R : REL h) : DONE D i 1677 h l5 l6 l7 l8 := by
  obtain ⟨o1, o2, t, E, rn, pn, tn, B, ep, vs, hv, K, S, ea, P, g, m, ro, vo⟩ := R
  have o : OUT h := ⟨o1, o2⟩
  obtain ⟨H, c1, c2, c3⟩ := f_digest (d := D + 54) g
  have m1 := FW_m (FW_0 c3) m
  obtain ⟨H2, n1, n3, n4⟩ := m_digest (d := D + 56) m1
  have o2 := OUT_2 o c3 n4
  exact ⟨H2, _, _, _, _, L_22 c1 n1 (ki_200 g.1) (mi_316 (mG_kM m1)), ⟨o2.1, o2.2, t, E, rn, pn, tn, B, ep, vs, hv, K, S, ea, P, FM_g n4 c2, n3, ro, vo⟩, CNT_2 (FW_0 c3) n4⟩
/-- a call of the law -/
theorem S_all {D i : Nat} {h : mH} {X : Nat × (Nat → Int32)} {x : Int32} {l5 l6 l7 l8 : Option Value} (hX : mX h = X) (hl : X.1 ≤ 100000) (hi : i + 5 < X.1) (R : REL h) : ∃ H a b c d, mExec (mCall (D + 60)) 263 40 (LO i l5 l6 l7 l8) [.int x] h = mExec (mCall (D + 60)) 263 1691 (LO i a b c d) [] H ∧ REL H ∧ CNT h H := by
  rw [x_263_40]
  by_cases c0 : x = 0
  · rw [if_pos c0]; exact S_0 hX hl hi R
  rw [if_neg c0]
  by_cases c1 : x = 1
  · rw [if_pos c1]; exact S_1 hX hl hi R
  rw [if_neg c1]
  by_cases c2 : x = 2
  · rw [if_pos c2]; exact S_2 R
  rw [if_neg c2]
  by_cases c3 : x = 3
  · rw [if_pos c3]; exact S_3 R
  rw [if_neg c3]
  by_cases c4 : x = 4
  · rw [if_pos c4]; exact S_4 hX hl hi R
  rw [if_neg c4]
  by_cases c5 : x = 5
  · rw [if_pos c5]; exact S_5 hX hl hi R
  rw [if_neg c5]
  by_cases c6 : x = 6
  · rw [if_pos c6]; exact S_6 hX hl hi R
  rw [if_neg c6]
  by_cases c7 : x = 7
  · rw [if_pos c7]; exact S_7 hX hl hi R
  rw [if_neg c7]
  by_cases c8 : x = 8
  · rw [if_pos c8]; exact S_8 hX hl hi R
  rw [if_neg c8]
  by_cases c9 : x = 9
  · rw [if_pos c9]; exact S_9 hX hl hi R
  rw [if_neg c9]
  by_cases c10 : x = 10
  · rw [if_pos c10]; exact S_10 hX hl hi R
  rw [if_neg c10]
  by_cases c11 : x = 11
  · rw [if_pos c11]; exact S_11 hX hl hi R
  rw [if_neg c11]
  by_cases c12 : x = 12
  · rw [if_pos c12]; exact S_12 hX hl hi R
  rw [if_neg c12]
  by_cases c13 : x = 13
  · rw [if_pos c13]; exact S_13 hX hl hi R
  rw [if_neg c13]
  by_cases c14 : x = 14
  · rw [if_pos c14]; exact S_14 hX hl hi R
  rw [if_neg c14]
  by_cases c15 : x = 15
  · rw [if_pos c15]; exact S_15 hX hl hi R
  rw [if_neg c15]
  by_cases c16 : x = 16
  · rw [if_pos c16]; exact S_16 hX hl hi R
  rw [if_neg c16]
  by_cases c17 : x = 17
  · rw [if_pos c17]; exact S_17 hX hl hi R
  rw [if_neg c17]
  by_cases c18 : x = 18
  · rw [if_pos c18]; exact S_18 hX hl hi R
  rw [if_neg c18]
  by_cases c19 : x = 19
  · rw [if_pos c19]; exact S_19 hX hl hi R
  rw [if_neg c19]
  by_cases c20 : x = 20
  · rw [if_pos c20]; exact S_20 hX hl hi R
  rw [if_neg c20]
  by_cases c21 : x = 21
  · rw [if_pos c21]; exact S_21 R
  rw [if_neg c21]
  by_cases c22 : x = 22
  · rw [if_pos c22]; exact S_22 R
  rw [if_neg c22]
  exact ⟨h, _, _, _, _, rfl, R, rfl, by omega, by omega⟩
theorem e_len {C : Nat → List Value → mH → Option mO} {lo : mLo} {st : List Value} {h : mH} : mExec C 263 26 lo (.ref 0 :: st) h = mExec C 263 27 lo (.int (Int32.ofNat (mX h).1) :: st) h := e_cl (q := (.int, (mX h).1, fun j => .int ((mX h).2 j))) (show mIns 263 26 = some (.arraylength, 1, []) by decide +kernel) (by decide +kernel) rfl
theorem sub_6 {i n : Nat} (hi : i ≤ 100000) (hn : n ≤ 100000) : (Int32.ofNat n - 6 < Int32.ofNat i) = (n < i + 6) := by
  apply propext
  have e : (Int32.ofNat n - 6).toInt = (n : Int) - 6 := by
    rw [i_sub] <;> rw [i_of_i (by omega), show (6 : Int32).toInt = 6 from rfl] <;> omega
  rw [i_lt, e, i_of_i (by omega)]
  omega
/-- the law's loop -/
theorem L_loop {D : Nat} {X : Nat × (Nat → Int32)} (hl : X.1 ≤ 6000) : ∀ (n i : Nat) (h : mH) (l5 l6 l7 l8 : Option Value), X.1 + 1 ≤ i + 6 * n → i ≤ X.1 + 5 → mX h = X → REL h → ∃ H, mExec (mCall (D + 60)) 263 23 (LO i l5 l6 l7 l8) [] h = some (.inl (some (.int 1)), H) ∧ mC H ≤ mC h + 1001 * n ∧ mS H ≤ mS h + 14006 * n := by
  intro n
  induction n with
  | zero =>
    intro i h l5 l6 l7 l8 h1 h2 hX R
    have c := eq_true (show X.1 < i + 6 by omega)
    have s6 := sub_6 (i := i) (n := X.1) (by omega) (by omega)
    refine ⟨h, ?_, by omega, by omega⟩
    unfold LO
    simp (maxDischargeDepth := 60) only [x_263_23, x_263_25, e_len, x_263_27, x_263_29, x_263_30, x_263_1697, x_263_1698, hX, s6, c, Option.bind_some, mAft_n, mAft_v, mAft_x, mS_n, mS_i, mS_r, mS_l, mS_d, ne_eq, not_false_eq_true, not_true_eq_false, true_or, or_true, and_true, true_and, if_true, if_false, ite_true, ite_false, reduceIte, Nat.reduceAdd, Nat.reduceLeDiff, Nat.reduceEqDiff, false_and, and_false, or_false, false_or, eq_self, reduceCtorEq]
  | succ n ih =>
    intro i h l5 l6 l7 l8 h1 h2 hX R
    have s6 := sub_6 (i := i) (n := X.1) (by omega) (by omega)
    by_cases c : X.1 < i + 6
    · have c := eq_true c
      refine ⟨h, ?_, by omega, by omega⟩
      unfold LO
      simp (maxDischargeDepth := 60) only [x_263_23, x_263_25, e_len, x_263_27, x_263_29, x_263_30, x_263_1697, x_263_1698, hX, s6, c, Option.bind_some, mAft_n, mAft_v, mAft_x, mS_n, mS_i, mS_r, mS_l, mS_d, ne_eq, not_false_eq_true, not_true_eq_false, true_or, or_true, and_true, true_and, if_true, if_false, ite_true, ite_false, reduceIte, Nat.reduceAdd, Nat.reduceLeDiff, Nat.reduceEqDiff, false_and, and_false, or_false, false_or, eq_self, reduceCtorEq]
    · have q0 := eq_true (show i < X.1 by omega)
      have ql := eq_true (show X.1 ≤ 100000 by omega)
      obtain ⟨H, a, b, e, f, s1, s2, s3⟩ := S_all (D := D) (i := i) (x := X.2 i &&& 31) (l5 := l5) (l6 := l6) (l7 := l7) (l8 := l8) hX (by omega) (by omega) R
      obtain ⟨z1, z2, z3⟩ := s3
      obtain ⟨K, k1, k2, k3⟩ := ih (i + 6) H a b e f (by omega) (by omega) (z1.trans hX) s2
      refine ⟨K, ?_, by omega, by omega⟩
      rw [← k1]
      have c := eq_false c
      have a6 : Int32.ofNat i + 6 = Int32.ofNat (i + 6) := i_addof (n := 6)
      have st : mExec (mCall (D + 60)) 263 23 (LO i l5 l6 l7 l8) [] h = mExec (mCall (D + 60)) 263 40 (LO i l5 l6 l7 l8) [.int (X.2 i &&& 31)] h := by
        unfold LO
        simp (maxDischargeDepth := 60) only [x_263_23, x_263_25, e_len, x_263_27, x_263_29, x_263_30, x_263_33, x_263_34, y_263_36, x_263_37, x_263_39, hX, s6, c, q0, ql, Option.bind_some, mAft_n, mAft_v, mAft_x, mS_n, mS_i, mS_r, mS_l, mS_d, ne_eq, not_false_eq_true, not_true_eq_false, true_or, or_true, and_true, true_and, if_true, if_false, ite_true, ite_false, reduceIte, Nat.reduceAdd, Nat.reduceLeDiff, Nat.reduceEqDiff, false_and, and_false, or_false, false_or, eq_self, reduceCtorEq]
      rw [st, s1]
      unfold LO
      simp (maxDischargeDepth := 60) only [x_263_1691, x_263_1694, a6]
